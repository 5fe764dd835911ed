abbrev mX9_init : Mt := (yX9_init, cX9_init, 2, none)
theorem moX9_init : mOk mX9_init 0 := ⟨wall_t1 (i := 18) rfl rfl, wall_t1 (i := 1) rfl rfl, ⟨by decide +kernel, by decide +kernel⟩, by decide +kernel, by decide +kernel⟩
theorem miX9_init : Cond.instanceMethod mX9_init.1 ∈ Wall := wall_t1 (i := 17) rfl rfl
abbrev mX3_init : Mt := (yX3_init, cX3_init, 2, none)
theorem moX3_init : mOk mX3_init 0 := ⟨wall_t1 (i := 26) rfl rfl, wall_t1 (i := 2) rfl rfl, ⟨by decide +kernel, by decide +kernel⟩, by decide +kernel, by decide +kernel⟩
theorem miX3_init : Cond.instanceMethod mX3_init.1 ∈ Wall := wall_t1 (i := 25) rfl rfl
abbrev mX3_glassPlace : Mt := (yX3_glassPlace, cX3_glassPlace, 1, (some .int))
theorem moX3_glassPlace : mOk mX3_glassPlace 1 := ⟨wall_t1 (i := 30) rfl rfl, wall_t1 (i := 2) rfl rfl, ⟨by decide +kernel, by decide +kernel⟩, by decide +kernel, by decide +kernel⟩
theorem mtX3_glassPlace : Cond.static mX3_glassPlace.1 ∈ Wall := wall_t1 (i := 29) rfl rfl
abbrev mX6_init : Mt := (yX6_init, cX6_init, 1, none)
theorem moX6_init : mOk mX6_init 0 := ⟨wall_t1 (i := 50) rfl rfl, wall_t1 (i := 3) rfl rfl, ⟨by decide +kernel, by decide +kernel⟩, by decide +kernel, by decide +kernel⟩
theorem miX6_init : Cond.instanceMethod mX6_init.1 ∈ Wall := wall_t1 (i := 49) rfl rfl
abbrev mX7_init : Mt := (yX7_init, cX7_init, 1, none)
theorem moX7_init : mOk mX7_init 0 := ⟨wall_t1 (i := 56) rfl rfl, wall_t1 (i := 4) rfl rfl, ⟨by decide +kernel, by decide +kernel⟩, by decide +kernel, by decide +kernel⟩
theorem miX7_init : Cond.instanceMethod mX7_init.1 ∈ Wall := wall_t1 (i := 55) rfl rfl
abbrev mX2_init : Mt := (yX2_init, cX2_init, 2, none)
theorem moX2_init : mOk mX2_init 1 := ⟨wall_t1 (i := 98) rfl rfl, wall_t1 (i := 5) rfl rfl, ⟨by decide +kernel, by decide +kernel⟩, by decide +kernel, by decide +kernel⟩
theorem miX2_init : Cond.instanceMethod mX2_init.1 ∈ Wall := wall_t1 (i := 97) rfl rfl
abbrev mX1_init : Mt := (yX1_init, cX1_init, 3, none)
theorem moX1_init : mOk mX1_init 2 := ⟨wall_t1 (i := 120) rfl rfl, wall_t1 (i := 6) rfl rfl, ⟨by decide +kernel, by decide +kernel⟩, by decide +kernel, by decide +kernel⟩
theorem miX1_init : Cond.instanceMethod mX1_init.1 ∈ Wall := wall_t1 (i := 119) rfl rfl
abbrev mX8_init : Mt := (yX8_init, cX8_init, 4, none)
theorem moX8_init : mOk mX8_init 3 := ⟨wall_t1 (i := 174) rfl rfl, wall_t1 (i := 7) rfl rfl, ⟨by decide +kernel, by decide +kernel⟩, by decide +kernel, by decide +kernel⟩
theorem miX8_init : Cond.instanceMethod mX8_init.1 ∈ Wall := wall_t1 (i := 173) rfl rfl
abbrev mX0_init : Mt := (yX0_init, cX0_init, 1, none)
theorem moX0_init : mOk mX0_init 0 := ⟨wall_t1 (i := 208) rfl rfl, wall_t1 (i := 8) rfl rfl, ⟨by decide +kernel, by decide +kernel⟩, by decide +kernel, by decide +kernel⟩
theorem miX0_init : Cond.instanceMethod mX0_init.1 ∈ Wall := wall_t1 (i := 207) rfl rfl
abbrev mX5_init : Mt := (yX5_init, cX5_init, 1, none)
theorem moX5_init : mOk mX5_init 0 := ⟨wall_t1 (i := 232) rfl rfl, wall_t1 (i := 9) rfl rfl, ⟨by decide +kernel, by decide +kernel⟩, by decide +kernel, by decide +kernel⟩
theorem miX5_init : Cond.instanceMethod mX5_init.1 ∈ Wall := wall_t1 (i := 231) rfl rfl
abbrev mX4_init : Mt := (yX4_init, cX4_init, 1, none)
theorem moX4_init : mOk mX4_init 0 := ⟨wall_t2 (i := 14) rfl rfl, wall_t1 (i := 10) rfl rfl, ⟨by decide +kernel, by decide +kernel⟩, by decide +kernel, by decide +kernel⟩
theorem miX4_init : Cond.instanceMethod mX4_init.1 ∈ Wall := wall_t2 (i := 13) rfl rfl
abbrev mX9_straw : Mt := (yX9_straw, cX9_straw, 3, (some .int))
theorem moX9_straw : mOk mX9_straw 2 := ⟨wall_t2 (i := 70) rfl rfl, wall_t1 (i := 1) rfl rfl, ⟨by decide +kernel, by decide +kernel⟩, by decide +kernel, by decide +kernel⟩
theorem miX9_straw : Cond.instanceMethod mX9_straw.1 ∈ Wall := wall_t2 (i := 68) rfl rfl
theorem msX9_straw : Cond.selects mX9_straw.1.cls mX9_straw.1 mX9_straw.1 ∈ Wall := wall_t2 (i := 69) rfl rfl
abbrev mX3_fits : Mt := (yX3_fits, cX3_fits, 2, (some .boolean))
theorem moX3_fits : mOk mX3_fits 2 := ⟨wall_t2 (i := 73) rfl rfl, wall_t1 (i := 2) rfl rfl, ⟨by decide +kernel, by decide +kernel⟩, by decide +kernel, by decide +kernel⟩
theorem mtX3_fits : Cond.static mX3_fits.1 ∈ Wall := wall_t2 (i := 72) rfl rfl
abbrev mX3_add : Mt := (yX3_add, cX3_add, 5, (some .int))
theorem moX3_add : mOk mX3_add 3 := ⟨wall_t2 (i := 82) rfl rfl, wall_t1 (i := 2) rfl rfl, ⟨by decide +kernel, by decide +kernel⟩, by decide +kernel, by decide +kernel⟩
theorem miX3_add : Cond.instanceMethod mX3_add.1 ∈ Wall := wall_t2 (i := 80) rfl rfl
theorem msX3_add : Cond.selects mX3_add.1.cls mX3_add.1 mX3_add.1 ∈ Wall := wall_t2 (i := 81) rfl rfl
abbrev mX9_straws : Mt := (yX9_straws, cX9_straws, 7, (some .int))
theorem moX9_straws : mOk mX9_straws 3 := ⟨wall_t2 (i := 89) rfl rfl, wall_t1 (i := 1) rfl rfl, ⟨by decide +kernel, by decide +kernel⟩, by decide +kernel, by decide +kernel⟩
theorem miX9_straws : Cond.instanceMethod mX9_straws.1 ∈ Wall := wall_t2 (i := 87) rfl rfl
theorem msX9_straws : Cond.selects mX9_straws.1.cls mX9_straws.1 mX9_straws.1 ∈ Wall := wall_t2 (i := 88) rfl rfl
abbrev mX9_isShelf : Mt := (yX9_isShelf, cX9_isShelf, 1, (some .boolean))
theorem moX9_isShelf : mOk mX9_isShelf 1 := ⟨wall_t2 (i := 92) rfl rfl, wall_t1 (i := 1) rfl rfl, ⟨by decide +kernel, by decide +kernel⟩, by decide +kernel, by decide +kernel⟩
theorem mtX9_isShelf : Cond.static mX9_isShelf.1 ∈ Wall := wall_t2 (i := 91) rfl rfl
abbrev mX9_isWithin : Mt := (yX9_isWithin, cX9_isWithin, 2, (some .boolean))
theorem moX9_isWithin : mOk mX9_isWithin 2 := ⟨wall_t2 (i := 95) rfl rfl, wall_t1 (i := 1) rfl rfl, ⟨by decide +kernel, by decide +kernel⟩, by decide +kernel, by decide +kernel⟩
theorem mtX9_isWithin : Cond.static mX9_isWithin.1 ∈ Wall := wall_t2 (i := 94) rfl rfl
abbrev mX4_hasPlaces : Mt := (yX4_hasPlaces, cX4_hasPlaces, 3, (some .boolean))
theorem moX4_hasPlaces : mOk mX4_hasPlaces 2 := ⟨wall_t2 (i := 99) rfl rfl, wall_t1 (i := 10) rfl rfl, ⟨by decide +kernel, by decide +kernel⟩, by decide +kernel, by decide +kernel⟩
theorem miX4_hasPlaces : Cond.instanceMethod mX4_hasPlaces.1 ∈ Wall := wall_t2 (i := 97) rfl rfl
theorem msX4_hasPlaces : Cond.selects mX4_hasPlaces.1.cls mX4_hasPlaces.1 mX4_hasPlaces.1 ∈ Wall := wall_t2 (i := 98) rfl rfl
abbrev mX9_addStraw : Mt := (yX9_addStraw, cX9_addStraw, 6, (some .boolean))
theorem moX9_addStraw : mOk mX9_addStraw 2 := ⟨wall_t2 (i := 103) rfl rfl, wall_t1 (i := 1) rfl rfl, ⟨by decide +kernel, by decide +kernel⟩, by decide +kernel, by decide +kernel⟩
theorem miX9_addStraw : Cond.instanceMethod mX9_addStraw.1 ∈ Wall := wall_t2 (i := 102) rfl rfl
theorem msX9_addStraw : Cond.selects mX9_addStraw.1.cls mX9_addStraw.1 mX9_addStraw.1 ∈ Wall := wall_sel (i := 0) rfl rfl
abbrev mX9_mend : Mt := (yX9_mend, cX9_mend, 6, (some .int))
theorem moX9_mend : mOk mX9_mend 3 := ⟨wall_t2 (i := 107) rfl rfl, wall_t1 (i := 1) rfl rfl, ⟨by decide +kernel, by decide +kernel⟩, by decide +kernel, by decide +kernel⟩
theorem miX9_mend : Cond.instanceMethod mX9_mend.1 ∈ Wall := wall_t2 (i := 105) rfl rfl
theorem msX9_mend : Cond.selects mX9_mend.1.cls mX9_mend.1 mX9_mend.1 ∈ Wall := wall_t2 (i := 106) rfl rfl
abbrev mX3_place : Mt := (yX3_place, cX3_place, 3, (some .int))
theorem moX3_place : mOk mX3_place 2 := ⟨wall_t2 (i := 111) rfl rfl, wall_t1 (i := 2) rfl rfl, ⟨by decide +kernel, by decide +kernel⟩, by decide +kernel, by decide +kernel⟩
theorem miX3_place : Cond.instanceMethod mX3_place.1 ∈ Wall := wall_t2 (i := 109) rfl rfl
theorem msX3_place : Cond.selects mX3_place.1.cls mX3_place.1 mX3_place.1 ∈ Wall := wall_t2 (i := 110) rfl rfl
abbrev mX0_note : Mt := (yX0_note, cX0_note, 4, none)
theorem moX0_note : mOk mX0_note 3 := ⟨wall_t2 (i := 116) rfl rfl, wall_t1 (i := 8) rfl rfl, ⟨by decide +kernel, by decide +kernel⟩, by decide +kernel, by decide +kernel⟩
theorem miX0_note : Cond.instanceMethod mX0_note.1 ∈ Wall := wall_t2 (i := 114) rfl rfl
theorem msX0_note : Cond.selects mX0_note.1.cls mX0_note.1 mX0_note.1 ∈ Wall := wall_t2 (i := 115) rfl rfl
abbrev mX0_forgetOldest : Mt := (yX0_forgetOldest, cX0_forgetOldest, 1, none)
theorem moX0_forgetOldest : mOk mX0_forgetOldest 0 := ⟨wall_t2 (i := 120) rfl rfl, wall_t1 (i := 8) rfl rfl, ⟨by decide +kernel, by decide +kernel⟩, by decide +kernel, by decide +kernel⟩
theorem miX0_forgetOldest : Cond.instanceMethod mX0_forgetOldest.1 ∈ Wall := wall_t2 (i := 119) rfl rfl
theorem msX0_forgetOldest : Cond.selects mX0_forgetOldest.1.cls mX0_forgetOldest.1 mX0_forgetOldest.1 ∈ Wall := wall_sel (i := 1) rfl rfl
abbrev mX9_of : Mt := (yX9_of, cX9_of, 4, (some .int))
theorem moX9_of : mOk mX9_of 2 := ⟨wall_t2 (i := 125) rfl rfl, wall_t1 (i := 1) rfl rfl, ⟨by decide +kernel, by decide +kernel⟩, by decide +kernel, by decide +kernel⟩
theorem miX9_of : Cond.instanceMethod mX9_of.1 ∈ Wall := wall_t2 (i := 123) rfl rfl
theorem msX9_of : Cond.selects mX9_of.1.cls mX9_of.1 mX9_of.1 ∈ Wall := wall_t2 (i := 124) rfl rfl
abbrev mX9_feed : Mt := (yX9_feed, cX9_feed, 2, (some .int))
theorem moX9_feed : mOk mX9_feed 1 := ⟨wall_t2 (i := 129) rfl rfl, wall_t1 (i := 1) rfl rfl, ⟨by decide +kernel, by decide +kernel⟩, by decide +kernel, by decide +kernel⟩
theorem miX9_feed : Cond.instanceMethod mX9_feed.1 ∈ Wall := wall_t2 (i := 127) rfl rfl
theorem msX9_feed : Cond.selects mX9_feed.1.cls mX9_feed.1 mX9_feed.1 ∈ Wall := wall_t2 (i := 128) rfl rfl
abbrev mX6_add : Mt := (yX6_add, cX6_add, 2, (some .boolean))
theorem moX6_add : mOk mX6_add 1 := ⟨wall_t2 (i := 133) rfl rfl, wall_t1 (i := 3) rfl rfl, ⟨by decide +kernel, by decide +kernel⟩, by decide +kernel, by decide +kernel⟩
theorem miX6_add : Cond.instanceMethod mX6_add.1 ∈ Wall := wall_t2 (i := 131) rfl rfl
theorem msX6_add : Cond.selects mX6_add.1.cls mX6_add.1 mX6_add.1 ∈ Wall := wall_t2 (i := 132) rfl rfl
abbrev mX9_law : Mt := (yX9_law, cX9_law, 3, (some .int))
theorem moX9_law : mOk mX9_law 0 := ⟨wall_t2 (i := 137) rfl rfl, wall_t1 (i := 1) rfl rfl, ⟨by decide +kernel, by decide +kernel⟩, by decide +kernel, by decide +kernel⟩
theorem miX9_law : Cond.instanceMethod mX9_law.1 ∈ Wall := wall_t2 (i := 135) rfl rfl
theorem msX9_law : Cond.selects mX9_law.1.cls mX9_law.1 mX9_law.1 ∈ Wall := wall_t2 (i := 136) rfl rfl
abbrev mX6_read : Mt := (yX6_read, cX6_read, 2, (some .int))
theorem moX6_read : mOk mX6_read 0 := ⟨wall_t2 (i := 141) rfl rfl, wall_t1 (i := 3) rfl rfl, ⟨by decide +kernel, by decide +kernel⟩, by decide +kernel, by decide +kernel⟩
theorem miX6_read : Cond.instanceMethod mX6_read.1 ∈ Wall := wall_t2 (i := 139) rfl rfl
theorem msX6_read : Cond.selects mX6_read.1.cls mX6_read.1 mX6_read.1 ∈ Wall := wall_t2 (i := 140) rfl rfl
abbrev mX7_clear : Mt := (yX7_clear, cX7_clear, 1, none)
theorem moX7_clear : mOk mX7_clear 0 := ⟨wall_t2 (i := 145) rfl rfl, wall_t1 (i := 4) rfl rfl, ⟨by decide +kernel, by decide +kernel⟩, by decide +kernel, by decide +kernel⟩
theorem miX7_clear : Cond.instanceMethod mX7_clear.1 ∈ Wall := wall_t2 (i := 143) rfl rfl
theorem msX7_clear : Cond.selects mX7_clear.1.cls mX7_clear.1 mX7_clear.1 ∈ Wall := wall_t2 (i := 144) rfl rfl
abbrev mX6_readLine : Mt := (yX6_readLine, cX6_readLine, 1, (some .boolean))
theorem moX6_readLine : mOk mX6_readLine 0 := ⟨wall_t2 (i := 149) rfl rfl, wall_t1 (i := 3) rfl rfl, ⟨by decide +kernel, by decide +kernel⟩, by decide +kernel, by decide +kernel⟩
theorem miX6_readLine : Cond.instanceMethod mX6_readLine.1 ∈ Wall := wall_t2 (i := 148) rfl rfl
theorem msX6_readLine : Cond.selects mX6_readLine.1.cls mX6_readLine.1 mX6_readLine.1 ∈ Wall := wall_sel (i := 2) rfl rfl
abbrev mX6_readJoined : Mt := (yX6_readJoined, cX6_readJoined, 7, (some .boolean))
theorem moX6_readJoined : mOk mX6_readJoined 2 := ⟨wall_t2 (i := 153) rfl rfl, wall_t1 (i := 3) rfl rfl, ⟨by decide +kernel, by decide +kernel⟩, by decide +kernel, by decide +kernel⟩
theorem miX6_readJoined : Cond.instanceMethod mX6_readJoined.1 ∈ Wall := wall_t2 (i := 152) rfl rfl
theorem msX6_readJoined : Cond.selects mX6_readJoined.1.cls mX6_readJoined.1 mX6_readJoined.1 ∈ Wall := wall_sel (i := 3) rfl rfl
abbrev mX6_readOne : Mt := (yX6_readOne, cX6_readOne, 5, (some .boolean))
theorem moX6_readOne : mOk mX6_readOne 1 := ⟨wall_t2 (i := 157) rfl rfl, wall_t1 (i := 3) rfl rfl, ⟨by decide +kernel, by decide +kernel⟩, by decide +kernel, by decide +kernel⟩
theorem miX6_readOne : Cond.instanceMethod mX6_readOne.1 ∈ Wall := wall_t2 (i := 156) rfl rfl
theorem msX6_readOne : Cond.selects mX6_readOne.1.cls mX6_readOne.1 mX6_readOne.1 ∈ Wall := wall_sel (i := 4) rfl rfl
abbrev mX6_next : Mt := (yX6_next, cX6_next, 1, (some .int))
theorem moX6_next : mOk mX6_next 0 := ⟨wall_t2 (i := 161) rfl rfl, wall_t1 (i := 3) rfl rfl, ⟨by decide +kernel, by decide +kernel⟩, by decide +kernel, by decide +kernel⟩
theorem miX6_next : Cond.instanceMethod mX6_next.1 ∈ Wall := wall_t2 (i := 160) rfl rfl
theorem msX6_next : Cond.selects mX6_next.1.cls mX6_next.1 mX6_next.1 ∈ Wall := wall_sel (i := 5) rfl rfl
abbrev mX6_isDigit : Mt := (yX6_isDigit, cX6_isDigit, 1, (some .boolean))
theorem moX6_isDigit : mOk mX6_isDigit 1 := ⟨wall_t2 (i := 164) rfl rfl, wall_t1 (i := 3) rfl rfl, ⟨by decide +kernel, by decide +kernel⟩, by decide +kernel, by decide +kernel⟩
theorem mtX6_isDigit : Cond.static mX6_isDigit.1 ∈ Wall := wall_t2 (i := 163) rfl rfl
abbrev mX6_readNumber : Mt := (yX6_readNumber, cX6_readNumber, 3, none)
theorem moX6_readNumber : mOk mX6_readNumber 0 := ⟨wall_t2 (i := 168) rfl rfl, wall_t1 (i := 3) rfl rfl, ⟨by decide +kernel, by decide +kernel⟩, by decide +kernel, by decide +kernel⟩
theorem miX6_readNumber : Cond.instanceMethod mX6_readNumber.1 ∈ Wall := wall_t2 (i := 167) rfl rfl
theorem msX6_readNumber : Cond.selects mX6_readNumber.1.cls mX6_readNumber.1 mX6_readNumber.1 ∈ Wall := wall_sel (i := 6) rfl rfl
abbrev mX7_add : Mt := (yX7_add, cX7_add, 2, none)
theorem moX7_add : mOk mX7_add 1 := ⟨wall_t2 (i := 172) rfl rfl, wall_t1 (i := 4) rfl rfl, ⟨by decide +kernel, by decide +kernel⟩, by decide +kernel, by decide +kernel⟩
theorem miX7_add : Cond.instanceMethod mX7_add.1 ∈ Wall := wall_t2 (i := 170) rfl rfl
theorem msX7_add : Cond.selects mX7_add.1.cls mX7_add.1 mX7_add.1 ∈ Wall := wall_t2 (i := 171) rfl rfl
abbrev mX6_naming : Mt := (yX6_naming, cX6_naming, 1, (some .int))
theorem moX6_naming : mOk mX6_naming 1 := ⟨wall_t2 (i := 175) rfl rfl, wall_t1 (i := 3) rfl rfl, ⟨by decide +kernel, by decide +kernel⟩, by decide +kernel, by decide +kernel⟩
theorem mtX6_naming : Cond.static mX6_naming.1 ∈ Wall := wall_t2 (i := 174) rfl rfl
abbrev mX6_passes : Mt := (yX6_passes, cX6_passes, 2, (some .boolean))
theorem moX6_passes : mOk mX6_passes 1 := ⟨wall_t2 (i := 179) rfl rfl, wall_t1 (i := 3) rfl rfl, ⟨by decide +kernel, by decide +kernel⟩, by decide +kernel, by decide +kernel⟩
theorem miX6_passes : Cond.instanceMethod mX6_passes.1 ∈ Wall := wall_t2 (i := 178) rfl rfl
theorem msX6_passes : Cond.selects mX6_passes.1.cls mX6_passes.1 mX6_passes.1 ∈ Wall := wall_sel (i := 7) rfl rfl
abbrev mX6_joining : Mt := (yX6_joining, cX6_joining, 2, (some .int))
theorem moX6_joining : mOk mX6_joining 2 := ⟨wall_t2 (i := 182) rfl rfl, wall_t1 (i := 3) rfl rfl, ⟨by decide +kernel, by decide +kernel⟩, by decide +kernel, by decide +kernel⟩
theorem mtX6_joining : Cond.static mX6_joining.1 ∈ Wall := wall_t2 (i := 181) rfl rfl
abbrev mX7_endPart : Mt := (yX7_endPart, cX7_endPart, 2, none)
theorem moX7_endPart : mOk mX7_endPart 1 := ⟨wall_t2 (i := 186) rfl rfl, wall_t1 (i := 4) rfl rfl, ⟨by decide +kernel, by decide +kernel⟩, by decide +kernel, by decide +kernel⟩
theorem miX7_endPart : Cond.instanceMethod mX7_endPart.1 ∈ Wall := wall_t2 (i := 184) rfl rfl
theorem msX7_endPart : Cond.selects mX7_endPart.1.cls mX7_endPart.1 mX7_endPart.1 ∈ Wall := wall_t2 (i := 185) rfl rfl
abbrev mX9_wants : Mt := (yX9_wants, cX9_wants, 4, (some .int))
theorem moX9_wants : mOk mX9_wants 3 := ⟨wall_t2 (i := 190) rfl rfl, wall_t1 (i := 1) rfl rfl, ⟨by decide +kernel, by decide +kernel⟩, by decide +kernel, by decide +kernel⟩
theorem miX9_wants : Cond.instanceMethod mX9_wants.1 ∈ Wall := wall_t2 (i := 188) rfl rfl
theorem msX9_wants : Cond.selects mX9_wants.1.cls mX9_wants.1 mX9_wants.1 ∈ Wall := wall_t2 (i := 189) rfl rfl
abbrev mX9_isStraw : Mt := (yX9_isStraw, cX9_isStraw, 2, (some .boolean))
theorem moX9_isStraw : mOk mX9_isStraw 1 := ⟨wall_t2 (i := 194) rfl rfl, wall_t1 (i := 1) rfl rfl, ⟨by decide +kernel, by decide +kernel⟩, by decide +kernel, by decide +kernel⟩
theorem miX9_isStraw : Cond.instanceMethod mX9_isStraw.1 ∈ Wall := wall_t2 (i := 193) rfl rfl
theorem msX9_isStraw : Cond.selects mX9_isStraw.1.cls mX9_isStraw.1 mX9_isStraw.1 ∈ Wall := wall_sel (i := 8) rfl rfl
abbrev mX2_want : Mt := (yX2_want, cX2_want, 8, (some .int))
theorem moX2_want : mOk mX2_want 3 := ⟨wall_t2 (i := 198) rfl rfl, wall_t1 (i := 5) rfl rfl, ⟨by decide +kernel, by decide +kernel⟩, by decide +kernel, by decide +kernel⟩
theorem miX2_want : Cond.instanceMethod mX2_want.1 ∈ Wall := wall_t2 (i := 196) rfl rfl
theorem msX2_want : Cond.selects mX2_want.1.cls mX2_want.1 mX2_want.1 ∈ Wall := wall_t2 (i := 197) rfl rfl
abbrev mX2_plain : Mt := (yX2_plain, cX2_plain, 5, (some .int))
theorem moX2_plain : mOk mX2_plain 2 := ⟨wall_t2 (i := 202) rfl rfl, wall_t1 (i := 5) rfl rfl, ⟨by decide +kernel, by decide +kernel⟩, by decide +kernel, by decide +kernel⟩
theorem miX2_plain : Cond.instanceMethod mX2_plain.1 ∈ Wall := wall_t2 (i := 201) rfl rfl
theorem msX2_plain : Cond.selects mX2_plain.1.cls mX2_plain.1 mX2_plain.1 ∈ Wall := wall_sel (i := 9) rfl rfl
abbrev mX3_ofStraw : Mt := (yX3_ofStraw, cX3_ofStraw, 3, (some .int))
theorem moX3_ofStraw : mOk mX3_ofStraw 2 := ⟨wall_t2 (i := 206) rfl rfl, wall_t1 (i := 2) rfl rfl, ⟨by decide +kernel, by decide +kernel⟩, by decide +kernel, by decide +kernel⟩
theorem miX3_ofStraw : Cond.instanceMethod mX3_ofStraw.1 ∈ Wall := wall_t2 (i := 204) rfl rfl
theorem msX3_ofStraw : Cond.selects mX3_ofStraw.1.cls mX3_ofStraw.1 mX3_ofStraw.1 ∈ Wall := wall_t2 (i := 205) rfl rfl
abbrev mX2_held : Mt := (yX2_held, cX2_held, 1, (some .int))
theorem moX2_held : mOk mX2_held 1 := ⟨wall_t2 (i := 209) rfl rfl, wall_t1 (i := 5) rfl rfl, ⟨by decide +kernel, by decide +kernel⟩, by decide +kernel, by decide +kernel⟩
theorem mtX2_held : Cond.static mX2_held.1 ∈ Wall := wall_t2 (i := 208) rfl rfl
abbrev mX2_setNames : Mt := (yX2_setNames, cX2_setNames, 4, none)
theorem moX2_setNames : mOk mX2_setNames 3 := ⟨wall_t2 (i := 219) rfl rfl, wall_t1 (i := 5) rfl rfl, ⟨by decide +kernel, by decide +kernel⟩, by decide +kernel, by decide +kernel⟩
theorem miX2_setNames : Cond.instanceMethod mX2_setNames.1 ∈ Wall := wall_t2 (i := 218) rfl rfl
theorem msX2_setNames : Cond.selects mX2_setNames.1.cls mX2_setNames.1 mX2_setNames.1 ∈ Wall := wall_sel (i := 10) rfl rfl
abbrev mX2_workedOut : Mt := (yX2_workedOut, cX2_workedOut, 7, (some .int))
theorem moX2_workedOut : mOk mX2_workedOut 2 := ⟨wall_t2 (i := 223) rfl rfl, wall_t1 (i := 5) rfl rfl, ⟨by decide +kernel, by decide +kernel⟩, by decide +kernel, by decide +kernel⟩
theorem miX2_workedOut : Cond.instanceMethod mX2_workedOut.1 ∈ Wall := wall_t2 (i := 222) rfl rfl
theorem msX2_workedOut : Cond.selects mX2_workedOut.1.cls mX2_workedOut.1 mX2_workedOut.1 ∈ Wall := wall_sel (i := 11) rfl rfl
abbrev mX2_joined : Mt := (yX2_joined, cX2_joined, 3, (some .int))
theorem moX2_joined : mOk mX2_joined 3 := ⟨wall_t2 (i := 226) rfl rfl, wall_t1 (i := 5) rfl rfl, ⟨by decide +kernel, by decide +kernel⟩, by decide +kernel, by decide +kernel⟩
theorem mtX2_joined : Cond.static mX2_joined.1 ∈ Wall := wall_t2 (i := 225) rfl rfl
abbrev mX9_glass : Mt := (yX9_glass, cX9_glass, 4, (some .int))
theorem moX9_glass : mOk mX9_glass 3 := ⟨wall_t2 (i := 230) rfl rfl, wall_t1 (i := 1) rfl rfl, ⟨by decide +kernel, by decide +kernel⟩, by decide +kernel, by decide +kernel⟩
theorem miX9_glass : Cond.instanceMethod mX9_glass.1 ∈ Wall := wall_t2 (i := 228) rfl rfl
theorem msX9_glass : Cond.selects mX9_glass.1.cls mX9_glass.1 mX9_glass.1 ∈ Wall := wall_t2 (i := 229) rfl rfl
abbrev mX8_after : Mt := (yX8_after, cX8_after, 3, (some (.object "TwoStraws$Glass")))
theorem moX8_after : mOk mX8_after 1 := ⟨wall_t2 (i := 234) rfl rfl, wall_t1 (i := 7) rfl rfl, ⟨by decide +kernel, by decide +kernel⟩, by decide +kernel, by decide +kernel⟩
theorem miX8_after : Cond.instanceMethod mX8_after.1 ∈ Wall := wall_t2 (i := 232) rfl rfl
theorem msX8_after : Cond.selects mX8_after.1.cls mX8_after.1 mX8_after.1 ∈ Wall := wall_t2 (i := 233) rfl rfl
abbrev mX1_begin : Mt := (yX1_begin, cX1_begin, 3, none)
theorem moX1_begin : mOk mX1_begin 1 := ⟨wall_t2 (i := 238) rfl rfl, wall_t1 (i := 6) rfl rfl, ⟨by decide +kernel, by decide +kernel⟩, by decide +kernel, by decide +kernel⟩
theorem miX1_begin : Cond.instanceMethod mX1_begin.1 ∈ Wall := wall_t2 (i := 236) rfl rfl
theorem msX1_begin : Cond.selects mX1_begin.1.cls mX1_begin.1 mX1_begin.1 ∈ Wall := wall_t2 (i := 237) rfl rfl
abbrev mX1_pass : Mt := (yX1_pass, cX1_pass, 7, none)
theorem moX1_pass : mOk mX1_pass 3 := ⟨wall_t3 (i := 2) rfl rfl, wall_t1 (i := 6) rfl rfl, ⟨by decide +kernel, by decide +kernel⟩, by decide +kernel, by decide +kernel⟩
theorem miX1_pass : Cond.instanceMethod mX1_pass.1 ∈ Wall := wall_t3 (i := 0) rfl rfl
theorem msX1_pass : Cond.selects mX1_pass.1.cls mX1_pass.1 mX1_pass.1 ∈ Wall := wall_t3 (i := 1) rfl rfl
abbrev mX3_isDrawing : Mt := (yX3_isDrawing, cX3_isDrawing, 7, (some .boolean))
theorem moX3_isDrawing : mOk mX3_isDrawing 3 := ⟨wall_t3 (i := 6) rfl rfl, wall_t1 (i := 2) rfl rfl, ⟨by decide +kernel, by decide +kernel⟩, by decide +kernel, by decide +kernel⟩
theorem miX3_isDrawing : Cond.instanceMethod mX3_isDrawing.1 ∈ Wall := wall_t3 (i := 4) rfl rfl
theorem msX3_isDrawing : Cond.selects mX3_isDrawing.1.cls mX3_isDrawing.1 mX3_isDrawing.1 ∈ Wall := wall_t3 (i := 5) rfl rfl
abbrev mX1_tries : Mt := (yX1_tries, cX1_tries, 6, (some .int))
theorem moX1_tries : mOk mX1_tries 2 := ⟨wall_t3 (i := 10) rfl rfl, wall_t1 (i := 6) rfl rfl, ⟨by decide +kernel, by decide +kernel⟩, by decide +kernel, by decide +kernel⟩
theorem miX1_tries : Cond.instanceMethod mX1_tries.1 ∈ Wall := wall_t3 (i := 9) rfl rfl
theorem msX1_tries : Cond.selects mX1_tries.1.cls mX1_tries.1 mX1_tries.1 ∈ Wall := wall_sel (i := 12) rfl rfl
abbrev mX1_share : Mt := (yX1_share, cX1_share, 5, none)
theorem moX1_share : mOk mX1_share 1 := ⟨wall_t3 (i := 17) rfl rfl, wall_t1 (i := 6) rfl rfl, ⟨by decide +kernel, by decide +kernel⟩, by decide +kernel, by decide +kernel⟩
theorem miX1_share : Cond.instanceMethod mX1_share.1 ∈ Wall := wall_t3 (i := 16) rfl rfl
theorem msX1_share : Cond.selects mX1_share.1.cls mX1_share.1 mX1_share.1 ∈ Wall := wall_sel (i := 13) rfl rfl
abbrev mX3_sweetness : Mt := (yX3_sweetness, cX3_sweetness, 2, (some .int))
theorem moX3_sweetness : mOk mX3_sweetness 1 := ⟨wall_t3 (i := 21) rfl rfl, wall_t1 (i := 2) rfl rfl, ⟨by decide +kernel, by decide +kernel⟩, by decide +kernel, by decide +kernel⟩
theorem miX3_sweetness : Cond.instanceMethod mX3_sweetness.1 ∈ Wall := wall_t3 (i := 19) rfl rfl
theorem msX3_sweetness : Cond.selects mX3_sweetness.1.cls mX3_sweetness.1 mX3_sweetness.1 ∈ Wall := wall_t3 (i := 20) rfl rfl
abbrev mX3_ofGlass : Mt := (yX3_ofGlass, cX3_ofGlass, 2, (some .int))
theorem moX3_ofGlass : mOk mX3_ofGlass 1 := ⟨wall_t3 (i := 26) rfl rfl, wall_t1 (i := 2) rfl rfl, ⟨by decide +kernel, by decide +kernel⟩, by decide +kernel, by decide +kernel⟩
theorem miX3_ofGlass : Cond.instanceMethod mX3_ofGlass.1 ∈ Wall := wall_t3 (i := 24) rfl rfl
theorem msX3_ofGlass : Cond.selects mX3_ofGlass.1.cls mX3_ofGlass.1 mX3_ofGlass.1 ∈ Wall := wall_t3 (i := 25) rfl rfl
abbrev mX1_melt : Mt := (yX1_melt, cX1_melt, 2, none)
theorem moX1_melt : mOk mX1_melt 0 := ⟨wall_t3 (i := 30) rfl rfl, wall_t1 (i := 6) rfl rfl, ⟨by decide +kernel, by decide +kernel⟩, by decide +kernel, by decide +kernel⟩
theorem miX1_melt : Cond.instanceMethod mX1_melt.1 ∈ Wall := wall_t3 (i := 29) rfl rfl
theorem msX1_melt : Cond.selects mX1_melt.1.cls mX1_melt.1 mX1_melt.1 ∈ Wall := wall_sel (i := 14) rfl rfl
abbrev mX1_tells : Mt := (yX1_tells, cX1_tells, 3, (some .int))
theorem moX1_tells : mOk mX1_tells 2 := ⟨wall_t3 (i := 35) rfl rfl, wall_t1 (i := 6) rfl rfl, ⟨by decide +kernel, by decide +kernel⟩, by decide +kernel, by decide +kernel⟩
theorem miX1_tells : Cond.instanceMethod mX1_tells.1 ∈ Wall := wall_t3 (i := 33) rfl rfl
theorem msX1_tells : Cond.selects mX1_tells.1.cls mX1_tells.1 mX1_tells.1 ∈ Wall := wall_t3 (i := 34) rfl rfl
abbrev mX9_level : Mt := (yX9_level, cX9_level, 4, (some .int))
theorem moX9_level : mOk mX9_level 2 := ⟨wall_t3 (i := 39) rfl rfl, wall_t1 (i := 1) rfl rfl, ⟨by decide +kernel, by decide +kernel⟩, by decide +kernel, by decide +kernel⟩
theorem miX9_level : Cond.instanceMethod mX9_level.1 ∈ Wall := wall_t3 (i := 37) rfl rfl
theorem msX9_level : Cond.selects mX9_level.1.cls mX9_level.1 mX9_level.1 ∈ Wall := wall_t3 (i := 38) rfl rfl
abbrev mX9_empty : Mt := (yX9_empty, cX9_empty, 1, (some .int))
theorem moX9_empty : mOk mX9_empty 0 := ⟨wall_t3 (i := 43) rfl rfl, wall_t1 (i := 1) rfl rfl, ⟨by decide +kernel, by decide +kernel⟩, by decide +kernel, by decide +kernel⟩
theorem miX9_empty : Cond.instanceMethod mX9_empty.1 ∈ Wall := wall_t3 (i := 41) rfl rfl
theorem msX9_empty : Cond.selects mX9_empty.1.cls mX9_empty.1 mX9_empty.1 ∈ Wall := wall_t3 (i := 42) rfl rfl
abbrev mX8_emptyBehind : Mt := (yX8_emptyBehind, cX8_emptyBehind, 2, (some .int))
theorem moX8_emptyBehind : mOk mX8_emptyBehind 0 := ⟨wall_t3 (i := 47) rfl rfl, wall_t1 (i := 7) rfl rfl, ⟨by decide +kernel, by decide +kernel⟩, by decide +kernel, by decide +kernel⟩
theorem miX8_emptyBehind : Cond.instanceMethod mX8_emptyBehind.1 ∈ Wall := wall_t3 (i := 45) rfl rfl
theorem msX8_emptyBehind : Cond.selects mX8_emptyBehind.1.cls mX8_emptyBehind.1 mX8_emptyBehind.1 ∈ Wall := wall_t3 (i := 46) rfl rfl
abbrev mX1_isOver : Mt := (yX1_isOver, cX1_isOver, 2, (some .boolean))
theorem moX1_isOver : mOk mX1_isOver 0 := ⟨wall_t3 (i := 51) rfl rfl, wall_t1 (i := 6) rfl rfl, ⟨by decide +kernel, by decide +kernel⟩, by decide +kernel, by decide +kernel⟩
theorem miX1_isOver : Cond.instanceMethod mX1_isOver.1 ∈ Wall := wall_t3 (i := 49) rfl rfl
theorem msX1_isOver : Cond.selects mX1_isOver.1.cls mX1_isOver.1 mX1_isOver.1 ∈ Wall := wall_t3 (i := 50) rfl rfl
abbrev mX9_more : Mt := (yX9_more, cX9_more, 5, (some .int))
theorem moX9_more : mOk mX9_more 2 := ⟨wall_t3 (i := 55) rfl rfl, wall_t1 (i := 1) rfl rfl, ⟨by decide +kernel, by decide +kernel⟩, by decide +kernel, by decide +kernel⟩
theorem miX9_more : Cond.instanceMethod mX9_more.1 ∈ Wall := wall_t3 (i := 53) rfl rfl
theorem msX9_more : Cond.selects mX9_more.1.cls mX9_more.1 mX9_more.1 ∈ Wall := wall_t3 (i := 54) rfl rfl
abbrev mX1_mostGot : Mt := (yX1_mostGot, cX1_mostGot, 3, (some .int))
theorem moX1_mostGot : mOk mX1_mostGot 0 := ⟨wall_t3 (i := 59) rfl rfl, wall_t1 (i := 6) rfl rfl, ⟨by decide +kernel, by decide +kernel⟩, by decide +kernel, by decide +kernel⟩
theorem miX1_mostGot : Cond.instanceMethod mX1_mostGot.1 ∈ Wall := wall_t3 (i := 57) rfl rfl
theorem msX1_mostGot : Cond.selects mX1_mostGot.1.cls mX1_mostGot.1 mX1_mostGot.1 ∈ Wall := wall_t3 (i := 58) rfl rfl
abbrev mX1_leastGot : Mt := (yX1_leastGot, cX1_leastGot, 3, (some .int))
theorem moX1_leastGot : mOk mX1_leastGot 0 := ⟨wall_t3 (i := 63) rfl rfl, wall_t1 (i := 6) rfl rfl, ⟨by decide +kernel, by decide +kernel⟩, by decide +kernel, by decide +kernel⟩
theorem miX1_leastGot : Cond.instanceMethod mX1_leastGot.1 ∈ Wall := wall_t3 (i := 61) rfl rfl
theorem msX1_leastGot : Cond.selects mX1_leastGot.1.cls mX1_leastGot.1 mX1_leastGot.1 ∈ Wall := wall_t3 (i := 62) rfl rfl
abbrev mX9_turns : Mt := (yX9_turns, cX9_turns, 6, (some .int))
theorem moX9_turns : mOk mX9_turns 3 := ⟨wall_t3 (i := 67) rfl rfl, wall_t1 (i := 1) rfl rfl, ⟨by decide +kernel, by decide +kernel⟩, by decide +kernel, by decide +kernel⟩
theorem miX9_turns : Cond.instanceMethod mX9_turns.1 ∈ Wall := wall_t3 (i := 65) rfl rfl
theorem msX9_turns : Cond.selects mX9_turns.1.cls mX9_turns.1 mX9_turns.1 ∈ Wall := wall_t3 (i := 66) rfl rfl
abbrev mX8_byTurns : Mt := (yX8_byTurns, cX8_byTurns, 7, (some (.object "TwoStraws$Glass")))
theorem moX8_byTurns : mOk mX8_byTurns 3 := ⟨wall_t3 (i := 71) rfl rfl, wall_t1 (i := 7) rfl rfl, ⟨by decide +kernel, by decide +kernel⟩, by decide +kernel, by decide +kernel⟩
theorem miX8_byTurns : Cond.instanceMethod mX8_byTurns.1 ∈ Wall := wall_t3 (i := 69) rfl rfl
theorem msX8_byTurns : Cond.selects mX8_byTurns.1.cls mX8_byTurns.1 mX8_byTurns.1 ∈ Wall := wall_t3 (i := 70) rfl rfl
abbrev mX9_mark : Mt := (yX9_mark, cX9_mark, 2, (some .int))
theorem moX9_mark : mOk mX9_mark 1 := ⟨wall_t3 (i := 75) rfl rfl, wall_t1 (i := 1) rfl rfl, ⟨by decide +kernel, by decide +kernel⟩, by decide +kernel, by decide +kernel⟩
theorem miX9_mark : Cond.instanceMethod mX9_mark.1 ∈ Wall := wall_t3 (i := 73) rfl rfl
theorem msX9_mark : Cond.selects mX9_mark.1.cls mX9_mark.1 mX9_mark.1 ∈ Wall := wall_t3 (i := 74) rfl rfl
abbrev mX9_isPair : Mt := (yX9_isPair, cX9_isPair, 2, (some .boolean))
theorem moX9_isPair : mOk mX9_isPair 1 := ⟨wall_t3 (i := 79) rfl rfl, wall_t1 (i := 1) rfl rfl, ⟨by decide +kernel, by decide +kernel⟩, by decide +kernel, by decide +kernel⟩
theorem miX9_isPair : Cond.instanceMethod mX9_isPair.1 ∈ Wall := wall_t3 (i := 78) rfl rfl
theorem msX9_isPair : Cond.selects mX9_isPair.1.cls mX9_isPair.1 mX9_isPair.1 ∈ Wall := wall_sel (i := 15) rfl rfl
abbrev mX8_leastMark : Mt := (yX8_leastMark, cX8_leastMark, 5, (some .int))
theorem moX8_leastMark : mOk mX8_leastMark 2 := ⟨wall_t3 (i := 83) rfl rfl, wall_t1 (i := 7) rfl rfl, ⟨by decide +kernel, by decide +kernel⟩, by decide +kernel, by decide +kernel⟩
theorem miX8_leastMark : Cond.instanceMethod mX8_leastMark.1 ∈ Wall := wall_t3 (i := 81) rfl rfl
theorem msX8_leastMark : Cond.selects mX8_leastMark.1.cls mX8_leastMark.1 mX8_leastMark.1 ∈ Wall := wall_t3 (i := 82) rfl rfl
abbrev mX8_gotBehind : Mt := (yX8_gotBehind, cX8_gotBehind, 4, (some .int))
theorem moX8_gotBehind : mOk mX8_gotBehind 2 := ⟨wall_t3 (i := 87) rfl rfl, wall_t1 (i := 7) rfl rfl, ⟨by decide +kernel, by decide +kernel⟩, by decide +kernel, by decide +kernel⟩
theorem miX8_gotBehind : Cond.instanceMethod mX8_gotBehind.1 ∈ Wall := wall_t3 (i := 86) rfl rfl
theorem msX8_gotBehind : Cond.selects mX8_gotBehind.1.cls mX8_gotBehind.1 mX8_gotBehind.1 ∈ Wall := wall_sel (i := 16) rfl rfl
abbrev mX9_halves : Mt := (yX9_halves, cX9_halves, 3, (some .int))
theorem moX9_halves : mOk mX9_halves 2 := ⟨wall_t3 (i := 91) rfl rfl, wall_t1 (i := 1) rfl rfl, ⟨by decide +kernel, by decide +kernel⟩, by decide +kernel, by decide +kernel⟩
theorem miX9_halves : Cond.instanceMethod mX9_halves.1 ∈ Wall := wall_t3 (i := 89) rfl rfl
theorem msX9_halves : Cond.selects mX9_halves.1.cls mX9_halves.1 mX9_halves.1 ∈ Wall := wall_t3 (i := 90) rfl rfl
abbrev mX8_halved : Mt := (yX8_halved, cX8_halved, 11, (some .int))
theorem moX8_halved : mOk mX8_halved 3 := ⟨wall_t3 (i := 95) rfl rfl, wall_t1 (i := 7) rfl rfl, ⟨by decide +kernel, by decide +kernel⟩, by decide +kernel, by decide +kernel⟩
theorem miX8_halved : Cond.instanceMethod mX8_halved.1 ∈ Wall := wall_t3 (i := 93) rfl rfl
theorem msX8_halved : Cond.selects mX8_halved.1.cls mX8_halved.1 mX8_halved.1 ∈ Wall := wall_t3 (i := 94) rfl rfl
abbrev mX8_gotFromGlass : Mt := (yX8_gotFromGlass, cX8_gotFromGlass, 5, (some .int))
theorem moX8_gotFromGlass : mOk mX8_gotFromGlass 2 := ⟨wall_t3 (i := 100) rfl rfl, wall_t1 (i := 7) rfl rfl, ⟨by decide +kernel, by decide +kernel⟩, by decide +kernel, by decide +kernel⟩
theorem miX8_gotFromGlass : Cond.instanceMethod mX8_gotFromGlass.1 ∈ Wall := wall_t3 (i := 99) rfl rfl
theorem msX8_gotFromGlass : Cond.selects mX8_gotFromGlass.1.cls mX8_gotFromGlass.1 mX8_gotFromGlass.1 ∈ Wall := wall_sel (i := 17) rfl rfl
abbrev mX9_reachFor : Mt := (yX9_reachFor, cX9_reachFor, 6, (some .int))
theorem moX9_reachFor : mOk mX9_reachFor 3 := ⟨wall_t3 (i := 106) rfl rfl, wall_t1 (i := 1) rfl rfl, ⟨by decide +kernel, by decide +kernel⟩, by decide +kernel, by decide +kernel⟩
theorem miX9_reachFor : Cond.instanceMethod mX9_reachFor.1 ∈ Wall := wall_t3 (i := 104) rfl rfl
theorem msX9_reachFor : Cond.selects mX9_reachFor.1.cls mX9_reachFor.1 mX9_reachFor.1 ∈ Wall := wall_t3 (i := 105) rfl rfl
abbrev mX8_bestNumber : Mt := (yX8_bestNumber, cX8_bestNumber, 11, (some .int))
theorem moX8_bestNumber : mOk mX8_bestNumber 5 := ⟨wall_t3 (i := 111) rfl rfl, wall_t1 (i := 7) rfl rfl, ⟨by decide +kernel, by decide +kernel⟩, by decide +kernel, by decide +kernel⟩
theorem miX8_bestNumber : Cond.instanceMethod mX8_bestNumber.1 ∈ Wall := wall_t3 (i := 109) rfl rfl
theorem msX8_bestNumber : Cond.selects mX8_bestNumber.1.cls mX8_bestNumber.1 mX8_bestNumber.1 ∈ Wall := wall_t3 (i := 110) rfl rfl
abbrev mX8_mostAbove : Mt := (yX8_mostAbove, cX8_mostAbove, 4, (some .int))
theorem moX8_mostAbove : mOk mX8_mostAbove 2 := ⟨wall_t3 (i := 116) rfl rfl, wall_t1 (i := 7) rfl rfl, ⟨by decide +kernel, by decide +kernel⟩, by decide +kernel, by decide +kernel⟩
theorem miX8_mostAbove : Cond.instanceMethod mX8_mostAbove.1 ∈ Wall := wall_t3 (i := 115) rfl rfl
theorem msX8_mostAbove : Cond.selects mX8_mostAbove.1.cls mX8_mostAbove.1 mX8_mostAbove.1 ∈ Wall := wall_sel (i := 18) rfl rfl
abbrev mX8_drunk : Mt := (yX8_drunk, cX8_drunk, 4, (some (.object "TwoStraws$Glass")))
theorem moX8_drunk : mOk mX8_drunk 1 := ⟨wall_t3 (i := 121) rfl rfl, wall_t1 (i := 7) rfl rfl, ⟨by decide +kernel, by decide +kernel⟩, by decide +kernel, by decide +kernel⟩
theorem miX8_drunk : Cond.instanceMethod mX8_drunk.1 ∈ Wall := wall_t3 (i := 120) rfl rfl
theorem msX8_drunk : Cond.selects mX8_drunk.1.cls mX8_drunk.1 mX8_drunk.1 ∈ Wall := wall_sel (i := 19) rfl rfl
abbrev mX3_lowestReach : Mt := (yX3_lowestReach, cX3_lowestReach, 3, (some .int))
theorem moX3_lowestReach : mOk mX3_lowestReach 0 := ⟨wall_t3 (i := 125) rfl rfl, wall_t1 (i := 2) rfl rfl, ⟨by decide +kernel, by decide +kernel⟩, by decide +kernel, by decide +kernel⟩
theorem miX3_lowestReach : Cond.instanceMethod mX3_lowestReach.1 ∈ Wall := wall_t3 (i := 123) rfl rfl
theorem msX3_lowestReach : Cond.selects mX3_lowestReach.1.cls mX3_lowestReach.1 mX3_lowestReach.1 ∈ Wall := wall_t3 (i := 124) rfl rfl
abbrev mX9_slow : Mt := (yX9_slow, cX9_slow, 3, (some .int))
theorem moX9_slow : mOk mX9_slow 2 := ⟨wall_t3 (i := 131) rfl rfl, wall_t1 (i := 1) rfl rfl, ⟨by decide +kernel, by decide +kernel⟩, by decide +kernel, by decide +kernel⟩
theorem miX9_slow : Cond.instanceMethod mX9_slow.1 ∈ Wall := wall_t3 (i := 129) rfl rfl
theorem msX9_slow : Cond.selects mX9_slow.1.cls mX9_slow.1 mX9_slow.1 ∈ Wall := wall_t3 (i := 130) rfl rfl
abbrev mX9_both : Mt := (yX9_both, cX9_both, 3, (some .int))
theorem moX9_both : mOk mX9_both 2 := ⟨wall_t3 (i := 136) rfl rfl, wall_t1 (i := 1) rfl rfl, ⟨by decide +kernel, by decide +kernel⟩, by decide +kernel, by decide +kernel⟩
theorem miX9_both : Cond.instanceMethod mX9_both.1 ∈ Wall := wall_t3 (i := 134) rfl rfl
theorem msX9_both : Cond.selects mX9_both.1.cls mX9_both.1 mX9_both.1 ∈ Wall := wall_t3 (i := 135) rfl rfl
abbrev mX8_selfish : Mt := (yX8_selfish, cX8_selfish, 7, (some .int))
theorem moX8_selfish : mOk mX8_selfish 1 := ⟨wall_t3 (i := 140) rfl rfl, wall_t1 (i := 7) rfl rfl, ⟨by decide +kernel, by decide +kernel⟩, by decide +kernel, by decide +kernel⟩
theorem miX8_selfish : Cond.instanceMethod mX8_selfish.1 ∈ Wall := wall_t3 (i := 138) rfl rfl
theorem msX8_selfish : Cond.selects mX8_selfish.1.cls mX8_selfish.1 mX8_selfish.1 ∈ Wall := wall_t3 (i := 139) rfl rfl
abbrev mX8_setStrengths : Mt := (yX8_setStrengths, cX8_setStrengths, 3, none)
theorem moX8_setStrengths : mOk mX8_setStrengths 2 := ⟨wall_t3 (i := 144) rfl rfl, wall_t1 (i := 7) rfl rfl, ⟨by decide +kernel, by decide +kernel⟩, by decide +kernel, by decide +kernel⟩
theorem miX8_setStrengths : Cond.instanceMethod mX8_setStrengths.1 ∈ Wall := wall_t3 (i := 143) rfl rfl
theorem msX8_setStrengths : Cond.selects mX8_setStrengths.1.cls mX8_setStrengths.1 mX8_setStrengths.1 ∈ Wall := wall_sel (i := 20) rfl rfl
abbrev mX8_isContent : Mt := (yX8_isContent, cX8_isContent, 6, (some .boolean))
theorem moX8_isContent : mOk mX8_isContent 4 := ⟨wall_t3 (i := 148) rfl rfl, wall_t1 (i := 7) rfl rfl, ⟨by decide +kernel, by decide +kernel⟩, by decide +kernel, by decide +kernel⟩
theorem miX8_isContent : Cond.instanceMethod mX8_isContent.1 ∈ Wall := wall_t3 (i := 147) rfl rfl
theorem msX8_isContent : Cond.selects mX8_isContent.1.cls mX8_isContent.1 mX8_isContent.1 ∈ Wall := wall_sel (i := 21) rfl rfl
abbrev mX8_together : Mt := (yX8_together, cX8_together, 10, (some .int))
theorem moX8_together : mOk mX8_together 1 := ⟨wall_t3 (i := 152) rfl rfl, wall_t1 (i := 7) rfl rfl, ⟨by decide +kernel, by decide +kernel⟩, by decide +kernel, by decide +kernel⟩
theorem miX8_together : Cond.instanceMethod mX8_together.1 ∈ Wall := wall_t3 (i := 150) rfl rfl
theorem msX8_together : Cond.selects mX8_together.1.cls mX8_together.1 mX8_together.1 ∈ Wall := wall_t3 (i := 151) rfl rfl
abbrev mX9_holeFor : Mt := (yX9_holeFor, cX9_holeFor, 4, (some .int))
theorem moX9_holeFor : mOk mX9_holeFor 3 := ⟨wall_t3 (i := 156) rfl rfl, wall_t1 (i := 1) rfl rfl, ⟨by decide +kernel, by decide +kernel⟩, by decide +kernel, by decide +kernel⟩
theorem miX9_holeFor : Cond.instanceMethod mX9_holeFor.1 ∈ Wall := wall_t3 (i := 154) rfl rfl
theorem msX9_holeFor : Cond.selects mX9_holeFor.1.cls mX9_holeFor.1 mX9_holeFor.1 ∈ Wall := wall_t3 (i := 155) rfl rfl
abbrev mX8_othersGot : Mt := (yX8_othersGot, cX8_othersGot, 8, (some .int))
theorem moX8_othersGot : mOk mX8_othersGot 3 := ⟨wall_t3 (i := 160) rfl rfl, wall_t1 (i := 7) rfl rfl, ⟨by decide +kernel, by decide +kernel⟩, by decide +kernel, by decide +kernel⟩
theorem miX8_othersGot : Cond.instanceMethod mX8_othersGot.1 ∈ Wall := wall_t3 (i := 158) rfl rfl
theorem msX8_othersGot : Cond.selects mX8_othersGot.1.cls mX8_othersGot.1 mX8_othersGot.1 ∈ Wall := wall_t3 (i := 159) rfl rfl
abbrev mX9_stopFor : Mt := (yX9_stopFor, cX9_stopFor, 2, (some .int))
theorem moX9_stopFor : mOk mX9_stopFor 1 := ⟨wall_t3 (i := 164) rfl rfl, wall_t1 (i := 1) rfl rfl, ⟨by decide +kernel, by decide +kernel⟩, by decide +kernel, by decide +kernel⟩
theorem miX9_stopFor : Cond.instanceMethod mX9_stopFor.1 ∈ Wall := wall_t3 (i := 162) rfl rfl
theorem msX9_stopFor : Cond.selects mX9_stopFor.1.cls mX9_stopFor.1 mX9_stopFor.1 ∈ Wall := wall_t3 (i := 163) rfl rfl
abbrev mX8_lastGain : Mt := (yX8_lastGain, cX8_lastGain, 5, (some .int))
theorem moX8_lastGain : mOk mX8_lastGain 1 := ⟨wall_t3 (i := 168) rfl rfl, wall_t1 (i := 7) rfl rfl, ⟨by decide +kernel, by decide +kernel⟩, by decide +kernel, by decide +kernel⟩
theorem miX8_lastGain : Cond.instanceMethod mX8_lastGain.1 ∈ Wall := wall_t3 (i := 166) rfl rfl
theorem msX8_lastGain : Cond.selects mX8_lastGain.1.cls mX8_lastGain.1 mX8_lastGain.1 ∈ Wall := wall_t3 (i := 167) rfl rfl
abbrev mX9_judge : Mt := (yX9_judge, cX9_judge, 3, (some .int))
theorem moX9_judge : mOk mX9_judge 1 := ⟨wall_t3 (i := 172) rfl rfl, wall_t1 (i := 1) rfl rfl, ⟨by decide +kernel, by decide +kernel⟩, by decide +kernel, by decide +kernel⟩
theorem miX9_judge : Cond.instanceMethod mX9_judge.1 ∈ Wall := wall_t3 (i := 170) rfl rfl
theorem msX9_judge : Cond.selects mX9_judge.1.cls mX9_judge.1 mX9_judge.1 ∈ Wall := wall_t3 (i := 171) rfl rfl
abbrev mX9_refusedRings : Mt := (yX9_refusedRings, cX9_refusedRings, 3, (some .int))
theorem moX9_refusedRings : mOk mX9_refusedRings 1 := ⟨wall_t3 (i := 176) rfl rfl, wall_t1 (i := 1) rfl rfl, ⟨by decide +kernel, by decide +kernel⟩, by decide +kernel, by decide +kernel⟩
theorem miX9_refusedRings : Cond.instanceMethod mX9_refusedRings.1 ∈ Wall := wall_t3 (i := 175) rfl rfl
theorem msX9_refusedRings : Cond.selects mX9_refusedRings.1.cls mX9_refusedRings.1 mX9_refusedRings.1 ∈ Wall := wall_sel (i := 22) rfl rfl
abbrev mX8_firstUnlike : Mt := (yX8_firstUnlike, cX8_firstUnlike, 4, (some .int))
theorem moX8_firstUnlike : mOk mX8_firstUnlike 2 := ⟨wall_t3 (i := 180) rfl rfl, wall_t1 (i := 7) rfl rfl, ⟨by decide +kernel, by decide +kernel⟩, by decide +kernel, by decide +kernel⟩
theorem miX8_firstUnlike : Cond.instanceMethod mX8_firstUnlike.1 ∈ Wall := wall_t3 (i := 178) rfl rfl
theorem msX8_firstUnlike : Cond.selects mX8_firstUnlike.1.cls mX8_firstUnlike.1 mX8_firstUnlike.1 ∈ Wall := wall_t3 (i := 179) rfl rfl
abbrev mX9_who : Mt := (yX9_who, cX9_who, 4, (some .int))
theorem moX9_who : mOk mX9_who 2 := ⟨wall_t3 (i := 184) rfl rfl, wall_t1 (i := 1) rfl rfl, ⟨by decide +kernel, by decide +kernel⟩, by decide +kernel, by decide +kernel⟩
theorem miX9_who : Cond.instanceMethod mX9_who.1 ∈ Wall := wall_t3 (i := 182) rfl rfl
theorem msX9_who : Cond.selects mX9_who.1.cls mX9_who.1 mX9_who.1 ∈ Wall := wall_t3 (i := 183) rfl rfl
abbrev mX8_setsThatFit : Mt := (yX8_setsThatFit, cX8_setsThatFit, 4, (some .int))
theorem moX8_setsThatFit : mOk mX8_setsThatFit 1 := ⟨wall_t3 (i := 188) rfl rfl, wall_t1 (i := 7) rfl rfl, ⟨by decide +kernel, by decide +kernel⟩, by decide +kernel, by decide +kernel⟩
theorem miX8_setsThatFit : Cond.instanceMethod mX8_setsThatFit.1 ∈ Wall := wall_t3 (i := 186) rfl rfl
theorem msX8_setsThatFit : Cond.selects mX8_setsThatFit.1.cls mX8_setsThatFit.1 mX8_setsThatFit.1 ∈ Wall := wall_t3 (i := 187) rfl rfl
abbrev mX8_leastSet : Mt := (yX8_leastSet, cX8_leastSet, 3, (some .int))
theorem moX8_leastSet : mOk mX8_leastSet 1 := ⟨wall_t3 (i := 193) rfl rfl, wall_t1 (i := 7) rfl rfl, ⟨by decide +kernel, by decide +kernel⟩, by decide +kernel, by decide +kernel⟩
theorem miX8_leastSet : Cond.instanceMethod mX8_leastSet.1 ∈ Wall := wall_t3 (i := 191) rfl rfl
theorem msX8_leastSet : Cond.selects mX8_leastSet.1.cls mX8_leastSet.1 mX8_leastSet.1 ∈ Wall := wall_t3 (i := 192) rfl rfl
abbrev mX9_since : Mt := (yX9_since, cX9_since, 4, (some .int))
theorem moX9_since : mOk mX9_since 2 := ⟨wall_t3 (i := 197) rfl rfl, wall_t1 (i := 1) rfl rfl, ⟨by decide +kernel, by decide +kernel⟩, by decide +kernel, by decide +kernel⟩
theorem miX9_since : Cond.instanceMethod mX9_since.1 ∈ Wall := wall_t3 (i := 195) rfl rfl
theorem msX9_since : Cond.selects mX9_since.1.cls mX9_since.1 mX9_since.1 ∈ Wall := wall_t3 (i := 196) rfl rfl
abbrev mX8_stoppedBehind : Mt := (yX8_stoppedBehind, cX8_stoppedBehind, 7, (some .int))
theorem moX8_stoppedBehind : mOk mX8_stoppedBehind 2 := ⟨wall_t3 (i := 201) rfl rfl, wall_t1 (i := 7) rfl rfl, ⟨by decide +kernel, by decide +kernel⟩, by decide +kernel, by decide +kernel⟩
theorem miX8_stoppedBehind : Cond.instanceMethod mX8_stoppedBehind.1 ∈ Wall := wall_t3 (i := 199) rfl rfl
theorem msX8_stoppedBehind : Cond.selects mX8_stoppedBehind.1.cls mX8_stoppedBehind.1 mX8_stoppedBehind.1 ∈ Wall := wall_t3 (i := 200) rfl rfl
abbrev mX9_drawn : Mt := (yX9_drawn, cX9_drawn, 4, (some .int))
theorem moX9_drawn : mOk mX9_drawn 3 := ⟨wall_t3 (i := 205) rfl rfl, wall_t1 (i := 1) rfl rfl, ⟨by decide +kernel, by decide +kernel⟩, by decide +kernel, by decide +kernel⟩
theorem miX9_drawn : Cond.instanceMethod mX9_drawn.1 ∈ Wall := wall_t3 (i := 203) rfl rfl
theorem msX9_drawn : Cond.selects mX9_drawn.1.cls mX9_drawn.1 mX9_drawn.1 ∈ Wall := wall_t3 (i := 204) rfl rfl
abbrev mX8_hiccupped : Mt := (yX8_hiccupped, cX8_hiccupped, 11, (some .int))
theorem moX8_hiccupped : mOk mX8_hiccupped 3 := ⟨wall_t3 (i := 209) rfl rfl, wall_t1 (i := 7) rfl rfl, ⟨by decide +kernel, by decide +kernel⟩, by decide +kernel, by decide +kernel⟩
theorem miX8_hiccupped : Cond.instanceMethod mX8_hiccupped.1 ∈ Wall := wall_t3 (i := 207) rfl rfl
theorem msX8_hiccupped : Cond.selects mX8_hiccupped.1.cls mX8_hiccupped.1 mX8_hiccupped.1 ∈ Wall := wall_t3 (i := 208) rfl rfl
abbrev mX9_second : Mt := (yX9_second, cX9_second, 1, (some .int))
theorem moX9_second : mOk mX9_second 0 := ⟨wall_t3 (i := 214) rfl rfl, wall_t1 (i := 1) rfl rfl, ⟨by decide +kernel, by decide +kernel⟩, by decide +kernel, by decide +kernel⟩
theorem miX9_second : Cond.instanceMethod mX9_second.1 ∈ Wall := wall_t3 (i := 212) rfl rfl
theorem msX9_second : Cond.selects mX9_second.1.cls mX9_second.1 mX9_second.1 ∈ Wall := wall_t3 (i := 213) rfl rfl
abbrev mX9_fill : Mt := (yX9_fill, cX9_fill, 3, (some .int))
theorem moX9_fill : mOk mX9_fill 1 := ⟨wall_t3 (i := 219) rfl rfl, wall_t1 (i := 1) rfl rfl, ⟨by decide +kernel, by decide +kernel⟩, by decide +kernel, by decide +kernel⟩
theorem miX9_fill : Cond.instanceMethod mX9_fill.1 ∈ Wall := wall_t3 (i := 217) rfl rfl
theorem msX9_fill : Cond.selects mX9_fill.1.cls mX9_fill.1 mX9_fill.1 ∈ Wall := wall_t3 (i := 218) rfl rfl
abbrev mX1_refill : Mt := (yX1_refill, cX1_refill, 3, none)
theorem moX1_refill : mOk mX1_refill 1 := ⟨wall_t3 (i := 223) rfl rfl, wall_t1 (i := 6) rfl rfl, ⟨by decide +kernel, by decide +kernel⟩, by decide +kernel, by decide +kernel⟩
theorem miX1_refill : Cond.instanceMethod mX1_refill.1 ∈ Wall := wall_t3 (i := 221) rfl rfl
theorem msX1_refill : Cond.selects mX1_refill.1.cls mX1_refill.1 mX1_refill.1 ∈ Wall := wall_t3 (i := 222) rfl rfl
abbrev mX9_ice : Mt := (yX9_ice, cX9_ice, 2, (some .int))
theorem moX9_ice : mOk mX9_ice 1 := ⟨wall_t3 (i := 227) rfl rfl, wall_t1 (i := 1) rfl rfl, ⟨by decide +kernel, by decide +kernel⟩, by decide +kernel, by decide +kernel⟩
theorem miX9_ice : Cond.instanceMethod mX9_ice.1 ∈ Wall := wall_t3 (i := 225) rfl rfl
theorem msX9_ice : Cond.selects mX9_ice.1.cls mX9_ice.1 mX9_ice.1 ∈ Wall := wall_t3 (i := 226) rfl rfl
abbrev mX9_led : Mt := (yX9_led, cX9_led, 3, (some .int))
theorem moX9_led : mOk mX9_led 2 := ⟨wall_t3 (i := 231) rfl rfl, wall_t1 (i := 1) rfl rfl, ⟨by decide +kernel, by decide +kernel⟩, by decide +kernel, by decide +kernel⟩
theorem miX9_led : Cond.instanceMethod mX9_led.1 ∈ Wall := wall_t3 (i := 229) rfl rfl
theorem msX9_led : Cond.selects mX9_led.1.cls mX9_led.1 mX9_led.1 ∈ Wall := wall_t3 (i := 230) rfl rfl
abbrev mX9_image : Mt := (yX9_image, cX9_image, 1, (some .int))
theorem moX9_image : mOk mX9_image 0 := ⟨wall_t3 (i := 235) rfl rfl, wall_t1 (i := 1) rfl rfl, ⟨by decide +kernel, by decide +kernel⟩, by decide +kernel, by decide +kernel⟩
theorem miX9_image : Cond.instanceMethod mX9_image.1 ∈ Wall := wall_t3 (i := 233) rfl rfl
theorem msX9_image : Cond.selects mX9_image.1.cls mX9_image.1 mX9_image.1 ∈ Wall := wall_t3 (i := 234) rfl rfl
abbrev mX1_copy : Mt := (yX1_copy, cX1_copy, 3, none)
theorem moX1_copy : mOk mX1_copy 1 := ⟨wall_t3 (i := 239) rfl rfl, wall_t1 (i := 6) rfl rfl, ⟨by decide +kernel, by decide +kernel⟩, by decide +kernel, by decide +kernel⟩
theorem miX1_copy : Cond.instanceMethod mX1_copy.1 ∈ Wall := wall_t3 (i := 237) rfl rfl
theorem msX1_copy : Cond.selects mX1_copy.1.cls mX1_copy.1 mX1_copy.1 ∈ Wall := wall_t3 (i := 238) rfl rfl
abbrev mX9_back : Mt := (yX9_back, cX9_back, 1, (some .int))
theorem moX9_back : mOk mX9_back 0 := ⟨wall_t4 (i := 4) rfl rfl, wall_t1 (i := 1) rfl rfl, ⟨by decide +kernel, by decide +kernel⟩, by decide +kernel, by decide +kernel⟩
theorem miX9_back : Cond.instanceMethod mX9_back.1 ∈ Wall := wall_t4 (i := 2) rfl rfl
theorem msX9_back : Cond.selects mX9_back.1.cls mX9_back.1 mX9_back.1 ∈ Wall := wall_t4 (i := 3) rfl rfl
abbrev mX9_undo : Mt := (yX9_undo, cX9_undo, 1, (some .int))
theorem moX9_undo : mOk mX9_undo 0 := ⟨wall_t4 (i := 8) rfl rfl, wall_t1 (i := 1) rfl rfl, ⟨by decide +kernel, by decide +kernel⟩, by decide +kernel, by decide +kernel⟩
theorem miX9_undo : Cond.instanceMethod mX9_undo.1 ∈ Wall := wall_t4 (i := 6) rfl rfl
theorem msX9_undo : Cond.selects mX9_undo.1.cls mX9_undo.1 mX9_undo.1 ∈ Wall := wall_t4 (i := 7) rfl rfl
abbrev mX0_takeBack : Mt := (yX0_takeBack, cX0_takeBack, 2, (some .boolean))
theorem moX0_takeBack : mOk mX0_takeBack 1 := ⟨wall_t4 (i := 12) rfl rfl, wall_t1 (i := 8) rfl rfl, ⟨by decide +kernel, by decide +kernel⟩, by decide +kernel, by decide +kernel⟩
theorem miX0_takeBack : Cond.instanceMethod mX0_takeBack.1 ∈ Wall := wall_t4 (i := 10) rfl rfl
theorem msX0_takeBack : Cond.selects mX0_takeBack.1.cls mX0_takeBack.1 mX0_takeBack.1 ∈ Wall := wall_t4 (i := 11) rfl rfl
abbrev mX9_redo : Mt := (yX9_redo, cX9_redo, 1, (some .int))
theorem moX9_redo : mOk mX9_redo 0 := ⟨wall_t4 (i := 16) rfl rfl, wall_t1 (i := 1) rfl rfl, ⟨by decide +kernel, by decide +kernel⟩, by decide +kernel, by decide +kernel⟩
theorem miX9_redo : Cond.instanceMethod mX9_redo.1 ∈ Wall := wall_t4 (i := 14) rfl rfl
theorem msX9_redo : Cond.selects mX9_redo.1.cls mX9_redo.1 mX9_redo.1 ∈ Wall := wall_t4 (i := 15) rfl rfl
abbrev mX0_doAgain : Mt := (yX0_doAgain, cX0_doAgain, 2, (some .boolean))
theorem moX0_doAgain : mOk mX0_doAgain 1 := ⟨wall_t4 (i := 20) rfl rfl, wall_t1 (i := 8) rfl rfl, ⟨by decide +kernel, by decide +kernel⟩, by decide +kernel, by decide +kernel⟩
theorem miX0_doAgain : Cond.instanceMethod mX0_doAgain.1 ∈ Wall := wall_t4 (i := 18) rfl rfl
theorem msX0_doAgain : Cond.selects mX0_doAgain.1.cls mX0_doAgain.1 mX0_doAgain.1 ∈ Wall := wall_t4 (i := 19) rfl rfl
abbrev mX9_body : Mt := (yX9_body, cX9_body, 2, (some .int))
theorem moX9_body : mOk mX9_body 1 := ⟨wall_t4 (i := 24) rfl rfl, wall_t1 (i := 1) rfl rfl, ⟨by decide +kernel, by decide +kernel⟩, by decide +kernel, by decide +kernel⟩
theorem miX9_body : Cond.instanceMethod mX9_body.1 ∈ Wall := wall_t4 (i := 22) rfl rfl
theorem msX9_body : Cond.selects mX9_body.1.cls mX9_body.1 mX9_body.1 ∈ Wall := wall_t4 (i := 23) rfl rfl
abbrev mX5_add : Mt := (yX5_add, cX5_add, 2, (some .int))
theorem moX5_add : mOk mX5_add 1 := ⟨wall_t4 (i := 28) rfl rfl, wall_t1 (i := 9) rfl rfl, ⟨by decide +kernel, by decide +kernel⟩, by decide +kernel, by decide +kernel⟩
theorem miX5_add : Cond.instanceMethod mX5_add.1 ∈ Wall := wall_t4 (i := 26) rfl rfl
theorem msX5_add : Cond.selects mX5_add.1.cls mX5_add.1 mX5_add.1 ∈ Wall := wall_t4 (i := 27) rfl rfl
abbrev mX9_act : Mt := (yX9_act, cX9_act, 4, (some .int))
theorem moX9_act : mOk mX9_act 3 := ⟨wall_t4 (i := 32) rfl rfl, wall_t1 (i := 1) rfl rfl, ⟨by decide +kernel, by decide +kernel⟩, by decide +kernel, by decide +kernel⟩
theorem miX9_act : Cond.instanceMethod mX9_act.1 ∈ Wall := wall_t4 (i := 30) rfl rfl
theorem msX9_act : Cond.selects mX9_act.1.cls mX9_act.1 mX9_act.1 ∈ Wall := wall_t4 (i := 31) rfl rfl
abbrev mX5_begin : Mt := (yX5_begin, cX5_begin, 4, (some .int))
theorem moX5_begin : mOk mX5_begin 3 := ⟨wall_t4 (i := 36) rfl rfl, wall_t1 (i := 9) rfl rfl, ⟨by decide +kernel, by decide +kernel⟩, by decide +kernel, by decide +kernel⟩
theorem miX5_begin : Cond.instanceMethod mX5_begin.1 ∈ Wall := wall_t4 (i := 34) rfl rfl
theorem msX5_begin : Cond.selects mX5_begin.1.cls mX5_begin.1 mX5_begin.1 ∈ Wall := wall_t4 (i := 35) rfl rfl
abbrev mX5_has : Mt := (yX5_has, cX5_has, 2, (some .boolean))
theorem moX5_has : mOk mX5_has 1 := ⟨wall_t4 (i := 40) rfl rfl, wall_t1 (i := 9) rfl rfl, ⟨by decide +kernel, by decide +kernel⟩, by decide +kernel, by decide +kernel⟩
theorem miX5_has : Cond.instanceMethod mX5_has.1 ∈ Wall := wall_t4 (i := 38) rfl rfl
theorem msX5_has : Cond.selects mX5_has.1.cls mX5_has.1 mX5_has.1 ∈ Wall := wall_t4 (i := 39) rfl rfl
abbrev mX5_run : Mt := (yX5_run, cX5_run, 11, (some .int))
theorem moX5_run : mOk mX5_run 5 := ⟨wall_t4 (i := 44) rfl rfl, wall_t1 (i := 9) rfl rfl, ⟨by decide +kernel, by decide +kernel⟩, by decide +kernel, by decide +kernel⟩
theorem miX5_run : Cond.instanceMethod mX5_run.1 ∈ Wall := wall_t4 (i := 43) rfl rfl
theorem msX5_run : Cond.selects mX5_run.1.cls mX5_run.1 mX5_run.1 ∈ Wall := wall_sel (i := 23) rfl rfl
abbrev mX5_ownerOf : Mt := (yX5_ownerOf, cX5_ownerOf, 4, (some .int))
theorem moX5_ownerOf : mOk mX5_ownerOf 2 := ⟨wall_t4 (i := 47) rfl rfl, wall_t1 (i := 9) rfl rfl, ⟨by decide +kernel, by decide +kernel⟩, by decide +kernel, by decide +kernel⟩
theorem mtX5_ownerOf : Cond.static mX5_ownerOf.1 ∈ Wall := wall_t4 (i := 46) rfl rfl
abbrev mX5_note : Mt := (yX5_note, cX5_note, 2, none)
theorem moX5_note : mOk mX5_note 1 := ⟨wall_t4 (i := 55) rfl rfl, wall_t1 (i := 9) rfl rfl, ⟨by decide +kernel, by decide +kernel⟩, by decide +kernel, by decide +kernel⟩
theorem miX5_note : Cond.instanceMethod mX5_note.1 ∈ Wall := wall_t4 (i := 54) rfl rfl
theorem msX5_note : Cond.selects mX5_note.1.cls mX5_note.1 mX5_note.1 ∈ Wall := wall_sel (i := 24) rfl rfl
abbrev mX9_trace : Mt := (yX9_trace, cX9_trace, 2, (some .int))
theorem moX9_trace : mOk mX9_trace 1 := ⟨wall_t4 (i := 59) rfl rfl, wall_t1 (i := 1) rfl rfl, ⟨by decide +kernel, by decide +kernel⟩, by decide +kernel, by decide +kernel⟩
theorem miX9_trace : Cond.instanceMethod mX9_trace.1 ∈ Wall := wall_t4 (i := 57) rfl rfl
theorem msX9_trace : Cond.selects mX9_trace.1.cls mX9_trace.1 mX9_trace.1 ∈ Wall := wall_t4 (i := 58) rfl rfl
abbrev mX5_traced : Mt := (yX5_traced, cX5_traced, 2, (some .int))
theorem moX5_traced : mOk mX5_traced 1 := ⟨wall_t4 (i := 63) rfl rfl, wall_t1 (i := 9) rfl rfl, ⟨by decide +kernel, by decide +kernel⟩, by decide +kernel, by decide +kernel⟩
theorem miX5_traced : Cond.instanceMethod mX5_traced.1 ∈ Wall := wall_t4 (i := 61) rfl rfl
theorem msX5_traced : Cond.selects mX5_traced.1.cls mX5_traced.1 mX5_traced.1 ∈ Wall := wall_t4 (i := 62) rfl rfl
abbrev mX9_keep : Mt := (yX9_keep, cX9_keep, 3, (some .int))
theorem moX9_keep : mOk mX9_keep 2 := ⟨wall_t4 (i := 67) rfl rfl, wall_t1 (i := 1) rfl rfl, ⟨by decide +kernel, by decide +kernel⟩, by decide +kernel, by decide +kernel⟩
theorem miX9_keep : Cond.instanceMethod mX9_keep.1 ∈ Wall := wall_t4 (i := 65) rfl rfl
theorem msX9_keep : Cond.selects mX9_keep.1.cls mX9_keep.1 mX9_keep.1 ∈ Wall := wall_t4 (i := 66) rfl rfl
abbrev mX4_clear : Mt := (yX4_clear, cX4_clear, 1, none)
theorem moX4_clear : mOk mX4_clear 0 := ⟨wall_t4 (i := 72) rfl rfl, wall_t1 (i := 10) rfl rfl, ⟨by decide +kernel, by decide +kernel⟩, by decide +kernel, by decide +kernel⟩
theorem miX4_clear : Cond.instanceMethod mX4_clear.1 ∈ Wall := wall_t4 (i := 70) rfl rfl
theorem msX4_clear : Cond.selects mX4_clear.1.cls mX4_clear.1 mX4_clear.1 ∈ Wall := wall_t4 (i := 71) rfl rfl
abbrev mX4_holdSip : Mt := (yX4_holdSip, cX4_holdSip, 2, none)
theorem moX4_holdSip : mOk mX4_holdSip 1 := ⟨wall_t4 (i := 76) rfl rfl, wall_t1 (i := 10) rfl rfl, ⟨by decide +kernel, by decide +kernel⟩, by decide +kernel, by decide +kernel⟩
theorem miX4_holdSip : Cond.instanceMethod mX4_holdSip.1 ∈ Wall := wall_t4 (i := 74) rfl rfl
theorem msX4_holdSip : Cond.selects mX4_holdSip.1.cls mX4_holdSip.1 mX4_holdSip.1 ∈ Wall := wall_t4 (i := 75) rfl rfl
abbrev mX9_row : Mt := (yX9_row, cX9_row, 4, (some .int))
theorem moX9_row : mOk mX9_row 3 := ⟨wall_t4 (i := 80) rfl rfl, wall_t1 (i := 1) rfl rfl, ⟨by decide +kernel, by decide +kernel⟩, by decide +kernel, by decide +kernel⟩
theorem miX9_row : Cond.instanceMethod mX9_row.1 ∈ Wall := wall_t4 (i := 78) rfl rfl
theorem msX9_row : Cond.selects mX9_row.1.cls mX9_row.1 mX9_row.1 ∈ Wall := wall_t4 (i := 79) rfl rfl
abbrev mX4_holdRow : Mt := (yX4_holdRow, cX4_holdRow, 4, none)
theorem moX4_holdRow : mOk mX4_holdRow 2 := ⟨wall_t4 (i := 84) rfl rfl, wall_t1 (i := 10) rfl rfl, ⟨by decide +kernel, by decide +kernel⟩, by decide +kernel, by decide +kernel⟩
theorem miX4_holdRow : Cond.instanceMethod mX4_holdRow.1 ∈ Wall := wall_t4 (i := 82) rfl rfl
theorem msX4_holdRow : Cond.selects mX4_holdRow.1.cls mX4_holdRow.1 mX4_holdRow.1 ∈ Wall := wall_t4 (i := 83) rfl rfl
abbrev mX9_put : Mt := (yX9_put, cX9_put, 7, (some .int))
theorem moX9_put : mOk mX9_put 3 := ⟨wall_t4 (i := 88) rfl rfl, wall_t1 (i := 1) rfl rfl, ⟨by decide +kernel, by decide +kernel⟩, by decide +kernel, by decide +kernel⟩
theorem miX9_put : Cond.instanceMethod mX9_put.1 ∈ Wall := wall_t4 (i := 86) rfl rfl
theorem msX9_put : Cond.selects mX9_put.1.cls mX9_put.1 mX9_put.1 ∈ Wall := wall_t4 (i := 87) rfl rfl
abbrev mX9_refusedElement : Mt := (yX9_refusedElement, cX9_refusedElement, 4, (some .int))
theorem moX9_refusedElement : mOk mX9_refusedElement 2 := ⟨wall_t4 (i := 92) rfl rfl, wall_t1 (i := 1) rfl rfl, ⟨by decide +kernel, by decide +kernel⟩, by decide +kernel, by decide +kernel⟩
theorem miX9_refusedElement : Cond.instanceMethod mX9_refusedElement.1 ∈ Wall := wall_t4 (i := 91) rfl rfl
theorem msX9_refusedElement : Cond.selects mX9_refusedElement.1.cls mX9_refusedElement.1 mX9_refusedElement.1 ∈ Wall := wall_sel (i := 25) rfl rfl
abbrev mX4_cut : Mt := (yX4_cut, cX4_cut, 3, (some .long))
theorem moX4_cut : mOk mX4_cut 2 := ⟨wall_t4 (i := 95) rfl rfl, wall_t1 (i := 10) rfl rfl, ⟨by decide +kernel, by decide +kernel⟩, by decide +kernel, by decide +kernel⟩
theorem mtX4_cut : Cond.static mX4_cut.1 ∈ Wall := wall_t4 (i := 94) rfl rfl
abbrev mX9_element : Mt := (yX9_element, cX9_element, 3, (some .long))
theorem moX9_element : mOk mX9_element 2 := ⟨wall_t4 (i := 99) rfl rfl, wall_t1 (i := 1) rfl rfl, ⟨by decide +kernel, by decide +kernel⟩, by decide +kernel, by decide +kernel⟩
theorem miX9_element : Cond.instanceMethod mX9_element.1 ∈ Wall := wall_t4 (i := 97) rfl rfl
theorem msX9_element : Cond.selects mX9_element.1.cls mX9_element.1 mX9_element.1 ∈ Wall := wall_t4 (i := 98) rfl rfl
abbrev mX9_shift : Mt := (yX9_shift, cX9_shift, 8, (some .int))
theorem moX9_shift : mOk mX9_shift 5 := ⟨wall_t4 (i := 104) rfl rfl, wall_t1 (i := 1) rfl rfl, ⟨by decide +kernel, by decide +kernel⟩, by decide +kernel, by decide +kernel⟩
theorem miX9_shift : Cond.instanceMethod mX9_shift.1 ∈ Wall := wall_t4 (i := 102) rfl rfl
theorem msX9_shift : Cond.selects mX9_shift.1.cls mX9_shift.1 mX9_shift.1 ∈ Wall := wall_t4 (i := 103) rfl rfl
abbrev mX9_taken : Mt := (yX9_taken, cX9_taken, 5, (some .int))
theorem moX9_taken : mOk mX9_taken 2 := ⟨wall_t4 (i := 109) rfl rfl, wall_t1 (i := 1) rfl rfl, ⟨by decide +kernel, by decide +kernel⟩, by decide +kernel, by decide +kernel⟩
theorem miX9_taken : Cond.instanceMethod mX9_taken.1 ∈ Wall := wall_t4 (i := 107) rfl rfl
theorem msX9_taken : Cond.selects mX9_taken.1.cls mX9_taken.1 mX9_taken.1 ∈ Wall := wall_t4 (i := 108) rfl rfl
abbrev mX5_kindOf : Mt := (yX5_kindOf, cX5_kindOf, 2, (some .int))
theorem moX5_kindOf : mOk mX5_kindOf 1 := ⟨wall_t4 (i := 113) rfl rfl, wall_t1 (i := 9) rfl rfl, ⟨by decide +kernel, by decide +kernel⟩, by decide +kernel, by decide +kernel⟩
theorem miX5_kindOf : Cond.instanceMethod mX5_kindOf.1 ∈ Wall := wall_t4 (i := 111) rfl rfl
theorem msX5_kindOf : Cond.selects mX5_kindOf.1.cls mX5_kindOf.1 mX5_kindOf.1 ∈ Wall := wall_t4 (i := 112) rfl rfl
abbrev mX5_isUnder : Mt := (yX5_isUnder, cX5_isUnder, 4, (some .boolean))
theorem moX5_isUnder : mOk mX5_isUnder 2 := ⟨wall_t4 (i := 116) rfl rfl, wall_t1 (i := 9) rfl rfl, ⟨by decide +kernel, by decide +kernel⟩, by decide +kernel, by decide +kernel⟩
theorem mtX5_isUnder : Cond.static mX5_isUnder.1 ∈ Wall := wall_t4 (i := 115) rfl rfl
abbrev mX9_count : Mt := (yX9_count, cX9_count, 2, (some .int))
theorem moX9_count : mOk mX9_count 1 := ⟨wall_t4 (i := 120) rfl rfl, wall_t1 (i := 1) rfl rfl, ⟨by decide +kernel, by decide +kernel⟩, by decide +kernel, by decide +kernel⟩
theorem miX9_count : Cond.instanceMethod mX9_count.1 ∈ Wall := wall_t4 (i := 118) rfl rfl
theorem msX9_count : Cond.selects mX9_count.1.cls mX9_count.1 mX9_count.1 ∈ Wall := wall_t4 (i := 119) rfl rfl
abbrev mX10_init : Mt := (yX10_init, cX10_init, 2, none)
theorem moX10_init : mOk mX10_init 0 := ⟨wall_t4 (i := 125) rfl rfl, wall_t1 (i := 11) rfl rfl, ⟨by decide +kernel, by decide +kernel⟩, by decide +kernel, by decide +kernel⟩
theorem miX10_init : Cond.instanceMethod mX10_init.1 ∈ Wall := wall_t4 (i := 124) rfl rfl
abbrev mX10_undo : Mt := (yX10_undo, cX10_undo, 1, (some .int))
theorem moX10_undo : mOk mX10_undo 0 := ⟨wall_t5 (i := 50) rfl rfl, wall_t1 (i := 11) rfl rfl, ⟨by decide +kernel, by decide +kernel⟩, by decide +kernel, by decide +kernel⟩
theorem miX10_undo : Cond.instanceMethod mX10_undo.1 ∈ Wall := wall_t5 (i := 48) rfl rfl
theorem msX10_undo : Cond.selects mX10_undo.1.cls mX10_undo.1 mX10_undo.1 ∈ Wall := wall_t5 (i := 49) rfl rfl
abbrev mX10_redo : Mt := (yX10_redo, cX10_redo, 1, (some .int))
theorem moX10_redo : mOk mX10_redo 0 := ⟨wall_t5 (i := 54) rfl rfl, wall_t1 (i := 11) rfl rfl, ⟨by decide +kernel, by decide +kernel⟩, by decide +kernel, by decide +kernel⟩
theorem miX10_redo : Cond.instanceMethod mX10_redo.1 ∈ Wall := wall_t5 (i := 52) rfl rfl
theorem msX10_redo : Cond.selects mX10_redo.1.cls mX10_redo.1 mX10_redo.1 ∈ Wall := wall_t5 (i := 53) rfl rfl
abbrev mX10_straw : Mt := (yX10_straw, cX10_straw, 3, (some .int))
theorem moX10_straw : mOk mX10_straw 2 := ⟨wall_t5 (i := 58) rfl rfl, wall_t1 (i := 11) rfl rfl, ⟨by decide +kernel, by decide +kernel⟩, by decide +kernel, by decide +kernel⟩
theorem miX10_straw : Cond.instanceMethod mX10_straw.1 ∈ Wall := wall_t5 (i := 56) rfl rfl
theorem msX10_straw : Cond.selects mX10_straw.1.cls mX10_straw.1 mX10_straw.1 ∈ Wall := wall_t5 (i := 57) rfl rfl
abbrev mX10_isOne : Mt := (yX10_isOne, cX10_isOne, 6, (some .boolean))
theorem moX10_isOne : mOk mX10_isOne 3 := ⟨wall_t5 (i := 62) rfl rfl, wall_t1 (i := 11) rfl rfl, ⟨by decide +kernel, by decide +kernel⟩, by decide +kernel, by decide +kernel⟩
theorem mtX10_isOne : Cond.static mX10_isOne.1 ∈ Wall := wall_t5 (i := 61) rfl rfl
abbrev mX10_within : Mt := (yX10_within, cX10_within, 6, (some .boolean))
theorem moX10_within : mOk mX10_within 3 := ⟨wall_t5 (i := 66) rfl rfl, wall_t1 (i := 11) rfl rfl, ⟨by decide +kernel, by decide +kernel⟩, by decide +kernel, by decide +kernel⟩
theorem mtX10_within : Cond.static mX10_within.1 ∈ Wall := wall_t5 (i := 65) rfl rfl
abbrev mX10_adds : Mt := (yX10_adds, cX10_adds, 5, none)
theorem moX10_adds : mOk mX10_adds 3 := ⟨wall_t5 (i := 72) rfl rfl, wall_t1 (i := 11) rfl rfl, ⟨by decide +kernel, by decide +kernel⟩, by decide +kernel, by decide +kernel⟩
theorem miX10_adds : Cond.instanceMethod mX10_adds.1 ∈ Wall := wall_t5 (i := 71) rfl rfl
theorem msX10_adds : Cond.selects mX10_adds.1.cls mX10_adds.1 mX10_adds.1 ∈ Wall := wall_sel (i := 26) rfl rfl
abbrev mX10_straws : Mt := (yX10_straws, cX10_straws, 7, (some .int))
theorem moX10_straws : mOk mX10_straws 3 := ⟨wall_t5 (i := 76) rfl rfl, wall_t1 (i := 11) rfl rfl, ⟨by decide +kernel, by decide +kernel⟩, by decide +kernel, by decide +kernel⟩
theorem miX10_straws : Cond.instanceMethod mX10_straws.1 ∈ Wall := wall_t5 (i := 74) rfl rfl
theorem msX10_straws : Cond.selects mX10_straws.1.cls mX10_straws.1 mX10_straws.1 ∈ Wall := wall_t5 (i := 75) rfl rfl
abbrev mX10_isShelf : Mt := (yX10_isShelf, cX10_isShelf, 1, (some .boolean))
theorem moX10_isShelf : mOk mX10_isShelf 1 := ⟨wall_t5 (i := 79) rfl rfl, wall_t1 (i := 11) rfl rfl, ⟨by decide +kernel, by decide +kernel⟩, by decide +kernel, by decide +kernel⟩
theorem mtX10_isShelf : Cond.static mX10_isShelf.1 ∈ Wall := wall_t5 (i := 78) rfl rfl
abbrev mX10_mend : Mt := (yX10_mend, cX10_mend, 5, (some .int))
theorem moX10_mend : mOk mX10_mend 3 := ⟨wall_t5 (i := 84) rfl rfl, wall_t1 (i := 11) rfl rfl, ⟨by decide +kernel, by decide +kernel⟩, by decide +kernel, by decide +kernel⟩
theorem miX10_mend : Cond.instanceMethod mX10_mend.1 ∈ Wall := wall_t5 (i := 82) rfl rfl
theorem msX10_mend : Cond.selects mX10_mend.1.cls mX10_mend.1 mX10_mend.1 ∈ Wall := wall_t5 (i := 83) rfl rfl
abbrev mX10_placeOf : Mt := (yX10_placeOf, cX10_placeOf, 3, (some .int))
theorem moX10_placeOf : mOk mX10_placeOf 2 := ⟨wall_t5 (i := 88) rfl rfl, wall_t1 (i := 11) rfl rfl, ⟨by decide +kernel, by decide +kernel⟩, by decide +kernel, by decide +kernel⟩
theorem miX10_placeOf : Cond.instanceMethod mX10_placeOf.1 ∈ Wall := wall_t5 (i := 87) rfl rfl
theorem msX10_placeOf : Cond.selects mX10_placeOf.1.cls mX10_placeOf.1 mX10_placeOf.1 ∈ Wall := wall_sel (i := 27) rfl rfl
abbrev mX10_isStraw : Mt := (yX10_isStraw, cX10_isStraw, 2, (some .boolean))
theorem moX10_isStraw : mOk mX10_isStraw 1 := ⟨wall_t5 (i := 93) rfl rfl, wall_t1 (i := 11) rfl rfl, ⟨by decide +kernel, by decide +kernel⟩, by decide +kernel, by decide +kernel⟩
theorem miX10_isStraw : Cond.instanceMethod mX10_isStraw.1 ∈ Wall := wall_t5 (i := 92) rfl rfl
theorem msX10_isStraw : Cond.selects mX10_isStraw.1.cls mX10_isStraw.1 mX10_isStraw.1 ∈ Wall := wall_sel (i := 28) rfl rfl
abbrev mX10_mayBecome : Mt := (yX10_mayBecome, cX10_mayBecome, 2, (some .boolean))
theorem moX10_mayBecome : mOk mX10_mayBecome 2 := ⟨wall_t5 (i := 98) rfl rfl, wall_t1 (i := 11) rfl rfl, ⟨by decide +kernel, by decide +kernel⟩, by decide +kernel, by decide +kernel⟩
theorem mtX10_mayBecome : Cond.static mX10_mayBecome.1 ∈ Wall := wall_t5 (i := 97) rfl rfl
abbrev mX10_becomes : Mt := (yX10_becomes, cX10_becomes, 5, (some .int))
theorem moX10_becomes : mOk mX10_becomes 2 := ⟨wall_t5 (i := 106) rfl rfl, wall_t1 (i := 11) rfl rfl, ⟨by decide +kernel, by decide +kernel⟩, by decide +kernel, by decide +kernel⟩
theorem miX10_becomes : Cond.instanceMethod mX10_becomes.1 ∈ Wall := wall_t5 (i := 105) rfl rfl
theorem msX10_becomes : Cond.selects mX10_becomes.1.cls mX10_becomes.1 mX10_becomes.1 ∈ Wall := wall_sel (i := 29) rfl rfl
abbrev mX10_of : Mt := (yX10_of, cX10_of, 4, (some .int))
theorem moX10_of : mOk mX10_of 2 := ⟨wall_t5 (i := 111) rfl rfl, wall_t1 (i := 11) rfl rfl, ⟨by decide +kernel, by decide +kernel⟩, by decide +kernel, by decide +kernel⟩
theorem miX10_of : Cond.instanceMethod mX10_of.1 ∈ Wall := wall_t5 (i := 109) rfl rfl
theorem msX10_of : Cond.selects mX10_of.1.cls mX10_of.1 mX10_of.1 ∈ Wall := wall_t5 (i := 110) rfl rfl
abbrev mX10_feed : Mt := (yX10_feed, cX10_feed, 2, (some .int))
theorem moX10_feed : mOk mX10_feed 1 := ⟨wall_t5 (i := 115) rfl rfl, wall_t1 (i := 11) rfl rfl, ⟨by decide +kernel, by decide +kernel⟩, by decide +kernel, by decide +kernel⟩
theorem miX10_feed : Cond.instanceMethod mX10_feed.1 ∈ Wall := wall_t5 (i := 113) rfl rfl
theorem msX10_feed : Cond.selects mX10_feed.1.cls mX10_feed.1 mX10_feed.1 ∈ Wall := wall_t5 (i := 114) rfl rfl
abbrev mX10_law : Mt := (yX10_law, cX10_law, 4, (some .int))
theorem moX10_law : mOk mX10_law 0 := ⟨wall_t5 (i := 120) rfl rfl, wall_t1 (i := 11) rfl rfl, ⟨by decide +kernel, by decide +kernel⟩, by decide +kernel, by decide +kernel⟩
theorem miX10_law : Cond.instanceMethod mX10_law.1 ∈ Wall := wall_t5 (i := 118) rfl rfl
theorem msX10_law : Cond.selects mX10_law.1.cls mX10_law.1 mX10_law.1 ∈ Wall := wall_t5 (i := 119) rfl rfl
abbrev mX10_workOut : Mt := (yX10_workOut, cX10_workOut, 8, (some .int))
theorem moX10_workOut : mOk mX10_workOut 2 := ⟨wall_t5 (i := 124) rfl rfl, wall_t1 (i := 11) rfl rfl, ⟨by decide +kernel, by decide +kernel⟩, by decide +kernel, by decide +kernel⟩
theorem miX10_workOut : Cond.instanceMethod mX10_workOut.1 ∈ Wall := wall_t5 (i := 123) rfl rfl
theorem msX10_workOut : Cond.selects mX10_workOut.1.cls mX10_workOut.1 mX10_workOut.1 ∈ Wall := wall_sel (i := 30) rfl rfl
abbrev mX10_either : Mt := (yX10_either, cX10_either, 3, (some .int))
theorem moX10_either : mOk mX10_either 0 := ⟨wall_t5 (i := 128) rfl rfl, wall_t1 (i := 11) rfl rfl, ⟨by decide +kernel, by decide +kernel⟩, by decide +kernel, by decide +kernel⟩
theorem miX10_either : Cond.instanceMethod mX10_either.1 ∈ Wall := wall_t5 (i := 127) rfl rfl
theorem msX10_either : Cond.selects mX10_either.1.cls mX10_either.1 mX10_either.1 ∈ Wall := wall_sel (i := 31) rfl rfl
abbrev mX10_bothOf : Mt := (yX10_bothOf, cX10_bothOf, 3, (some .int))
theorem moX10_bothOf : mOk mX10_bothOf 0 := ⟨wall_t5 (i := 132) rfl rfl, wall_t1 (i := 11) rfl rfl, ⟨by decide +kernel, by decide +kernel⟩, by decide +kernel, by decide +kernel⟩
theorem miX10_bothOf : Cond.instanceMethod mX10_bothOf.1 ∈ Wall := wall_t5 (i := 131) rfl rfl
theorem msX10_bothOf : Cond.selects mX10_bothOf.1.cls mX10_bothOf.1 mX10_bothOf.1 ∈ Wall := wall_sel (i := 32) rfl rfl
abbrev mX10_compared : Mt := (yX10_compared, cX10_compared, 4, (some .int))
theorem moX10_compared : mOk mX10_compared 0 := ⟨wall_t5 (i := 136) rfl rfl, wall_t1 (i := 11) rfl rfl, ⟨by decide +kernel, by decide +kernel⟩, by decide +kernel, by decide +kernel⟩
theorem miX10_compared : Cond.instanceMethod mX10_compared.1 ∈ Wall := wall_t5 (i := 135) rfl rfl
theorem msX10_compared : Cond.selects mX10_compared.1.cls mX10_compared.1 mX10_compared.1 ∈ Wall := wall_sel (i := 33) rfl rfl
abbrev mX10_sums : Mt := (yX10_sums, cX10_sums, 4, (some .int))
theorem moX10_sums : mOk mX10_sums 0 := ⟨wall_t5 (i := 140) rfl rfl, wall_t1 (i := 11) rfl rfl, ⟨by decide +kernel, by decide +kernel⟩, by decide +kernel, by decide +kernel⟩
theorem miX10_sums : Cond.instanceMethod mX10_sums.1 ∈ Wall := wall_t5 (i := 139) rfl rfl
theorem msX10_sums : Cond.selects mX10_sums.1.cls mX10_sums.1 mX10_sums.1 ∈ Wall := wall_sel (i := 34) rfl rfl
abbrev mX10_product : Mt := (yX10_product, cX10_product, 4, (some .int))
theorem moX10_product : mOk mX10_product 0 := ⟨wall_t5 (i := 144) rfl rfl, wall_t1 (i := 11) rfl rfl, ⟨by decide +kernel, by decide +kernel⟩, by decide +kernel, by decide +kernel⟩
theorem miX10_product : Cond.instanceMethod mX10_product.1 ∈ Wall := wall_t5 (i := 143) rfl rfl
theorem msX10_product : Cond.selects mX10_product.1.cls mX10_product.1 mX10_product.1 ∈ Wall := wall_sel (i := 35) rfl rfl
abbrev mX10_one : Mt := (yX10_one, cX10_one, 5, (some .int))
theorem moX10_one : mOk mX10_one 0 := ⟨wall_t5 (i := 148) rfl rfl, wall_t1 (i := 11) rfl rfl, ⟨by decide +kernel, by decide +kernel⟩, by decide +kernel, by decide +kernel⟩
theorem miX10_one : Cond.instanceMethod mX10_one.1 ∈ Wall := wall_t5 (i := 147) rfl rfl
theorem msX10_one : Cond.selects mX10_one.1.cls mX10_one.1 mX10_one.1 ∈ Wall := wall_sel (i := 36) rfl rfl
abbrev mX10_byteAt : Mt := (yX10_byteAt, cX10_byteAt, 1, (some .int))
theorem moX10_byteAt : mOk mX10_byteAt 0 := ⟨wall_t5 (i := 152) rfl rfl, wall_t1 (i := 11) rfl rfl, ⟨by decide +kernel, by decide +kernel⟩, by decide +kernel, by decide +kernel⟩
theorem miX10_byteAt : Cond.instanceMethod mX10_byteAt.1 ∈ Wall := wall_t5 (i := 151) rfl rfl
theorem msX10_byteAt : Cond.selects mX10_byteAt.1.cls mX10_byteAt.1 mX10_byteAt.1 ∈ Wall := wall_sel (i := 37) rfl rfl
abbrev mX10_wrong : Mt := (yX10_wrong, cX10_wrong, 1, (some .int))
theorem moX10_wrong : mOk mX10_wrong 0 := ⟨wall_t5 (i := 156) rfl rfl, wall_t1 (i := 11) rfl rfl, ⟨by decide +kernel, by decide +kernel⟩, by decide +kernel, by decide +kernel⟩
theorem miX10_wrong : Cond.instanceMethod mX10_wrong.1 ∈ Wall := wall_t5 (i := 155) rfl rfl
theorem msX10_wrong : Cond.selects mX10_wrong.1.cls mX10_wrong.1 mX10_wrong.1 ∈ Wall := wall_sel (i := 38) rfl rfl
abbrev mX10_takes : Mt := (yX10_takes, cX10_takes, 2, (some .boolean))
theorem moX10_takes : mOk mX10_takes 1 := ⟨wall_t5 (i := 160) rfl rfl, wall_t1 (i := 11) rfl rfl, ⟨by decide +kernel, by decide +kernel⟩, by decide +kernel, by decide +kernel⟩
theorem miX10_takes : Cond.instanceMethod mX10_takes.1 ∈ Wall := wall_t5 (i := 159) rfl rfl
theorem msX10_takes : Cond.selects mX10_takes.1.cls mX10_takes.1 mX10_takes.1 ∈ Wall := wall_sel (i := 39) rfl rfl
abbrev mX10_nameOf : Mt := (yX10_nameOf, cX10_nameOf, 1, (some .int))
theorem moX10_nameOf : mOk mX10_nameOf 1 := ⟨wall_t5 (i := 163) rfl rfl, wall_t1 (i := 11) rfl rfl, ⟨by decide +kernel, by decide +kernel⟩, by decide +kernel, by decide +kernel⟩
theorem mtX10_nameOf : Cond.static mX10_nameOf.1 ∈ Wall := wall_t5 (i := 162) rfl rfl
abbrev mX10_wants : Mt := (yX10_wants, cX10_wants, 4, (some .int))
theorem moX10_wants : mOk mX10_wants 3 := ⟨wall_t5 (i := 167) rfl rfl, wall_t1 (i := 11) rfl rfl, ⟨by decide +kernel, by decide +kernel⟩, by decide +kernel, by decide +kernel⟩
theorem miX10_wants : Cond.instanceMethod mX10_wants.1 ∈ Wall := wall_t5 (i := 165) rfl rfl
theorem msX10_wants : Cond.selects mX10_wants.1.cls mX10_wants.1 mX10_wants.1 ∈ Wall := wall_t5 (i := 166) rfl rfl
abbrev mX10_wantsAt : Mt := (yX10_wantsAt, cX10_wantsAt, 5, (some .int))
theorem moX10_wantsAt : mOk mX10_wantsAt 3 := ⟨wall_t5 (i := 171) rfl rfl, wall_t1 (i := 11) rfl rfl, ⟨by decide +kernel, by decide +kernel⟩, by decide +kernel, by decide +kernel⟩
theorem miX10_wantsAt : Cond.instanceMethod mX10_wantsAt.1 ∈ Wall := wall_t5 (i := 170) rfl rfl
theorem msX10_wantsAt : Cond.selects mX10_wantsAt.1.cls mX10_wantsAt.1 mX10_wantsAt.1 ∈ Wall := wall_sel (i := 40) rfl rfl
abbrev mX10_ofStraw : Mt := (yX10_ofStraw, cX10_ofStraw, 3, (some .int))
theorem moX10_ofStraw : mOk mX10_ofStraw 2 := ⟨wall_t5 (i := 175) rfl rfl, wall_t1 (i := 11) rfl rfl, ⟨by decide +kernel, by decide +kernel⟩, by decide +kernel, by decide +kernel⟩
theorem miX10_ofStraw : Cond.instanceMethod mX10_ofStraw.1 ∈ Wall := wall_t5 (i := 174) rfl rfl
theorem msX10_ofStraw : Cond.selects mX10_ofStraw.1.cls mX10_ofStraw.1 mX10_ofStraw.1 ∈ Wall := wall_sel (i := 41) rfl rfl
abbrev mX10_glass : Mt := (yX10_glass, cX10_glass, 4, (some .int))
theorem moX10_glass : mOk mX10_glass 3 := ⟨wall_t5 (i := 179) rfl rfl, wall_t1 (i := 11) rfl rfl, ⟨by decide +kernel, by decide +kernel⟩, by decide +kernel, by decide +kernel⟩
theorem miX10_glass : Cond.instanceMethod mX10_glass.1 ∈ Wall := wall_t5 (i := 177) rfl rfl
theorem msX10_glass : Cond.selects mX10_glass.1.cls mX10_glass.1 mX10_glass.1 ∈ Wall := wall_t5 (i := 178) rfl rfl
abbrev mX10_begins1 : Mt := (yX10_begins1, cX10_begins1, 2, none)
theorem moX10_begins1 : mOk mX10_begins1 0 := ⟨wall_t5 (i := 184) rfl rfl, wall_t1 (i := 11) rfl rfl, ⟨by decide +kernel, by decide +kernel⟩, by decide +kernel, by decide +kernel⟩
theorem miX10_begins1 : Cond.instanceMethod mX10_begins1.1 ∈ Wall := wall_t5 (i := 183) rfl rfl
theorem msX10_begins1 : Cond.selects mX10_begins1.1.cls mX10_begins1.1 mX10_begins1.1 ∈ Wall := wall_sel (i := 42) rfl rfl
abbrev mX10_goes : Mt := (yX10_goes, cX10_goes, 3, none)
theorem moX10_goes : mOk mX10_goes 1 := ⟨wall_t5 (i := 188) rfl rfl, wall_t1 (i := 11) rfl rfl, ⟨by decide +kernel, by decide +kernel⟩, by decide +kernel, by decide +kernel⟩
theorem miX10_goes : Cond.instanceMethod mX10_goes.1 ∈ Wall := wall_t5 (i := 187) rfl rfl
theorem msX10_goes : Cond.selects mX10_goes.1.cls mX10_goes.1 mX10_goes.1 ∈ Wall := wall_sel (i := 43) rfl rfl
abbrev mX10_secondGoes : Mt := (yX10_secondGoes, cX10_secondGoes, 6, none)
theorem moX10_secondGoes : mOk mX10_secondGoes 0 := ⟨wall_t5 (i := 192) rfl rfl, wall_t1 (i := 11) rfl rfl, ⟨by decide +kernel, by decide +kernel⟩, by decide +kernel, by decide +kernel⟩
theorem miX10_secondGoes : Cond.instanceMethod mX10_secondGoes.1 ∈ Wall := wall_t5 (i := 191) rfl rfl
theorem msX10_secondGoes : Cond.selects mX10_secondGoes.1.cls mX10_secondGoes.1 mX10_secondGoes.1 ∈ Wall := wall_sel (i := 44) rfl rfl
abbrev mX10_wantsNow : Mt := (yX10_wantsNow, cX10_wantsNow, 4, (some .int))
theorem moX10_wantsNow : mOk mX10_wantsNow 1 := ⟨wall_t5 (i := 196) rfl rfl, wall_t1 (i := 11) rfl rfl, ⟨by decide +kernel, by decide +kernel⟩, by decide +kernel, by decide +kernel⟩
theorem miX10_wantsNow : Cond.instanceMethod mX10_wantsNow.1 ∈ Wall := wall_t5 (i := 195) rfl rfl
theorem msX10_wantsNow : Cond.selects mX10_wantsNow.1.cls mX10_wantsNow.1 mX10_wantsNow.1 ∈ Wall := wall_sel (i := 45) rfl rfl
abbrev mX10_draws : Mt := (yX10_draws, cX10_draws, 3, (some .boolean))
theorem moX10_draws : mOk mX10_draws 1 := ⟨wall_t5 (i := 200) rfl rfl, wall_t1 (i := 11) rfl rfl, ⟨by decide +kernel, by decide +kernel⟩, by decide +kernel, by decide +kernel⟩
theorem miX10_draws : Cond.instanceMethod mX10_draws.1 ∈ Wall := wall_t5 (i := 199) rfl rfl
theorem msX10_draws : Cond.selects mX10_draws.1.cls mX10_draws.1 mX10_draws.1 ∈ Wall := wall_sel (i := 46) rfl rfl
abbrev mX10_isIn : Mt := (yX10_isIn, cX10_isIn, 2, (some .boolean))
theorem moX10_isIn : mOk mX10_isIn 2 := ⟨wall_t5 (i := 203) rfl rfl, wall_t1 (i := 11) rfl rfl, ⟨by decide +kernel, by decide +kernel⟩, by decide +kernel, by decide +kernel⟩
theorem mtX10_isIn : Cond.static mX10_isIn.1 ∈ Wall := wall_t5 (i := 202) rfl rfl
abbrev mX10_sweetOf : Mt := (yX10_sweetOf, cX10_sweetOf, 3, (some .int))
theorem moX10_sweetOf : mOk mX10_sweetOf 2 := ⟨wall_t5 (i := 207) rfl rfl, wall_t1 (i := 11) rfl rfl, ⟨by decide +kernel, by decide +kernel⟩, by decide +kernel, by decide +kernel⟩
theorem miX10_sweetOf : Cond.instanceMethod mX10_sweetOf.1 ∈ Wall := wall_t5 (i := 206) rfl rfl
theorem msX10_sweetOf : Cond.selects mX10_sweetOf.1.cls mX10_sweetOf.1 mX10_sweetOf.1 ∈ Wall := wall_sel (i := 47) rfl rfl
abbrev mX10_level : Mt := (yX10_level, cX10_level, 3, (some .int))
theorem moX10_level : mOk mX10_level 2 := ⟨wall_t5 (i := 211) rfl rfl, wall_t1 (i := 11) rfl rfl, ⟨by decide +kernel, by decide +kernel⟩, by decide +kernel, by decide +kernel⟩
theorem miX10_level : Cond.instanceMethod mX10_level.1 ∈ Wall := wall_t5 (i := 209) rfl rfl
theorem msX10_level : Cond.selects mX10_level.1.cls mX10_level.1 mX10_level.1 ∈ Wall := wall_t5 (i := 210) rfl rfl
abbrev mX10_empty : Mt := (yX10_empty, cX10_empty, 2, (some .int))
theorem moX10_empty : mOk mX10_empty 0 := ⟨wall_t5 (i := 215) rfl rfl, wall_t1 (i := 11) rfl rfl, ⟨by decide +kernel, by decide +kernel⟩, by decide +kernel, by decide +kernel⟩
theorem miX10_empty : Cond.instanceMethod mX10_empty.1 ∈ Wall := wall_t5 (i := 213) rfl rfl
theorem msX10_empty : Cond.selects mX10_empty.1.cls mX10_empty.1 mX10_empty.1 ∈ Wall := wall_t5 (i := 214) rfl rfl
abbrev mX10_isEmpty : Mt := (yX10_isEmpty, cX10_isEmpty, 3, (some .boolean))
theorem moX10_isEmpty : mOk mX10_isEmpty 0 := ⟨wall_t5 (i := 219) rfl rfl, wall_t1 (i := 11) rfl rfl, ⟨by decide +kernel, by decide +kernel⟩, by decide +kernel, by decide +kernel⟩
theorem miX10_isEmpty : Cond.instanceMethod mX10_isEmpty.1 ∈ Wall := wall_t5 (i := 218) rfl rfl
theorem msX10_isEmpty : Cond.selects mX10_isEmpty.1.cls mX10_isEmpty.1 mX10_isEmpty.1 ∈ Wall := wall_sel (i := 48) rfl rfl
abbrev mX10_more : Mt := (yX10_more, cX10_more, 6, (some .int))
theorem moX10_more : mOk mX10_more 2 := ⟨wall_t5 (i := 223) rfl rfl, wall_t1 (i := 11) rfl rfl, ⟨by decide +kernel, by decide +kernel⟩, by decide +kernel, by decide +kernel⟩
theorem miX10_more : Cond.instanceMethod mX10_more.1 ∈ Wall := wall_t5 (i := 221) rfl rfl
theorem msX10_more : Cond.selects mX10_more.1.cls mX10_more.1 mX10_more.1 ∈ Wall := wall_t5 (i := 222) rfl rfl
abbrev mX10_turns : Mt := (yX10_turns, cX10_turns, 5, (some .int))
theorem moX10_turns : mOk mX10_turns 3 := ⟨wall_t5 (i := 227) rfl rfl, wall_t1 (i := 11) rfl rfl, ⟨by decide +kernel, by decide +kernel⟩, by decide +kernel, by decide +kernel⟩
theorem miX10_turns : Cond.instanceMethod mX10_turns.1 ∈ Wall := wall_t5 (i := 225) rfl rfl
theorem msX10_turns : Cond.selects mX10_turns.1.cls mX10_turns.1 mX10_turns.1 ∈ Wall := wall_t5 (i := 226) rfl rfl
abbrev mX10_mark : Mt := (yX10_mark, cX10_mark, 5, (some .int))
theorem moX10_mark : mOk mX10_mark 1 := ⟨wall_t5 (i := 231) rfl rfl, wall_t1 (i := 11) rfl rfl, ⟨by decide +kernel, by decide +kernel⟩, by decide +kernel, by decide +kernel⟩
theorem miX10_mark : Cond.instanceMethod mX10_mark.1 ∈ Wall := wall_t5 (i := 229) rfl rfl
theorem msX10_mark : Cond.selects mX10_mark.1.cls mX10_mark.1 mX10_mark.1 ∈ Wall := wall_t5 (i := 230) rfl rfl
abbrev mX10_areTwo : Mt := (yX10_areTwo, cX10_areTwo, 2, (some .boolean))
theorem moX10_areTwo : mOk mX10_areTwo 1 := ⟨wall_t5 (i := 235) rfl rfl, wall_t1 (i := 11) rfl rfl, ⟨by decide +kernel, by decide +kernel⟩, by decide +kernel, by decide +kernel⟩
theorem miX10_areTwo : Cond.instanceMethod mX10_areTwo.1 ∈ Wall := wall_t5 (i := 234) rfl rfl
theorem msX10_areTwo : Cond.selects mX10_areTwo.1.cls mX10_areTwo.1 mX10_areTwo.1 ∈ Wall := wall_sel (i := 49) rfl rfl
abbrev mX10_halves : Mt := (yX10_halves, cX10_halves, 9, (some .int))
theorem moX10_halves : mOk mX10_halves 2 := ⟨wall_t5 (i := 239) rfl rfl, wall_t1 (i := 11) rfl rfl, ⟨by decide +kernel, by decide +kernel⟩, by decide +kernel, by decide +kernel⟩
theorem miX10_halves : Cond.instanceMethod mX10_halves.1 ∈ Wall := wall_t5 (i := 237) rfl rfl
theorem msX10_halves : Cond.selects mX10_halves.1.cls mX10_halves.1 mX10_halves.1 ∈ Wall := wall_t5 (i := 238) rfl rfl
abbrev mX10_alone : Mt := (yX10_alone, cX10_alone, 3, (some .int))
theorem moX10_alone : mOk mX10_alone 2 := ⟨wall_t6 (i := 3) rfl rfl, wall_t1 (i := 11) rfl rfl, ⟨by decide +kernel, by decide +kernel⟩, by decide +kernel, by decide +kernel⟩
theorem miX10_alone : Cond.instanceMethod mX10_alone.1 ∈ Wall := wall_t6 (i := 2) rfl rfl
theorem msX10_alone : Cond.selects mX10_alone.1.cls mX10_alone.1 mX10_alone.1 ∈ Wall := wall_sel (i := 50) rfl rfl
abbrev mX10_reachFor : Mt := (yX10_reachFor, cX10_reachFor, 10, (some .int))
theorem moX10_reachFor : mOk mX10_reachFor 3 := ⟨wall_t6 (i := 7) rfl rfl, wall_t1 (i := 11) rfl rfl, ⟨by decide +kernel, by decide +kernel⟩, by decide +kernel, by decide +kernel⟩
theorem miX10_reachFor : Cond.instanceMethod mX10_reachFor.1 ∈ Wall := wall_t6 (i := 5) rfl rfl
theorem msX10_reachFor : Cond.selects mX10_reachFor.1.cls mX10_reachFor.1 mX10_reachFor.1 ∈ Wall := wall_t6 (i := 6) rfl rfl
abbrev mX10_isSoon : Mt := (yX10_isSoon, cX10_isSoon, 1, (some .boolean))
theorem moX10_isSoon : mOk mX10_isSoon 1 := ⟨wall_t6 (i := 10) rfl rfl, wall_t1 (i := 11) rfl rfl, ⟨by decide +kernel, by decide +kernel⟩, by decide +kernel, by decide +kernel⟩
theorem mtX10_isSoon : Cond.static mX10_isSoon.1 ∈ Wall := wall_t6 (i := 9) rfl rfl
abbrev mX10_gets : Mt := (yX10_gets, cX10_gets, 3, (some .int))
theorem moX10_gets : mOk mX10_gets 2 := ⟨wall_t6 (i := 14) rfl rfl, wall_t1 (i := 11) rfl rfl, ⟨by decide +kernel, by decide +kernel⟩, by decide +kernel, by decide +kernel⟩
theorem miX10_gets : Cond.instanceMethod mX10_gets.1 ∈ Wall := wall_t6 (i := 13) rfl rfl
theorem msX10_gets : Cond.selects mX10_gets.1.cls mX10_gets.1 mX10_gets.1 ∈ Wall := wall_sel (i := 51) rfl rfl
abbrev mX10_slow : Mt := (yX10_slow, cX10_slow, 9, (some .int))
theorem moX10_slow : mOk mX10_slow 2 := ⟨wall_t6 (i := 18) rfl rfl, wall_t1 (i := 11) rfl rfl, ⟨by decide +kernel, by decide +kernel⟩, by decide +kernel, by decide +kernel⟩
theorem miX10_slow : Cond.instanceMethod mX10_slow.1 ∈ Wall := wall_t6 (i := 16) rfl rfl
theorem msX10_slow : Cond.selects mX10_slow.1.cls mX10_slow.1 mX10_slow.1 ∈ Wall := wall_t6 (i := 17) rfl rfl
abbrev mX10_both : Mt := (yX10_both, cX10_both, 10, (some .int))
theorem moX10_both : mOk mX10_both 2 := ⟨wall_t6 (i := 22) rfl rfl, wall_t1 (i := 11) rfl rfl, ⟨by decide +kernel, by decide +kernel⟩, by decide +kernel, by decide +kernel⟩
theorem miX10_both : Cond.instanceMethod mX10_both.1 ∈ Wall := wall_t6 (i := 20) rfl rfl
theorem msX10_both : Cond.selects mX10_both.1.cls mX10_both.1 mX10_both.1 ∈ Wall := wall_t6 (i := 21) rfl rfl
abbrev mX10_isSelf : Mt := (yX10_isSelf, cX10_isSelf, 6, (some .boolean))
theorem moX10_isSelf : mOk mX10_isSelf 4 := ⟨wall_t6 (i := 26) rfl rfl, wall_t1 (i := 11) rfl rfl, ⟨by decide +kernel, by decide +kernel⟩, by decide +kernel, by decide +kernel⟩
theorem miX10_isSelf : Cond.instanceMethod mX10_isSelf.1 ∈ Wall := wall_t6 (i := 25) rfl rfl
theorem msX10_isSelf : Cond.selects mX10_isSelf.1.cls mX10_isSelf.1 mX10_isSelf.1 ∈ Wall := wall_sel (i := 52) rfl rfl
abbrev mX10_holeFor : Mt := (yX10_holeFor, cX10_holeFor, 4, (some .int))
theorem moX10_holeFor : mOk mX10_holeFor 3 := ⟨wall_t6 (i := 30) rfl rfl, wall_t1 (i := 11) rfl rfl, ⟨by decide +kernel, by decide +kernel⟩, by decide +kernel, by decide +kernel⟩
theorem miX10_holeFor : Cond.instanceMethod mX10_holeFor.1 ∈ Wall := wall_t6 (i := 28) rfl rfl
theorem msX10_holeFor : Cond.selects mX10_holeFor.1.cls mX10_holeFor.1 mX10_holeFor.1 ∈ Wall := wall_t6 (i := 29) rfl rfl
abbrev mX10_othersGet : Mt := (yX10_othersGet, cX10_othersGet, 8, (some .int))
theorem moX10_othersGet : mOk mX10_othersGet 3 := ⟨wall_t6 (i := 34) rfl rfl, wall_t1 (i := 11) rfl rfl, ⟨by decide +kernel, by decide +kernel⟩, by decide +kernel, by decide +kernel⟩
theorem miX10_othersGet : Cond.instanceMethod mX10_othersGet.1 ∈ Wall := wall_t6 (i := 33) rfl rfl
theorem msX10_othersGet : Cond.selects mX10_othersGet.1.cls mX10_othersGet.1 mX10_othersGet.1 ∈ Wall := wall_sel (i := 53) rfl rfl
abbrev mX10_stopFor : Mt := (yX10_stopFor, cX10_stopFor, 4, (some .int))
theorem moX10_stopFor : mOk mX10_stopFor 1 := ⟨wall_t6 (i := 38) rfl rfl, wall_t1 (i := 11) rfl rfl, ⟨by decide +kernel, by decide +kernel⟩, by decide +kernel, by decide +kernel⟩
theorem miX10_stopFor : Cond.instanceMethod mX10_stopFor.1 ∈ Wall := wall_t6 (i := 36) rfl rfl
theorem msX10_stopFor : Cond.selects mX10_stopFor.1.cls mX10_stopFor.1 mX10_stopFor.1 ∈ Wall := wall_t6 (i := 37) rfl rfl
abbrev mX10_getsStopping : Mt := (yX10_getsStopping, cX10_getsStopping, 6, (some .int))
theorem moX10_getsStopping : mOk mX10_getsStopping 2 := ⟨wall_t6 (i := 42) rfl rfl, wall_t1 (i := 11) rfl rfl, ⟨by decide +kernel, by decide +kernel⟩, by decide +kernel, by decide +kernel⟩
theorem miX10_getsStopping : Cond.instanceMethod mX10_getsStopping.1 ∈ Wall := wall_t6 (i := 41) rfl rfl
theorem msX10_getsStopping : Cond.selects mX10_getsStopping.1.cls mX10_getsStopping.1 mX10_getsStopping.1 ∈ Wall := wall_sel (i := 54) rfl rfl
abbrev mX10_judge : Mt := (yX10_judge, cX10_judge, 2, (some .int))
theorem moX10_judge : mOk mX10_judge 1 := ⟨wall_t6 (i := 46) rfl rfl, wall_t1 (i := 11) rfl rfl, ⟨by decide +kernel, by decide +kernel⟩, by decide +kernel, by decide +kernel⟩
theorem miX10_judge : Cond.instanceMethod mX10_judge.1 ∈ Wall := wall_t6 (i := 44) rfl rfl
theorem msX10_judge : Cond.selects mX10_judge.1.cls mX10_judge.1 mX10_judge.1 ∈ Wall := wall_t6 (i := 45) rfl rfl
abbrev mX10_shortsAre : Mt := (yX10_shortsAre, cX10_shortsAre, 2, (some .int))
theorem moX10_shortsAre : mOk mX10_shortsAre 1 := ⟨wall_t6 (i := 50) rfl rfl, wall_t1 (i := 11) rfl rfl, ⟨by decide +kernel, by decide +kernel⟩, by decide +kernel, by decide +kernel⟩
theorem miX10_shortsAre : Cond.instanceMethod mX10_shortsAre.1 ∈ Wall := wall_t6 (i := 49) rfl rfl
theorem msX10_shortsAre : Cond.selects mX10_shortsAre.1.cls mX10_shortsAre.1 mX10_shortsAre.1 ∈ Wall := wall_sel (i := 55) rfl rfl
abbrev mX10_firstFalse : Mt := (yX10_firstFalse, cX10_firstFalse, 3, (some .int))
theorem moX10_firstFalse : mOk mX10_firstFalse 1 := ⟨wall_t6 (i := 54) rfl rfl, wall_t1 (i := 11) rfl rfl, ⟨by decide +kernel, by decide +kernel⟩, by decide +kernel, by decide +kernel⟩
theorem miX10_firstFalse : Cond.instanceMethod mX10_firstFalse.1 ∈ Wall := wall_t6 (i := 53) rfl rfl
theorem msX10_firstFalse : Cond.selects mX10_firstFalse.1.cls mX10_firstFalse.1 mX10_firstFalse.1 ∈ Wall := wall_sel (i := 56) rfl rfl
abbrev mX10_who : Mt := (yX10_who, cX10_who, 6, (some .int))
theorem moX10_who : mOk mX10_who 2 := ⟨wall_t6 (i := 58) rfl rfl, wall_t1 (i := 11) rfl rfl, ⟨by decide +kernel, by decide +kernel⟩, by decide +kernel, by decide +kernel⟩
theorem miX10_who : Cond.instanceMethod mX10_who.1 ∈ Wall := wall_t6 (i := 56) rfl rfl
theorem msX10_who : Cond.selects mX10_who.1.cls mX10_who.1 mX10_who.1 ∈ Wall := wall_t6 (i := 57) rfl rfl
abbrev mX10_since : Mt := (yX10_since, cX10_since, 7, (some .int))
theorem moX10_since : mOk mX10_since 2 := ⟨wall_t6 (i := 62) rfl rfl, wall_t1 (i := 11) rfl rfl, ⟨by decide +kernel, by decide +kernel⟩, by decide +kernel, by decide +kernel⟩
theorem miX10_since : Cond.instanceMethod mX10_since.1 ∈ Wall := wall_t6 (i := 60) rfl rfl
theorem msX10_since : Cond.selects mX10_since.1.cls mX10_since.1 mX10_since.1 ∈ Wall := wall_t6 (i := 61) rfl rfl
abbrev mX10_drawn : Mt := (yX10_drawn, cX10_drawn, 9, (some .int))
theorem moX10_drawn : mOk mX10_drawn 3 := ⟨wall_t6 (i := 66) rfl rfl, wall_t1 (i := 11) rfl rfl, ⟨by decide +kernel, by decide +kernel⟩, by decide +kernel, by decide +kernel⟩
theorem miX10_drawn : Cond.instanceMethod mX10_drawn.1 ∈ Wall := wall_t6 (i := 64) rfl rfl
theorem msX10_drawn : Cond.selects mX10_drawn.1.cls mX10_drawn.1 mX10_drawn.1 ∈ Wall := wall_t6 (i := 65) rfl rfl
abbrev mX10_second : Mt := (yX10_second, cX10_second, 2, (some .int))
theorem moX10_second : mOk mX10_second 0 := ⟨wall_t6 (i := 71) rfl rfl, wall_t1 (i := 11) rfl rfl, ⟨by decide +kernel, by decide +kernel⟩, by decide +kernel, by decide +kernel⟩
theorem miX10_second : Cond.instanceMethod mX10_second.1 ∈ Wall := wall_t6 (i := 69) rfl rfl
theorem msX10_second : Cond.selects mX10_second.1.cls mX10_second.1 mX10_second.1 ∈ Wall := wall_t6 (i := 70) rfl rfl
abbrev mX10_fill : Mt := (yX10_fill, cX10_fill, 4, (some .int))
theorem moX10_fill : mOk mX10_fill 1 := ⟨wall_t6 (i := 75) rfl rfl, wall_t1 (i := 11) rfl rfl, ⟨by decide +kernel, by decide +kernel⟩, by decide +kernel, by decide +kernel⟩
theorem miX10_fill : Cond.instanceMethod mX10_fill.1 ∈ Wall := wall_t6 (i := 73) rfl rfl
theorem msX10_fill : Cond.selects mX10_fill.1.cls mX10_fill.1 mX10_fill.1 ∈ Wall := wall_t6 (i := 74) rfl rfl
abbrev mX10_ice : Mt := (yX10_ice, cX10_ice, 2, (some .int))
theorem moX10_ice : mOk mX10_ice 1 := ⟨wall_t6 (i := 79) rfl rfl, wall_t1 (i := 11) rfl rfl, ⟨by decide +kernel, by decide +kernel⟩, by decide +kernel, by decide +kernel⟩
theorem miX10_ice : Cond.instanceMethod mX10_ice.1 ∈ Wall := wall_t6 (i := 77) rfl rfl
theorem msX10_ice : Cond.selects mX10_ice.1.cls mX10_ice.1 mX10_ice.1 ∈ Wall := wall_t6 (i := 78) rfl rfl
abbrev mX10_led : Mt := (yX10_led, cX10_led, 3, (some .int))
theorem moX10_led : mOk mX10_led 2 := ⟨wall_t6 (i := 83) rfl rfl, wall_t1 (i := 11) rfl rfl, ⟨by decide +kernel, by decide +kernel⟩, by decide +kernel, by decide +kernel⟩
theorem miX10_led : Cond.instanceMethod mX10_led.1 ∈ Wall := wall_t6 (i := 81) rfl rfl
theorem msX10_led : Cond.selects mX10_led.1.cls mX10_led.1 mX10_led.1 ∈ Wall := wall_t6 (i := 82) rfl rfl
abbrev mX10_image : Mt := (yX10_image, cX10_image, 2, (some .int))
theorem moX10_image : mOk mX10_image 0 := ⟨wall_t6 (i := 87) rfl rfl, wall_t1 (i := 11) rfl rfl, ⟨by decide +kernel, by decide +kernel⟩, by decide +kernel, by decide +kernel⟩
theorem miX10_image : Cond.instanceMethod mX10_image.1 ∈ Wall := wall_t6 (i := 85) rfl rfl
theorem msX10_image : Cond.selects mX10_image.1.cls mX10_image.1 mX10_image.1 ∈ Wall := wall_t6 (i := 86) rfl rfl
abbrev mX10_back : Mt := (yX10_back, cX10_back, 3, (some .int))
theorem moX10_back : mOk mX10_back 0 := ⟨wall_t6 (i := 91) rfl rfl, wall_t1 (i := 11) rfl rfl, ⟨by decide +kernel, by decide +kernel⟩, by decide +kernel, by decide +kernel⟩
theorem miX10_back : Cond.instanceMethod mX10_back.1 ∈ Wall := wall_t6 (i := 89) rfl rfl
theorem msX10_back : Cond.selects mX10_back.1.cls mX10_back.1 mX10_back.1 ∈ Wall := wall_t6 (i := 90) rfl rfl
abbrev mX10_body : Mt := (yX10_body, cX10_body, 2, (some .int))
theorem moX10_body : mOk mX10_body 1 := ⟨wall_t6 (i := 95) rfl rfl, wall_t1 (i := 11) rfl rfl, ⟨by decide +kernel, by decide +kernel⟩, by decide +kernel, by decide +kernel⟩
theorem miX10_body : Cond.instanceMethod mX10_body.1 ∈ Wall := wall_t6 (i := 93) rfl rfl
theorem msX10_body : Cond.selects mX10_body.1.cls mX10_body.1 mX10_body.1 ∈ Wall := wall_t6 (i := 94) rfl rfl
abbrev mX10_act : Mt := (yX10_act, cX10_act, 4, (some .int))
theorem moX10_act : mOk mX10_act 3 := ⟨wall_t6 (i := 99) rfl rfl, wall_t1 (i := 11) rfl rfl, ⟨by decide +kernel, by decide +kernel⟩, by decide +kernel, by decide +kernel⟩
theorem miX10_act : Cond.instanceMethod mX10_act.1 ∈ Wall := wall_t6 (i := 97) rfl rfl
theorem msX10_act : Cond.selects mX10_act.1.cls mX10_act.1 mX10_act.1 ∈ Wall := wall_t6 (i := 98) rfl rfl
abbrev mX10_isBody : Mt := (yX10_isBody, cX10_isBody, 2, (some .boolean))
theorem moX10_isBody : mOk mX10_isBody 1 := ⟨wall_t6 (i := 103) rfl rfl, wall_t1 (i := 11) rfl rfl, ⟨by decide +kernel, by decide +kernel⟩, by decide +kernel, by decide +kernel⟩
theorem miX10_isBody : Cond.instanceMethod mX10_isBody.1 ∈ Wall := wall_t6 (i := 102) rfl rfl
theorem msX10_isBody : Cond.selects mX10_isBody.1.cls mX10_isBody.1 mX10_isBody.1 ∈ Wall := wall_sel (i := 57) rfl rfl
abbrev mX10_drawsAs : Mt := (yX10_drawsAs, cX10_drawsAs, 3, (some .int))
theorem moX10_drawsAs : mOk mX10_drawsAs 2 := ⟨wall_t6 (i := 107) rfl rfl, wall_t1 (i := 11) rfl rfl, ⟨by decide +kernel, by decide +kernel⟩, by decide +kernel, by decide +kernel⟩
theorem miX10_drawsAs : Cond.instanceMethod mX10_drawsAs.1 ∈ Wall := wall_t6 (i := 106) rfl rfl
theorem msX10_drawsAs : Cond.selects mX10_drawsAs.1.cls mX10_drawsAs.1 mX10_drawsAs.1 ∈ Wall := wall_sel (i := 58) rfl rfl
abbrev mX10_begins : Mt := (yX10_begins, cX10_begins, 2, none)
theorem moX10_begins : mOk mX10_begins 1 := ⟨wall_t6 (i := 111) rfl rfl, wall_t1 (i := 11) rfl rfl, ⟨by decide +kernel, by decide +kernel⟩, by decide +kernel, by decide +kernel⟩
theorem miX10_begins : Cond.instanceMethod mX10_begins.1 ∈ Wall := wall_t6 (i := 110) rfl rfl
theorem msX10_begins : Cond.selects mX10_begins.1.cls mX10_begins.1 mX10_begins.1 ∈ Wall := wall_sel (i := 59) rfl rfl
abbrev mX10_getsAs : Mt := (yX10_getsAs, cX10_getsAs, 4, (some .int))
theorem moX10_getsAs : mOk mX10_getsAs 2 := ⟨wall_t6 (i := 115) rfl rfl, wall_t1 (i := 11) rfl rfl, ⟨by decide +kernel, by decide +kernel⟩, by decide +kernel, by decide +kernel⟩
theorem miX10_getsAs : Cond.instanceMethod mX10_getsAs.1 ∈ Wall := wall_t6 (i := 114) rfl rfl
theorem msX10_getsAs : Cond.selects mX10_getsAs.1.cls mX10_getsAs.1 mX10_getsAs.1 ∈ Wall := wall_sel (i := 60) rfl rfl
abbrev mX10_restsAs : Mt := (yX10_restsAs, cX10_restsAs, 4, (some .int))
theorem moX10_restsAs : mOk mX10_restsAs 2 := ⟨wall_t6 (i := 119) rfl rfl, wall_t1 (i := 11) rfl rfl, ⟨by decide +kernel, by decide +kernel⟩, by decide +kernel, by decide +kernel⟩
theorem miX10_restsAs : Cond.instanceMethod mX10_restsAs.1 ∈ Wall := wall_t6 (i := 118) rfl rfl
theorem msX10_restsAs : Cond.selects mX10_restsAs.1.cls mX10_restsAs.1 mX10_restsAs.1 ∈ Wall := wall_sel (i := 61) rfl rfl
abbrev mX10_tellsAs : Mt := (yX10_tellsAs, cX10_tellsAs, 4, (some .int))
theorem moX10_tellsAs : mOk mX10_tellsAs 2 := ⟨wall_t6 (i := 123) rfl rfl, wall_t1 (i := 11) rfl rfl, ⟨by decide +kernel, by decide +kernel⟩, by decide +kernel, by decide +kernel⟩
theorem miX10_tellsAs : Cond.instanceMethod mX10_tellsAs.1 ∈ Wall := wall_t6 (i := 122) rfl rfl
theorem msX10_tellsAs : Cond.selects mX10_tellsAs.1.cls mX10_tellsAs.1 mX10_tellsAs.1 ∈ Wall := wall_sel (i := 62) rfl rfl
abbrev mX10_trace : Mt := (yX10_trace, cX10_trace, 2, (some .int))
theorem moX10_trace : mOk mX10_trace 1 := ⟨wall_t6 (i := 127) rfl rfl, wall_t1 (i := 11) rfl rfl, ⟨by decide +kernel, by decide +kernel⟩, by decide +kernel, by decide +kernel⟩
theorem miX10_trace : Cond.instanceMethod mX10_trace.1 ∈ Wall := wall_t6 (i := 125) rfl rfl
theorem msX10_trace : Cond.selects mX10_trace.1.cls mX10_trace.1 mX10_trace.1 ∈ Wall := wall_t6 (i := 126) rfl rfl
abbrev mX10_keep : Mt := (yX10_keep, cX10_keep, 3, (some .int))
theorem moX10_keep : mOk mX10_keep 2 := ⟨wall_t6 (i := 131) rfl rfl, wall_t1 (i := 11) rfl rfl, ⟨by decide +kernel, by decide +kernel⟩, by decide +kernel, by decide +kernel⟩
theorem miX10_keep : Cond.instanceMethod mX10_keep.1 ∈ Wall := wall_t6 (i := 129) rfl rfl
theorem msX10_keep : Cond.selects mX10_keep.1.cls mX10_keep.1 mX10_keep.1 ∈ Wall := wall_t6 (i := 130) rfl rfl
abbrev mX10_row : Mt := (yX10_row, cX10_row, 5, (some .int))
theorem moX10_row : mOk mX10_row 3 := ⟨wall_t6 (i := 135) rfl rfl, wall_t1 (i := 11) rfl rfl, ⟨by decide +kernel, by decide +kernel⟩, by decide +kernel, by decide +kernel⟩
theorem miX10_row : Cond.instanceMethod mX10_row.1 ∈ Wall := wall_t6 (i := 133) rfl rfl
theorem msX10_row : Cond.selects mX10_row.1.cls mX10_row.1 mX10_row.1 ∈ Wall := wall_t6 (i := 134) rfl rfl
abbrev mX10_put : Mt := (yX10_put, cX10_put, 6, (some .int))
theorem moX10_put : mOk mX10_put 3 := ⟨wall_t6 (i := 140) rfl rfl, wall_t1 (i := 11) rfl rfl, ⟨by decide +kernel, by decide +kernel⟩, by decide +kernel, by decide +kernel⟩
theorem miX10_put : Cond.instanceMethod mX10_put.1 ∈ Wall := wall_t6 (i := 138) rfl rfl
theorem msX10_put : Cond.selects mX10_put.1.cls mX10_put.1 mX10_put.1 ∈ Wall := wall_t6 (i := 139) rfl rfl
abbrev mX10_refusal : Mt := (yX10_refusal, cX10_refusal, 3, (some .int))
theorem moX10_refusal : mOk mX10_refusal 2 := ⟨wall_t6 (i := 144) rfl rfl, wall_t1 (i := 11) rfl rfl, ⟨by decide +kernel, by decide +kernel⟩, by decide +kernel, by decide +kernel⟩
theorem miX10_refusal : Cond.instanceMethod mX10_refusal.1 ∈ Wall := wall_t6 (i := 143) rfl rfl
theorem msX10_refusal : Cond.selects mX10_refusal.1.cls mX10_refusal.1 mX10_refusal.1 ∈ Wall := wall_sel (i := 63) rfl rfl
abbrev mX10_asSort : Mt := (yX10_asSort, cX10_asSort, 3, (some .long))
theorem moX10_asSort : mOk mX10_asSort 2 := ⟨wall_t6 (i := 147) rfl rfl, wall_t1 (i := 11) rfl rfl, ⟨by decide +kernel, by decide +kernel⟩, by decide +kernel, by decide +kernel⟩
theorem mtX10_asSort : Cond.static mX10_asSort.1 ∈ Wall := wall_t6 (i := 146) rfl rfl
abbrev mX10_element : Mt := (yX10_element, cX10_element, 3, (some .long))
theorem moX10_element : mOk mX10_element 2 := ⟨wall_t6 (i := 151) rfl rfl, wall_t1 (i := 11) rfl rfl, ⟨by decide +kernel, by decide +kernel⟩, by decide +kernel, by decide +kernel⟩
theorem miX10_element : Cond.instanceMethod mX10_element.1 ∈ Wall := wall_t6 (i := 149) rfl rfl
theorem msX10_element : Cond.selects mX10_element.1.cls mX10_element.1 mX10_element.1 ∈ Wall := wall_t6 (i := 150) rfl rfl
abbrev mX10_shift : Mt := (yX10_shift, cX10_shift, 7, (some .int))
theorem moX10_shift : mOk mX10_shift 5 := ⟨wall_t6 (i := 156) rfl rfl, wall_t1 (i := 11) rfl rfl, ⟨by decide +kernel, by decide +kernel⟩, by decide +kernel, by decide +kernel⟩
theorem miX10_shift : Cond.instanceMethod mX10_shift.1 ∈ Wall := wall_t6 (i := 154) rfl rfl
theorem msX10_shift : Cond.selects mX10_shift.1.cls mX10_shift.1 mX10_shift.1 ∈ Wall := wall_t6 (i := 155) rfl rfl
abbrev mX10_taken : Mt := (yX10_taken, cX10_taken, 4, (some .int))
theorem moX10_taken : mOk mX10_taken 2 := ⟨wall_t6 (i := 160) rfl rfl, wall_t1 (i := 11) rfl rfl, ⟨by decide +kernel, by decide +kernel⟩, by decide +kernel, by decide +kernel⟩
theorem miX10_taken : Cond.instanceMethod mX10_taken.1 ∈ Wall := wall_t6 (i := 158) rfl rfl
theorem msX10_taken : Cond.selects mX10_taken.1.cls mX10_taken.1 mX10_taken.1 ∈ Wall := wall_t6 (i := 159) rfl rfl
abbrev mX10_kindOf : Mt := (yX10_kindOf, cX10_kindOf, 2, (some .int))
theorem moX10_kindOf : mOk mX10_kindOf 1 := ⟨wall_t6 (i := 164) rfl rfl, wall_t1 (i := 11) rfl rfl, ⟨by decide +kernel, by decide +kernel⟩, by decide +kernel, by decide +kernel⟩
theorem miX10_kindOf : Cond.instanceMethod mX10_kindOf.1 ∈ Wall := wall_t6 (i := 163) rfl rfl
theorem msX10_kindOf : Cond.selects mX10_kindOf.1.cls mX10_kindOf.1 mX10_kindOf.1 ∈ Wall := wall_sel (i := 64) rfl rfl
abbrev mX10_above : Mt := (yX10_above, cX10_above, 1, (some .int))
theorem moX10_above : mOk mX10_above 1 := ⟨wall_t6 (i := 167) rfl rfl, wall_t1 (i := 11) rfl rfl, ⟨by decide +kernel, by decide +kernel⟩, by decide +kernel, by decide +kernel⟩
theorem mtX10_above : Cond.static mX10_above.1 ∈ Wall := wall_t6 (i := 166) rfl rfl
abbrev mX10_count : Mt := (yX10_count, cX10_count, 2, (some .int))
theorem moX10_count : mOk mX10_count 1 := ⟨wall_t6 (i := 171) rfl rfl, wall_t1 (i := 11) rfl rfl, ⟨by decide +kernel, by decide +kernel⟩, by decide +kernel, by decide +kernel⟩
theorem miX10_count : Cond.instanceMethod mX10_count.1 ∈ Wall := wall_t6 (i := 169) rfl rfl
theorem msX10_count : Cond.selects mX10_count.1.cls mX10_count.1 mX10_count.1 ∈ Wall := wall_t6 (i := 170) rfl rfl
theorem ni9 : Cond.initialized (nmOf 9) ∈ Wall := wall_t1 (i := 1) rfl rfl
theorem ni3 : Cond.initialized (nmOf 3) ∈ Wall := wall_t1 (i := 2) rfl rfl
theorem ni6 : Cond.initialized (nmOf 6) ∈ Wall := wall_t1 (i := 3) rfl rfl
theorem ni7 : Cond.initialized (nmOf 7) ∈ Wall := wall_t1 (i := 4) rfl rfl
theorem ni2 : Cond.initialized (nmOf 2) ∈ Wall := wall_t1 (i := 5) rfl rfl
theorem ni1 : Cond.initialized (nmOf 1) ∈ Wall := wall_t1 (i := 6) rfl rfl
theorem ni8 : Cond.initialized (nmOf 8) ∈ Wall := wall_t1 (i := 7) rfl rfl
theorem ni0 : Cond.initialized (nmOf 0) ∈ Wall := wall_t1 (i := 8) rfl rfl
theorem ni5 : Cond.initialized (nmOf 5) ∈ Wall := wall_t1 (i := 9) rfl rfl
theorem ni4 : Cond.initialized (nmOf 4) ∈ Wall := wall_t1 (i := 10) rfl rfl
theorem ni10 : Cond.initialized (nmOf 10) ∈ Wall := wall_t1 (i := 11) rfl rfl
theorem klL_7 : Cond.classLink RL 7 (nmOf 9) ∈ Wall := wall_t1 (i := 14) rfl rfl
theorem nw9 : Cond.instantiable (nmOf 9) (nfOf 9) ∈ Wall := wall_t1 (i := 15) rfl rfl
theorem mlL_9 : Cond.methodLink RL 9 mX9_init.1 ∈ Wall := wall_t1 (i := 16) rfl rfl
theorem mlX9_1 : Cond.methodLink RX9 1 objectInit ∈ Wall := wall_t1 (i := 19) rfl rfl
theorem klX9_7 : Cond.classLink RX9 7 (nmOf 3) ∈ Wall := wall_t1 (i := 22) rfl rfl
theorem nw3 : Cond.instantiable (nmOf 3) (nfOf 3) ∈ Wall := wall_t1 (i := 23) rfl rfl
theorem mlX9_9 : Cond.methodLink RX9 9 mX3_init.1 ∈ Wall := wall_t1 (i := 24) rfl rfl
theorem mlX3_3 : Cond.methodLink RX3 3 objectInit ∈ Wall := wall_t1 (i := 27) rfl rfl
theorem mlX3_15 : Cond.methodLink RX3 15 mX3_glassPlace.1 ∈ Wall := wall_t1 (i := 28) rfl rfl
theorem gsX3_19 : Cond.fieldLink RX3 19 (sCn 2) (sNm 2) "[I" ∈ Wall := wall_t1 (i := 31) rfl rfl
theorem flX3_9 : Lf RX3 9 3 0 := ⟨by decide, by decide, wall_t1 (i := 33) rfl rfl⟩
theorem flX9_113 : Lf RX9 113 3 0 := ⟨by decide, by decide, wall_t1 (i := 34) rfl rfl⟩
theorem flX8_95 : Lf RX8 95 3 0 := ⟨by decide, by decide, wall_t1 (i := 35) rfl rfl⟩
theorem flX9_82 : Lf RX9 82 3 1 := ⟨by decide, by decide, wall_t1 (i := 36) rfl rfl⟩
theorem flX3_28 : Lf RX3 28 3 1 := ⟨by decide, by decide, wall_t1 (i := 37) rfl rfl⟩
theorem flX8_65 : Lf RX8 65 3 1 := ⟨by decide, by decide, wall_t1 (i := 38) rfl rfl⟩
theorem flX1_55 : Lf RX1 55 3 1 := ⟨by decide, by decide, wall_t1 (i := 39) rfl rfl⟩
theorem na_int : Cond.arrayClass .int ∈ Wall := wall_t1 (i := 45) rfl rfl
theorem klX9_16 : Cond.classLink RX9 16 (nmOf 6) ∈ Wall := wall_t1 (i := 46) rfl rfl
theorem nw6 : Cond.instantiable (nmOf 6) (nfOf 6) ∈ Wall := wall_t1 (i := 47) rfl rfl
theorem mlX9_18 : Cond.methodLink RX9 18 mX6_init.1 ∈ Wall := wall_t1 (i := 48) rfl rfl
theorem mlX6_1 : Cond.methodLink RX6 1 objectInit ∈ Wall := wall_t1 (i := 51) rfl rfl
theorem klX6_13 : Cond.classLink RX6 13 (nmOf 7) ∈ Wall := wall_t1 (i := 52) rfl rfl
theorem nw7 : Cond.instantiable (nmOf 7) (nfOf 7) ∈ Wall := wall_t1 (i := 53) rfl rfl
theorem mlX6_15 : Cond.methodLink RX6 15 mX7_init.1 ∈ Wall := wall_t1 (i := 54) rfl rfl
theorem mlX7_1 : Cond.methodLink RX7 1 objectInit ∈ Wall := wall_t1 (i := 57) rfl rfl
theorem flX7_9 : Lf RX7 9 7 0 := ⟨by decide, by decide, wall_t1 (i := 58) rfl rfl⟩
theorem flX2_70 : Lf RX2 70 7 0 := ⟨by decide, by decide, wall_t1 (i := 59) rfl rfl⟩
theorem flX7_15 : Lf RX7 15 7 1 := ⟨by decide, by decide, wall_t1 (i := 60) rfl rfl⟩
theorem flX2_47 : Lf RX2 47 7 1 := ⟨by decide, by decide, wall_t1 (i := 61) rfl rfl⟩
theorem flX7_18 : Lf RX7 18 7 2 := ⟨by decide, by decide, wall_t1 (i := 62) rfl rfl⟩
theorem flX2_50 : Lf RX2 50 7 2 := ⟨by decide, by decide, wall_t1 (i := 63) rfl rfl⟩
theorem flX7_22 : Lf RX7 22 7 3 := ⟨by decide, by decide, wall_t1 (i := 64) rfl rfl⟩
theorem flX2_31 : Lf RX2 31 7 4 := ⟨by decide, by decide, wall_t1 (i := 65) rfl rfl⟩
theorem flX7_26 : Lf RX7 26 7 4 := ⟨by decide, by decide, wall_t1 (i := 66) rfl rfl⟩
theorem na_boolean : Cond.arrayClass .boolean ∈ Wall := wall_t1 (i := 78) rfl rfl
theorem flX6_9 : Lf RX6 9 6 0 := ⟨by decide, by decide, wall_t1 (i := 79) rfl rfl⟩
theorem flX6_20 : Lf RX6 20 6 1 := ⟨by decide, by decide, wall_t1 (i := 80) rfl rfl⟩
theorem flX9_131 : Lf RX9 131 6 1 := ⟨by decide, by decide, wall_t1 (i := 81) rfl rfl⟩
theorem flX6_16 : Lf RX6 16 6 2 := ⟨by decide, by decide, wall_t1 (i := 82) rfl rfl⟩
theorem flX9_138 : Lf RX9 138 6 2 := ⟨by decide, by decide, wall_t1 (i := 83) rfl rfl⟩
theorem flX6_24 : Lf RX6 24 6 3 := ⟨by decide, by decide, wall_t1 (i := 84) rfl rfl⟩
theorem klX9_23 : Cond.classLink RX9 23 (nmOf 2) ∈ Wall := wall_t1 (i := 94) rfl rfl
theorem nw2 : Cond.instantiable (nmOf 2) (nfOf 2) ∈ Wall := wall_t1 (i := 95) rfl rfl
theorem mlX9_25 : Cond.methodLink RX9 25 mX2_init.1 ∈ Wall := wall_t1 (i := 96) rfl rfl
theorem mlX2_3 : Cond.methodLink RX2 3 objectInit ∈ Wall := wall_t1 (i := 99) rfl rfl
theorem klX2_9 : Cond.classLink RX2 9 (nmOf 7) ∈ Wall := wall_t1 (i := 100) rfl rfl
theorem mlX2_11 : Cond.methodLink RX2 11 mX7_init.1 ∈ Wall := wall_t1 (i := 101) rfl rfl
theorem flX2_12 : Lf RX2 12 2 0 := ⟨by decide, by decide, wall_t1 (i := 102) rfl rfl⟩
theorem flX9_142 : Lf RX9 142 2 0 := ⟨by decide, by decide, wall_t1 (i := 103) rfl rfl⟩
theorem flX2_27 : Lf RX2 27 2 1 := ⟨by decide, by decide, wall_t1 (i := 104) rfl rfl⟩
theorem flX2_18 : Lf RX2 18 2 2 := ⟨by decide, by decide, wall_t1 (i := 105) rfl rfl⟩
theorem flX2_24 : Lf RX2 24 2 3 := ⟨by decide, by decide, wall_t1 (i := 106) rfl rfl⟩
theorem klX9_32 : Cond.classLink RX9 32 (nmOf 1) ∈ Wall := wall_t1 (i := 116) rfl rfl
theorem nw1 : Cond.instantiable (nmOf 1) (nfOf 1) ∈ Wall := wall_t1 (i := 117) rfl rfl
theorem mlX9_34 : Cond.methodLink RX9 34 mX1_init.1 ∈ Wall := wall_t1 (i := 118) rfl rfl
theorem mlX1_3 : Cond.methodLink RX1 3 objectInit ∈ Wall := wall_t1 (i := 121) rfl rfl
theorem flX1_9 : Lf RX1 9 1 0 := ⟨by decide, by decide, wall_t1 (i := 122) rfl rfl⟩
theorem flX8_58 : Lf RX8 58 1 0 := ⟨by decide, by decide, wall_t1 (i := 123) rfl rfl⟩
theorem flX9_120 : Lf RX9 120 1 0 := ⟨by decide, by decide, wall_t1 (i := 124) rfl rfl⟩
theorem flX1_49 : Lf RX1 49 1 1 := ⟨by decide, by decide, wall_t1 (i := 125) rfl rfl⟩
theorem flX8_54 : Lf RX8 54 1 1 := ⟨by decide, by decide, wall_t1 (i := 126) rfl rfl⟩
theorem flX9_123 : Lf RX9 123 1 1 := ⟨by decide, by decide, wall_t1 (i := 127) rfl rfl⟩
theorem flX1_52 : Lf RX1 52 1 2 := ⟨by decide, by decide, wall_t1 (i := 128) rfl rfl⟩
theorem flX9_126 : Lf RX9 126 1 2 := ⟨by decide, by decide, wall_t1 (i := 129) rfl rfl⟩
theorem flX8_124 : Lf RX8 124 1 2 := ⟨by decide, by decide, wall_t1 (i := 130) rfl rfl⟩
theorem flX1_43 : Lf RX1 43 1 3 := ⟨by decide, by decide, wall_t1 (i := 131) rfl rfl⟩
theorem flX9_235 : Lf RX9 235 1 3 := ⟨by decide, by decide, wall_t1 (i := 132) rfl rfl⟩
theorem flX1_46 : Lf RX1 46 1 4 := ⟨by decide, by decide, wall_t1 (i := 133) rfl rfl⟩
theorem flX9_242 : Lf RX9 242 1 4 := ⟨by decide, by decide, wall_t1 (i := 134) rfl rfl⟩
theorem flX1_15 : Lf RX1 15 1 5 := ⟨by decide, by decide, wall_t1 (i := 135) rfl rfl⟩
theorem flX1_19 : Lf RX1 19 1 6 := ⟨by decide, by decide, wall_t1 (i := 136) rfl rfl⟩
theorem flX8_68 : Lf RX8 68 1 6 := ⟨by decide, by decide, wall_t1 (i := 137) rfl rfl⟩
theorem flX9_165 : Lf RX9 165 1 6 := ⟨by decide, by decide, wall_t1 (i := 138) rfl rfl⟩
theorem flX1_22 : Lf RX1 22 1 7 := ⟨by decide, by decide, wall_t1 (i := 139) rfl rfl⟩
theorem flX8_117 : Lf RX8 117 1 7 := ⟨by decide, by decide, wall_t1 (i := 140) rfl rfl⟩
theorem flX1_25 : Lf RX1 25 1 8 := ⟨by decide, by decide, wall_t1 (i := 141) rfl rfl⟩
theorem flX1_28 : Lf RX1 28 1 9 := ⟨by decide, by decide, wall_t1 (i := 142) rfl rfl⟩
theorem flX1_31 : Lf RX1 31 1 10 := ⟨by decide, by decide, wall_t1 (i := 143) rfl rfl⟩
theorem flX1_35 : Lf RX1 35 1 11 := ⟨by decide, by decide, wall_t1 (i := 144) rfl rfl⟩
theorem klX9_44 : Cond.classLink RX9 44 (nmOf 8) ∈ Wall := wall_t1 (i := 170) rfl rfl
theorem nw8 : Cond.instantiable (nmOf 8) (nfOf 8) ∈ Wall := wall_t1 (i := 171) rfl rfl
theorem mlX9_46 : Cond.methodLink RX9 46 mX8_init.1 ∈ Wall := wall_t1 (i := 172) rfl rfl
theorem mlX8_3 : Cond.methodLink RX8 3 objectInit ∈ Wall := wall_t1 (i := 175) rfl rfl
theorem klX8_29 : Cond.classLink RX8 29 (nmOf 1) ∈ Wall := wall_t1 (i := 176) rfl rfl
theorem mlX8_31 : Cond.methodLink RX8 31 mX1_init.1 ∈ Wall := wall_t1 (i := 177) rfl rfl
theorem flX8_92 : Lf RX8 92 8 0 := ⟨by decide, by decide, wall_t1 (i := 178) rfl rfl⟩
theorem flX9_193 : Lf RX9 193 8 0 := ⟨by decide, by decide, wall_t1 (i := 179) rfl rfl⟩
theorem flX8_21 : Lf RX8 21 8 1 := ⟨by decide, by decide, wall_t1 (i := 180) rfl rfl⟩
theorem flX8_25 : Lf RX8 25 8 2 := ⟨by decide, by decide, wall_t1 (i := 181) rfl rfl⟩
theorem flX8_34 : Lf RX8 34 8 3 := ⟨by decide, by decide, wall_t1 (i := 182) rfl rfl⟩
theorem flX8_37 : Lf RX8 37 8 4 := ⟨by decide, by decide, wall_t1 (i := 183) rfl rfl⟩
theorem flX8_9 : Lf RX8 9 8 5 := ⟨by decide, by decide, wall_t1 (i := 184) rfl rfl⟩
theorem flX8_15 : Lf RX8 15 8 6 := ⟨by decide, by decide, wall_t1 (i := 185) rfl rfl⟩
theorem flX8_18 : Lf RX8 18 8 7 := ⟨by decide, by decide, wall_t1 (i := 186) rfl rfl⟩
theorem klX9_53 : Cond.classLink RX9 53 (nmOf 0) ∈ Wall := wall_t1 (i := 204) rfl rfl
theorem nw0 : Cond.instantiable (nmOf 0) (nfOf 0) ∈ Wall := wall_t1 (i := 205) rfl rfl
theorem mlX9_55 : Cond.methodLink RX9 55 mX0_init.1 ∈ Wall := wall_t1 (i := 206) rfl rfl
theorem mlX0_1 : Cond.methodLink RX0 1 objectInit ∈ Wall := wall_t1 (i := 209) rfl rfl
theorem flX0_26 : Lf RX0 26 0 0 := ⟨by decide, by decide, wall_t1 (i := 210) rfl rfl⟩
theorem flX9_259 : Lf RX9 259 0 0 := ⟨by decide, by decide, wall_t1 (i := 211) rfl rfl⟩
theorem flX0_19 : Lf RX0 19 0 1 := ⟨by decide, by decide, wall_t1 (i := 212) rfl rfl⟩
theorem flX9_253 : Lf RX9 253 0 1 := ⟨by decide, by decide, wall_t1 (i := 213) rfl rfl⟩
theorem flX0_9 : Lf RX0 9 0 2 := ⟨by decide, by decide, wall_t1 (i := 214) rfl rfl⟩
theorem flX0_13 : Lf RX0 13 0 3 := ⟨by decide, by decide, wall_t1 (i := 215) rfl rfl⟩
theorem flX0_16 : Lf RX0 16 0 4 := ⟨by decide, by decide, wall_t1 (i := 216) rfl rfl⟩
theorem klX9_60 : Cond.classLink RX9 60 (nmOf 5) ∈ Wall := wall_t1 (i := 228) rfl rfl
theorem nw5 : Cond.instantiable (nmOf 5) (nfOf 5) ∈ Wall := wall_t1 (i := 229) rfl rfl
theorem mlX9_62 : Cond.methodLink RX9 62 mX5_init.1 ∈ Wall := wall_t1 (i := 230) rfl rfl
theorem mlX5_3 : Cond.methodLink RX5 3 objectInit ∈ Wall := wall_t1 (i := 233) rfl rfl
theorem flX5_18 : Lf RX5 18 5 0 := ⟨by decide, by decide, wall_t1 (i := 234) rfl rfl⟩
theorem flX9_313 : Lf RX9 313 5 0 := ⟨by decide, by decide, wall_t1 (i := 235) rfl rfl⟩
theorem flX5_29 : Lf RX5 29 5 1 := ⟨by decide, by decide, wall_t1 (i := 236) rfl rfl⟩
theorem flX9_316 : Lf RX9 316 5 1 := ⟨by decide, by decide, wall_t1 (i := 237) rfl rfl⟩
theorem flX5_11 : Lf RX5 11 5 2 := ⟨by decide, by decide, wall_t1 (i := 238) rfl rfl⟩
theorem flX5_15 : Lf RX5 15 5 3 := ⟨by decide, by decide, wall_t1 (i := 239) rfl rfl⟩
theorem klX9_67 : Cond.classLink RX9 67 (nmOf 4) ∈ Wall := wall_t2 (i := 9) rfl rfl
theorem nw4 : Cond.instantiable (nmOf 4) (nfOf 4) ∈ Wall := wall_t2 (i := 11) rfl rfl
theorem mlX9_73 : Cond.methodLink RX9 73 mX4_init.1 ∈ Wall := wall_t2 (i := 12) rfl rfl
theorem mlX4_3 : Cond.methodLink RX4 3 objectInit ∈ Wall := wall_t2 (i := 15) rfl rfl
theorem flX4_9 : Lf RX4 9 4 0 := ⟨by decide, by decide, wall_t2 (i := 16) rfl rfl⟩
theorem flX9_98 : Lf RX9 98 4 0 := ⟨by decide, by decide, wall_t2 (i := 17) rfl rfl⟩
theorem flX4_19 : Lf RX4 19 4 1 := ⟨by decide, by decide, wall_t2 (i := 18) rfl rfl⟩
theorem flX8_127 : Lf RX8 127 4 1 := ⟨by decide, by decide, wall_t2 (i := 19) rfl rfl⟩
theorem flX9_319 : Lf RX9 319 4 1 := ⟨by decide, by decide, wall_t2 (i := 20) rfl rfl⟩
theorem flX4_22 : Lf RX4 22 4 2 := ⟨by decide, by decide, wall_t2 (i := 21) rfl rfl⟩
theorem flX9_304 : Lf RX9 304 4 2 := ⟨by decide, by decide, wall_t2 (i := 22) rfl rfl⟩
theorem flX4_15 : Lf RX4 15 4 3 := ⟨by decide, by decide, wall_t2 (i := 23) rfl rfl⟩
theorem flX8_132 : Lf RX8 132 4 3 := ⟨by decide, by decide, wall_t2 (i := 24) rfl rfl⟩
theorem flX9_286 : Lf RX9 286 4 3 := ⟨by decide, by decide, wall_t2 (i := 25) rfl rfl⟩
theorem na_long : Cond.arrayClass .long ∈ Wall := wall_t2 (i := 35) rfl rfl
theorem flX9_10 : Lf RX9 10 9 0 := ⟨by decide, by decide, wall_t2 (i := 36) rfl rfl⟩
theorem flX9_19 : Lf RX9 19 9 1 := ⟨by decide, by decide, wall_t2 (i := 37) rfl rfl⟩
theorem flX9_28 : Lf RX9 28 9 2 := ⟨by decide, by decide, wall_t2 (i := 38) rfl rfl⟩
theorem flX9_37 : Lf RX9 37 9 3 := ⟨by decide, by decide, wall_t2 (i := 39) rfl rfl⟩
theorem flX9_41 : Lf RX9 41 9 4 := ⟨by decide, by decide, wall_t2 (i := 40) rfl rfl⟩
theorem flX9_49 : Lf RX9 49 9 5 := ⟨by decide, by decide, wall_t2 (i := 41) rfl rfl⟩
theorem flX9_56 : Lf RX9 56 9 6 := ⟨by decide, by decide, wall_t2 (i := 42) rfl rfl⟩
theorem flX9_63 : Lf RX9 63 9 7 := ⟨by decide, by decide, wall_t2 (i := 43) rfl rfl⟩
theorem flX9_69 : Lf RX9 69 9 8 := ⟨by decide, by decide, wall_t2 (i := 44) rfl rfl⟩
theorem flX9_74 : Lf RX9 74 9 9 := ⟨by decide, by decide, wall_t2 (i := 45) rfl rfl⟩
theorem mlL_13 : Cond.methodLink RL 13 mX9_straw.1 ∈ Wall := wall_t2 (i := 67) rfl rfl
theorem mlX9_78 : Cond.methodLink RX9 78 mX3_fits.1 ∈ Wall := wall_t2 (i := 71) rfl rfl
theorem gsX3_22 : Cond.fieldLink RX3 22 (sCn 0) (sNm 0) "[I" ∈ Wall := wall_t2 (i := 74) rfl rfl
theorem gsX3_25 : Cond.fieldLink RX3 25 (sCn 1) (sNm 1) "[I" ∈ Wall := wall_t2 (i := 76) rfl rfl
theorem gsX9_86 : Cond.fieldLink RX9 86 (sCn 2) (sNm 2) "[I" ∈ Wall := wall_t2 (i := 78) rfl rfl
theorem mlX9_90 : Cond.methodLink RX9 90 mX3_add.1 ∈ Wall := wall_t2 (i := 79) rfl rfl
theorem mlX3_32 : Cond.methodLink RX3 32 arraycopyName ∈ Wall := wall_t2 (i := 83) rfl rfl
theorem mlL_18 : Cond.methodLink RL 18 mX9_straws.1 ∈ Wall := wall_t2 (i := 86) rfl rfl
theorem mlX9_94 : Cond.methodLink RX9 94 mX9_isShelf.1 ∈ Wall := wall_t2 (i := 90) rfl rfl
theorem mlX9_146 : Cond.methodLink RX9 146 mX9_isWithin.1 ∈ Wall := wall_t2 (i := 93) rfl rfl
theorem mlX9_101 : Cond.methodLink RX9 101 mX4_hasPlaces.1 ∈ Wall := wall_t2 (i := 96) rfl rfl
theorem mlX9_104 : Cond.methodLink RX9 104 mX9_addStraw.1 ∈ Wall := wall_t2 (i := 100) rfl rfl
theorem mlL_23 : Cond.methodLink RL 23 mX9_mend.1 ∈ Wall := wall_t2 (i := 104) rfl rfl
theorem mlX9_108 : Cond.methodLink RX9 108 mX3_place.1 ∈ Wall := wall_t2 (i := 108) rfl rfl
theorem kkX9_112 : Cond.constant RX9 112 (-2000000000) ∈ Wall := wall_t2 (i := 112) rfl rfl
theorem mlX9_116 : Cond.methodLink RX9 116 mX0_note.1 ∈ Wall := wall_t2 (i := 113) rfl rfl
theorem mlX0_23 : Cond.methodLink RX0 23 mX0_forgetOldest.1 ∈ Wall := wall_t2 (i := 117) rfl rfl
theorem mlX0_29 : Cond.methodLink RX0 29 arraycopyName ∈ Wall := wall_t2 (i := 121) rfl rfl
theorem mlL_27 : Cond.methodLink RL 27 mX9_of.1 ∈ Wall := wall_t2 (i := 122) rfl rfl
theorem mlL_31 : Cond.methodLink RL 31 mX9_feed.1 ∈ Wall := wall_t2 (i := 126) rfl rfl
theorem mlX9_129 : Cond.methodLink RX9 129 mX6_add.1 ∈ Wall := wall_t2 (i := 130) rfl rfl
theorem mlL_36 : Cond.methodLink RL 36 mX9_law.1 ∈ Wall := wall_t2 (i := 134) rfl rfl
theorem mlX9_134 : Cond.methodLink RX9 134 mX6_read.1 ∈ Wall := wall_t2 (i := 138) rfl rfl
theorem mlX6_27 : Cond.methodLink RX6 27 mX7_clear.1 ∈ Wall := wall_t2 (i := 142) rfl rfl
theorem mlX6_30 : Cond.methodLink RX6 30 mX6_readLine.1 ∈ Wall := wall_t2 (i := 146) rfl rfl
theorem mlX6_42 : Cond.methodLink RX6 42 mX6_readJoined.1 ∈ Wall := wall_t2 (i := 150) rfl rfl
theorem mlX6_50 : Cond.methodLink RX6 50 mX6_readOne.1 ∈ Wall := wall_t2 (i := 154) rfl rfl
theorem mlX6_38 : Cond.methodLink RX6 38 mX6_next.1 ∈ Wall := wall_t2 (i := 158) rfl rfl
theorem mlX6_61 : Cond.methodLink RX6 61 mX6_isDigit.1 ∈ Wall := wall_t2 (i := 162) rfl rfl
theorem mlX6_64 : Cond.methodLink RX6 64 mX6_readNumber.1 ∈ Wall := wall_t2 (i := 165) rfl rfl
theorem mlX6_57 : Cond.methodLink RX6 57 mX7_add.1 ∈ Wall := wall_t2 (i := 169) rfl rfl
theorem mlX6_67 : Cond.methodLink RX6 67 mX6_naming.1 ∈ Wall := wall_t2 (i := 173) rfl rfl
theorem mlX6_34 : Cond.methodLink RX6 34 mX6_passes.1 ∈ Wall := wall_t2 (i := 176) rfl rfl
theorem mlX6_53 : Cond.methodLink RX6 53 mX6_joining.1 ∈ Wall := wall_t2 (i := 180) rfl rfl
theorem mlX6_46 : Cond.methodLink RX6 46 mX7_endPart.1 ∈ Wall := wall_t2 (i := 183) rfl rfl
theorem mlL_41 : Cond.methodLink RL 41 mX9_wants.1 ∈ Wall := wall_t2 (i := 187) rfl rfl
theorem mlX9_143 : Cond.methodLink RX9 143 mX9_isStraw.1 ∈ Wall := wall_t2 (i := 191) rfl rfl
theorem mlX9_149 : Cond.methodLink RX9 149 mX2_want.1 ∈ Wall := wall_t2 (i := 195) rfl rfl
theorem mlX2_35 : Cond.methodLink RX2 35 mX2_plain.1 ∈ Wall := wall_t2 (i := 199) rfl rfl
theorem mlX2_65 : Cond.methodLink RX2 65 mX3_ofStraw.1 ∈ Wall := wall_t2 (i := 203) rfl rfl
theorem mlX2_39 : Cond.methodLink RX2 39 mX2_held.1 ∈ Wall := wall_t2 (i := 207) rfl rfl
theorem mlX2_57 : Cond.methodLink RX2 57 Lib.Math.min.name ∈ Wall := wall_t2 (i := 210) rfl rfl
theorem mlX2_62 : Cond.methodLink RX2 62 Lib.Math.max.name ∈ Wall := wall_t2 (i := 213) rfl rfl
theorem mlX2_43 : Cond.methodLink RX2 43 mX2_setNames.1 ∈ Wall := wall_t2 (i := 216) rfl rfl
theorem mlX2_54 : Cond.methodLink RX2 54 mX2_workedOut.1 ∈ Wall := wall_t2 (i := 220) rfl rfl
theorem mlX2_73 : Cond.methodLink RX2 73 mX2_joined.1 ∈ Wall := wall_t2 (i := 224) rfl rfl
theorem mlL_45 : Cond.methodLink RL 45 mX9_glass.1 ∈ Wall := wall_t2 (i := 227) rfl rfl
theorem mlX9_152 : Cond.methodLink RX9 152 mX8_after.1 ∈ Wall := wall_t2 (i := 231) rfl rfl
theorem mlX8_40 : Cond.methodLink RX8 40 mX1_begin.1 ∈ Wall := wall_t2 (i := 235) rfl rfl
theorem mlX8_44 : Cond.methodLink RX8 44 mX1_pass.1 ∈ Wall := wall_t2 (i := 239) rfl rfl
theorem mlX1_60 : Cond.methodLink RX1 60 mX3_isDrawing.1 ∈ Wall := wall_t3 (i := 3) rfl rfl
theorem mlX1_64 : Cond.methodLink RX1 64 mX1_tries.1 ∈ Wall := wall_t3 (i := 7) rfl rfl
theorem mlX1_75 : Cond.methodLink RX1 75 mX3_ofStraw.1 ∈ Wall := wall_t3 (i := 11) rfl rfl
theorem mlX1_79 : Cond.methodLink RX1 79 mX2_want.1 ∈ Wall := wall_t3 (i := 12) rfl rfl
theorem mlX1_85 : Cond.methodLink RX1 85 Lib.Math.min.name ∈ Wall := wall_t3 (i := 13) rfl rfl
theorem mlX1_68 : Cond.methodLink RX1 68 mX1_share.1 ∈ Wall := wall_t3 (i := 14) rfl rfl
theorem mlX1_90 : Cond.methodLink RX1 90 mX3_sweetness.1 ∈ Wall := wall_t3 (i := 18) rfl rfl
theorem mlX3_38 : Cond.methodLink RX3 38 mX3_ofStraw.1 ∈ Wall := wall_t3 (i := 22) rfl rfl
theorem mlX3_42 : Cond.methodLink RX3 42 mX3_ofGlass.1 ∈ Wall := wall_t3 (i := 23) rfl rfl
theorem mlX1_72 : Cond.methodLink RX1 72 mX1_melt.1 ∈ Wall := wall_t3 (i := 27) rfl rfl
theorem mlX1_94 : Cond.methodLink RX1 94 mX3_ofGlass.1 ∈ Wall := wall_t3 (i := 31) rfl rfl
theorem mlX9_156 : Cond.methodLink RX9 156 mX1_tells.1 ∈ Wall := wall_t3 (i := 32) rfl rfl
theorem mlL_49 : Cond.methodLink RL 49 mX9_level.1 ∈ Wall := wall_t3 (i := 36) rfl rfl
theorem mlL_53 : Cond.methodLink RL 53 mX9_empty.1 ∈ Wall := wall_t3 (i := 40) rfl rfl
theorem mlX9_159 : Cond.methodLink RX9 159 mX8_emptyBehind.1 ∈ Wall := wall_t3 (i := 44) rfl rfl
theorem mlX8_61 : Cond.methodLink RX8 61 mX1_isOver.1 ∈ Wall := wall_t3 (i := 48) rfl rfl
theorem mlL_57 : Cond.methodLink RL 57 mX9_more.1 ∈ Wall := wall_t3 (i := 52) rfl rfl
theorem mlX9_162 : Cond.methodLink RX9 162 mX1_mostGot.1 ∈ Wall := wall_t3 (i := 56) rfl rfl
theorem mlX9_168 : Cond.methodLink RX9 168 mX1_leastGot.1 ∈ Wall := wall_t3 (i := 60) rfl rfl
theorem mlL_61 : Cond.methodLink RL 61 mX9_turns.1 ∈ Wall := wall_t3 (i := 64) rfl rfl
theorem mlX9_171 : Cond.methodLink RX9 171 mX8_byTurns.1 ∈ Wall := wall_t3 (i := 68) rfl rfl
theorem mlL_65 : Cond.methodLink RL 65 mX9_mark.1 ∈ Wall := wall_t3 (i := 72) rfl rfl
theorem mlX9_175 : Cond.methodLink RX9 175 mX9_isPair.1 ∈ Wall := wall_t3 (i := 76) rfl rfl
theorem mlX9_178 : Cond.methodLink RX9 178 mX8_leastMark.1 ∈ Wall := wall_t3 (i := 80) rfl rfl
theorem mlX8_71 : Cond.methodLink RX8 71 mX8_gotBehind.1 ∈ Wall := wall_t3 (i := 84) rfl rfl
theorem mlL_69 : Cond.methodLink RL 69 mX9_halves.1 ∈ Wall := wall_t3 (i := 88) rfl rfl
theorem mlX9_181 : Cond.methodLink RX9 181 mX8_halved.1 ∈ Wall := wall_t3 (i := 92) rfl rfl
theorem mlX8_75 : Cond.methodLink RX8 75 Lib.Math.min.name ∈ Wall := wall_t3 (i := 96) rfl rfl
theorem mlX8_80 : Cond.methodLink RX8 80 mX8_gotFromGlass.1 ∈ Wall := wall_t3 (i := 97) rfl rfl
theorem mlX8_83 : Cond.methodLink RX8 83 mX3_ofStraw.1 ∈ Wall := wall_t3 (i := 101) rfl rfl
theorem mlX8_86 : Cond.methodLink RX8 86 Lib.Math.max.name ∈ Wall := wall_t3 (i := 102) rfl rfl
theorem mlL_73 : Cond.methodLink RL 73 mX9_reachFor.1 ∈ Wall := wall_t3 (i := 103) rfl rfl
theorem mlX9_184 : Cond.methodLink RX9 184 Lib.Math.min.name ∈ Wall := wall_t3 (i := 107) rfl rfl
theorem mlX9_189 : Cond.methodLink RX9 189 mX8_bestNumber.1 ∈ Wall := wall_t3 (i := 108) rfl rfl
theorem mlX8_89 : Cond.methodLink RX8 89 mX3_place.1 ∈ Wall := wall_t3 (i := 112) rfl rfl
theorem mlX8_98 : Cond.methodLink RX8 98 mX8_mostAbove.1 ∈ Wall := wall_t3 (i := 113) rfl rfl
theorem mlX8_109 : Cond.methodLink RX8 109 mX3_ofGlass.1 ∈ Wall := wall_t3 (i := 117) rfl rfl
theorem mlX8_102 : Cond.methodLink RX8 102 mX8_drunk.1 ∈ Wall := wall_t3 (i := 118) rfl rfl
theorem mlX8_48 : Cond.methodLink RX8 48 mX3_lowestReach.1 ∈ Wall := wall_t3 (i := 122) rfl rfl
theorem mlX3_45 : Cond.methodLink RX3 45 Lib.Math.min.name ∈ Wall := wall_t3 (i := 126) rfl rfl
theorem mlX8_106 : Cond.methodLink RX8 106 mX1_tells.1 ∈ Wall := wall_t3 (i := 127) rfl rfl
theorem mlL_77 : Cond.methodLink RL 77 mX9_slow.1 ∈ Wall := wall_t3 (i := 128) rfl rfl
theorem mlX9_196 : Cond.methodLink RX9 196 mX3_ofStraw.1 ∈ Wall := wall_t3 (i := 132) rfl rfl
theorem mlL_81 : Cond.methodLink RL 81 mX9_both.1 ∈ Wall := wall_t3 (i := 133) rfl rfl
theorem mlX9_199 : Cond.methodLink RX9 199 mX8_selfish.1 ∈ Wall := wall_t3 (i := 137) rfl rfl
theorem mlX8_113 : Cond.methodLink RX8 113 mX8_setStrengths.1 ∈ Wall := wall_t3 (i := 141) rfl rfl
theorem mlX8_120 : Cond.methodLink RX8 120 mX8_isContent.1 ∈ Wall := wall_t3 (i := 145) rfl rfl
theorem mlX9_203 : Cond.methodLink RX9 203 mX8_together.1 ∈ Wall := wall_t3 (i := 149) rfl rfl
theorem mlL_85 : Cond.methodLink RL 85 mX9_holeFor.1 ∈ Wall := wall_t3 (i := 153) rfl rfl
theorem mlX9_206 : Cond.methodLink RX9 206 mX8_othersGot.1 ∈ Wall := wall_t3 (i := 157) rfl rfl
theorem mlL_89 : Cond.methodLink RL 89 mX9_stopFor.1 ∈ Wall := wall_t3 (i := 161) rfl rfl
theorem mlX9_209 : Cond.methodLink RX9 209 mX8_lastGain.1 ∈ Wall := wall_t3 (i := 165) rfl rfl
theorem mlL_93 : Cond.methodLink RL 93 mX9_judge.1 ∈ Wall := wall_t3 (i := 169) rfl rfl
theorem mlX9_212 : Cond.methodLink RX9 212 mX9_refusedRings.1 ∈ Wall := wall_t3 (i := 173) rfl rfl
theorem mlX9_215 : Cond.methodLink RX9 215 mX8_firstUnlike.1 ∈ Wall := wall_t3 (i := 177) rfl rfl
theorem mlL_97 : Cond.methodLink RL 97 mX9_who.1 ∈ Wall := wall_t3 (i := 181) rfl rfl
theorem mlX9_219 : Cond.methodLink RX9 219 mX8_setsThatFit.1 ∈ Wall := wall_t3 (i := 185) rfl rfl
theorem mlX8_136 : Cond.methodLink RX8 136 mX8_firstUnlike.1 ∈ Wall := wall_t3 (i := 189) rfl rfl
theorem mlX9_223 : Cond.methodLink RX9 223 mX8_leastSet.1 ∈ Wall := wall_t3 (i := 190) rfl rfl
theorem mlL_101 : Cond.methodLink RL 101 mX9_since.1 ∈ Wall := wall_t3 (i := 194) rfl rfl
theorem mlX9_226 : Cond.methodLink RX9 226 mX8_stoppedBehind.1 ∈ Wall := wall_t3 (i := 198) rfl rfl
theorem mlL_105 : Cond.methodLink RL 105 mX9_drawn.1 ∈ Wall := wall_t3 (i := 202) rfl rfl
theorem mlX9_229 : Cond.methodLink RX9 229 mX8_hiccupped.1 ∈ Wall := wall_t3 (i := 206) rfl rfl
theorem kkX8_140 : Cond.constant RX8 140 (1103515245) ∈ Wall := wall_t3 (i := 210) rfl rfl
theorem mlL_109 : Cond.methodLink RL 109 mX9_second.1 ∈ Wall := wall_t3 (i := 211) rfl rfl
theorem mlX9_232 : Cond.methodLink RX9 232 mX1_pass.1 ∈ Wall := wall_t3 (i := 215) rfl rfl
theorem mlL_113 : Cond.methodLink RL 113 mX9_fill.1 ∈ Wall := wall_t3 (i := 216) rfl rfl
theorem mlX9_238 : Cond.methodLink RX9 238 mX1_refill.1 ∈ Wall := wall_t3 (i := 220) rfl rfl
theorem mlL_117 : Cond.methodLink RL 117 mX9_ice.1 ∈ Wall := wall_t3 (i := 224) rfl rfl
theorem mlL_121 : Cond.methodLink RL 121 mX9_led.1 ∈ Wall := wall_t3 (i := 228) rfl rfl
theorem mlL_125 : Cond.methodLink RL 125 mX9_image.1 ∈ Wall := wall_t3 (i := 232) rfl rfl
theorem mlX9_245 : Cond.methodLink RX9 245 mX1_copy.1 ∈ Wall := wall_t3 (i := 236) rfl rfl
theorem mlX1_39 : Cond.methodLink RX1 39 mX1_begin.1 ∈ Wall := wall_t4 (i := 0) rfl rfl
theorem mlL_129 : Cond.methodLink RL 129 mX9_back.1 ∈ Wall := wall_t4 (i := 1) rfl rfl
theorem mlL_133 : Cond.methodLink RL 133 mX9_undo.1 ∈ Wall := wall_t4 (i := 5) rfl rfl
theorem mlX9_249 : Cond.methodLink RX9 249 mX0_takeBack.1 ∈ Wall := wall_t4 (i := 9) rfl rfl
theorem mlL_137 : Cond.methodLink RL 137 mX9_redo.1 ∈ Wall := wall_t4 (i := 13) rfl rfl
theorem mlX9_256 : Cond.methodLink RX9 256 mX0_doAgain.1 ∈ Wall := wall_t4 (i := 17) rfl rfl
theorem mlL_141 : Cond.methodLink RL 141 mX9_body.1 ∈ Wall := wall_t4 (i := 21) rfl rfl
theorem mlX9_262 : Cond.methodLink RX9 262 mX5_add.1 ∈ Wall := wall_t4 (i := 25) rfl rfl
theorem mlL_145 : Cond.methodLink RL 145 mX9_act.1 ∈ Wall := wall_t4 (i := 29) rfl rfl
theorem mlX9_264 : Cond.methodLink RX9 264 mX5_begin.1 ∈ Wall := wall_t4 (i := 33) rfl rfl
theorem mlX5_22 : Cond.methodLink RX5 22 mX5_has.1 ∈ Wall := wall_t4 (i := 37) rfl rfl
theorem mlX5_32 : Cond.methodLink RX5 32 mX5_run.1 ∈ Wall := wall_t4 (i := 41) rfl rfl
theorem mlX5_36 : Cond.methodLink RX5 36 mX5_ownerOf.1 ∈ Wall := wall_t4 (i := 45) rfl rfl
theorem gsX5_40 : Cond.fieldLink RX5 40 (sCn 4) (sNm 4) "[I" ∈ Wall := wall_t4 (i := 48) rfl rfl
theorem gsX5_26 : Cond.fieldLink RX5 26 (sCn 3) (sNm 3) "[I" ∈ Wall := wall_t4 (i := 50) rfl rfl
theorem mlX5_43 : Cond.methodLink RX5 43 mX5_note.1 ∈ Wall := wall_t4 (i := 52) rfl rfl
theorem mlL_149 : Cond.methodLink RL 149 mX9_trace.1 ∈ Wall := wall_t4 (i := 56) rfl rfl
theorem mlX9_267 : Cond.methodLink RX9 267 mX5_traced.1 ∈ Wall := wall_t4 (i := 60) rfl rfl
theorem mlL_153 : Cond.methodLink RL 153 mX9_keep.1 ∈ Wall := wall_t4 (i := 64) rfl rfl
theorem mlX9_270 : Cond.methodLink RX9 270 mX5_has.1 ∈ Wall := wall_t4 (i := 68) rfl rfl
theorem mlX9_273 : Cond.methodLink RX9 273 mX4_clear.1 ∈ Wall := wall_t4 (i := 69) rfl rfl
theorem mlX9_276 : Cond.methodLink RX9 276 mX4_holdSip.1 ∈ Wall := wall_t4 (i := 73) rfl rfl
theorem mlL_157 : Cond.methodLink RL 157 mX9_row.1 ∈ Wall := wall_t4 (i := 77) rfl rfl
theorem mlX9_279 : Cond.methodLink RX9 279 mX4_holdRow.1 ∈ Wall := wall_t4 (i := 81) rfl rfl
theorem mlL_163 : Cond.methodLink RL 163 mX9_put.1 ∈ Wall := wall_t4 (i := 85) rfl rfl
theorem mlX9_283 : Cond.methodLink RX9 283 mX9_refusedElement.1 ∈ Wall := wall_t4 (i := 89) rfl rfl
theorem mlX9_290 : Cond.methodLink RX9 290 mX4_cut.1 ∈ Wall := wall_t4 (i := 93) rfl rfl
theorem mlL_168 : Cond.methodLink RL 168 mX9_element.1 ∈ Wall := wall_t4 (i := 96) rfl rfl
theorem kkX9_296 : Cond.constantLong RX9 296 (-9223372036854775808) ∈ Wall := wall_t4 (i := 100) rfl rfl
theorem mlL_173 : Cond.methodLink RL 173 mX9_shift.1 ∈ Wall := wall_t4 (i := 101) rfl rfl
theorem mlX9_298 : Cond.methodLink RX9 298 arraycopyName ∈ Wall := wall_t4 (i := 105) rfl rfl
theorem mlL_178 : Cond.methodLink RL 178 mX9_taken.1 ∈ Wall := wall_t4 (i := 106) rfl rfl
theorem mlX9_307 : Cond.methodLink RX9 307 mX5_kindOf.1 ∈ Wall := wall_t4 (i := 110) rfl rfl
theorem mlX9_310 : Cond.methodLink RX9 310 mX5_isUnder.1 ∈ Wall := wall_t4 (i := 114) rfl rfl
theorem mlL_182 : Cond.methodLink RL 182 mX9_count.1 ∈ Wall := wall_t4 (i := 117) rfl rfl
theorem klL_10 : Cond.classLink RL 10 (nmOf 10) ∈ Wall := wall_t4 (i := 121) rfl rfl
theorem nw10 : Cond.instantiable (nmOf 10) (nfOf 10) ∈ Wall := wall_t4 (i := 122) rfl rfl
theorem mlL_12 : Cond.methodLink RL 12 mX10_init.1 ∈ Wall := wall_t4 (i := 123) rfl rfl
theorem mlX10_3 : Cond.methodLink RX10 3 objectInit ∈ Wall := wall_t4 (i := 126) rfl rfl
theorem flX10_9 : Lf RX10 9 10 0 := ⟨by decide, by decide, wall_t4 (i := 127) rfl rfl⟩
theorem flX10_13 : Lf RX10 13 10 1 := ⟨by decide, by decide, wall_t4 (i := 128) rfl rfl⟩
theorem flX10_16 : Lf RX10 16 10 2 := ⟨by decide, by decide, wall_t4 (i := 129) rfl rfl⟩
theorem flX10_19 : Lf RX10 19 10 3 := ⟨by decide, by decide, wall_t4 (i := 130) rfl rfl⟩
theorem flX10_99 : Lf RX10 99 10 4 := ⟨by decide, by decide, wall_t4 (i := 131) rfl rfl⟩
theorem flX10_96 : Lf RX10 96 10 5 := ⟨by decide, by decide, wall_t4 (i := 132) rfl rfl⟩
theorem flX10_102 : Lf RX10 102 10 6 := ⟨by decide, by decide, wall_t4 (i := 133) rfl rfl⟩
theorem flX10_93 : Lf RX10 93 10 7 := ⟨by decide, by decide, wall_t4 (i := 134) rfl rfl⟩
theorem flX10_157 : Lf RX10 157 10 8 := ⟨by decide, by decide, wall_t4 (i := 135) rfl rfl⟩
theorem flX10_160 : Lf RX10 160 10 9 := ⟨by decide, by decide, wall_t4 (i := 136) rfl rfl⟩
theorem flX10_22 : Lf RX10 22 10 10 := ⟨by decide, by decide, wall_t4 (i := 137) rfl rfl⟩
theorem flX10_25 : Lf RX10 25 10 11 := ⟨by decide, by decide, wall_t4 (i := 138) rfl rfl⟩
theorem flX10_165 : Lf RX10 165 10 12 := ⟨by decide, by decide, wall_t4 (i := 139) rfl rfl⟩
theorem flX10_28 : Lf RX10 28 10 13 := ⟨by decide, by decide, wall_t4 (i := 140) rfl rfl⟩
theorem flX10_89 : Lf RX10 89 10 14 := ⟨by decide, by decide, wall_t4 (i := 141) rfl rfl⟩
theorem flX10_174 : Lf RX10 174 10 15 := ⟨by decide, by decide, wall_t4 (i := 142) rfl rfl⟩
theorem flX10_168 : Lf RX10 168 10 16 := ⟨by decide, by decide, wall_t4 (i := 143) rfl rfl⟩
theorem flX10_171 : Lf RX10 171 10 17 := ⟨by decide, by decide, wall_t4 (i := 144) rfl rfl⟩
theorem flX10_177 : Lf RX10 177 10 18 := ⟨by decide, by decide, wall_t4 (i := 145) rfl rfl⟩
theorem flX10_202 : Lf RX10 202 10 19 := ⟨by decide, by decide, wall_t4 (i := 146) rfl rfl⟩
theorem flX10_31 : Lf RX10 31 10 20 := ⟨by decide, by decide, wall_t4 (i := 147) rfl rfl⟩
theorem flX10_225 : Lf RX10 225 10 21 := ⟨by decide, by decide, wall_t4 (i := 148) rfl rfl⟩
theorem flX10_228 : Lf RX10 228 10 22 := ⟨by decide, by decide, wall_t4 (i := 149) rfl rfl⟩
theorem flX10_231 : Lf RX10 231 10 23 := ⟨by decide, by decide, wall_t4 (i := 150) rfl rfl⟩
theorem flX10_34 : Lf RX10 34 10 24 := ⟨by decide, by decide, wall_t4 (i := 151) rfl rfl⟩
theorem flX10_37 : Lf RX10 37 10 25 := ⟨by decide, by decide, wall_t4 (i := 152) rfl rfl⟩
theorem flX10_40 : Lf RX10 40 10 26 := ⟨by decide, by decide, wall_t4 (i := 153) rfl rfl⟩
theorem flX10_43 : Lf RX10 43 10 27 := ⟨by decide, by decide, wall_t4 (i := 154) rfl rfl⟩
theorem flX10_234 : Lf RX10 234 10 28 := ⟨by decide, by decide, wall_t4 (i := 155) rfl rfl⟩
theorem flX10_237 : Lf RX10 237 10 29 := ⟨by decide, by decide, wall_t4 (i := 156) rfl rfl⟩
theorem flX10_241 : Lf RX10 241 10 30 := ⟨by decide, by decide, wall_t4 (i := 157) rfl rfl⟩
theorem flX10_46 : Lf RX10 46 10 31 := ⟨by decide, by decide, wall_t4 (i := 158) rfl rfl⟩
theorem flX10_49 : Lf RX10 49 10 32 := ⟨by decide, by decide, wall_t4 (i := 159) rfl rfl⟩
theorem flX10_52 : Lf RX10 52 10 33 := ⟨by decide, by decide, wall_t4 (i := 160) rfl rfl⟩
theorem flX10_55 : Lf RX10 55 10 34 := ⟨by decide, by decide, wall_t4 (i := 161) rfl rfl⟩
theorem flX10_58 : Lf RX10 58 10 35 := ⟨by decide, by decide, wall_t4 (i := 162) rfl rfl⟩
theorem flX10_61 : Lf RX10 61 10 36 := ⟨by decide, by decide, wall_t4 (i := 163) rfl rfl⟩
theorem flX10_64 : Lf RX10 64 10 37 := ⟨by decide, by decide, wall_t4 (i := 164) rfl rfl⟩
theorem flX10_301 : Lf RX10 301 10 38 := ⟨by decide, by decide, wall_t4 (i := 165) rfl rfl⟩
theorem flX10_304 : Lf RX10 304 10 39 := ⟨by decide, by decide, wall_t4 (i := 166) rfl rfl⟩
theorem flX10_307 : Lf RX10 307 10 40 := ⟨by decide, by decide, wall_t4 (i := 167) rfl rfl⟩
theorem flX10_310 : Lf RX10 310 10 41 := ⟨by decide, by decide, wall_t4 (i := 168) rfl rfl⟩
theorem flX10_67 : Lf RX10 67 10 42 := ⟨by decide, by decide, wall_t4 (i := 169) rfl rfl⟩
theorem flX10_313 : Lf RX10 313 10 43 := ⟨by decide, by decide, wall_t4 (i := 170) rfl rfl⟩
theorem flX10_70 : Lf RX10 70 10 44 := ⟨by decide, by decide, wall_t4 (i := 171) rfl rfl⟩
theorem flX10_73 : Lf RX10 73 10 45 := ⟨by decide, by decide, wall_t4 (i := 172) rfl rfl⟩
theorem flX10_316 : Lf RX10 316 10 46 := ⟨by decide, by decide, wall_t4 (i := 173) rfl rfl⟩
theorem flX10_331 : Lf RX10 331 10 47 := ⟨by decide, by decide, wall_t4 (i := 174) rfl rfl⟩
theorem flX10_325 : Lf RX10 325 10 48 := ⟨by decide, by decide, wall_t4 (i := 175) rfl rfl⟩
theorem flX10_76 : Lf RX10 76 10 49 := ⟨by decide, by decide, wall_t4 (i := 176) rfl rfl⟩
theorem flX10_79 : Lf RX10 79 10 50 := ⟨by decide, by decide, wall_t4 (i := 177) rfl rfl⟩
theorem flX10_82 : Lf RX10 82 10 51 := ⟨by decide, by decide, wall_t4 (i := 178) rfl rfl⟩
theorem flX10_86 : Lf RX10 86 10 52 := ⟨by decide, by decide, wall_t4 (i := 179) rfl rfl⟩
theorem mlL_136 : Cond.methodLink RL 136 mX10_undo.1 ∈ Wall := wall_t5 (i := 47) rfl rfl
theorem mlL_140 : Cond.methodLink RL 140 mX10_redo.1 ∈ Wall := wall_t5 (i := 51) rfl rfl
theorem mlL_17 : Cond.methodLink RL 17 mX10_straw.1 ∈ Wall := wall_t5 (i := 55) rfl rfl
theorem kkX10_115 : Cond.constantLong RX10 115 (3) ∈ Wall := wall_t5 (i := 59) rfl rfl
theorem mlX10_117 : Cond.methodLink RX10 117 mX10_isOne.1 ∈ Wall := wall_t5 (i := 60) rfl rfl
theorem kkX10_109 : Cond.constantLong RX10 109 (20) ∈ Wall := wall_t5 (i := 63) rfl rfl
theorem mlX10_105 : Cond.methodLink RX10 105 mX10_within.1 ∈ Wall := wall_t5 (i := 64) rfl rfl
theorem kkX10_111 : Cond.constantLong RX10 111 (9) ∈ Wall := wall_t5 (i := 67) rfl rfl
theorem kkX10_113 : Cond.constantLong RX10 113 (999) ∈ Wall := wall_t5 (i := 68) rfl rfl
theorem mlX10_120 : Cond.methodLink RX10 120 mX10_adds.1 ∈ Wall := wall_t5 (i := 69) rfl rfl
theorem mlL_22 : Cond.methodLink RL 22 mX10_straws.1 ∈ Wall := wall_t5 (i := 73) rfl rfl
theorem mlX10_124 : Cond.methodLink RX10 124 mX10_isShelf.1 ∈ Wall := wall_t5 (i := 77) rfl rfl
theorem kkX10_343 : Cond.constantLong RX10 343 (5) ∈ Wall := wall_t5 (i := 80) rfl rfl
theorem mlL_26 : Cond.methodLink RL 26 mX10_mend.1 ∈ Wall := wall_t5 (i := 81) rfl rfl
theorem mlX10_145 : Cond.methodLink RX10 145 mX10_placeOf.1 ∈ Wall := wall_t5 (i := 85) rfl rfl
theorem kkX10_128 : Cond.constantLong RX10 128 (7) ∈ Wall := wall_t5 (i := 89) rfl rfl
theorem mlX10_130 : Cond.methodLink RX10 130 mX10_isStraw.1 ∈ Wall := wall_t5 (i := 90) rfl rfl
theorem kkX10_133 : Cond.constantLong RX10 133 (8) ∈ Wall := wall_t5 (i := 94) rfl rfl
theorem kkX10_135 : Cond.constantLong RX10 135 (11) ∈ Wall := wall_t5 (i := 95) rfl rfl
theorem mlX10_149 : Cond.methodLink RX10 149 mX10_mayBecome.1 ∈ Wall := wall_t5 (i := 96) rfl rfl
theorem kkX10_137 : Cond.constantLong RX10 137 (99) ∈ Wall := wall_t5 (i := 99) rfl rfl
theorem kkX10_139 : Cond.constantLong RX10 139 (60) ∈ Wall := wall_t5 (i := 100) rfl rfl
theorem kkX10_141 : Cond.constantLong RX10 141 (-1) ∈ Wall := wall_t5 (i := 101) rfl rfl
theorem kkX10_143 : Cond.constantLong RX10 143 (12) ∈ Wall := wall_t5 (i := 102) rfl rfl
theorem mlX10_153 : Cond.methodLink RX10 153 mX10_becomes.1 ∈ Wall := wall_t5 (i := 103) rfl rfl
theorem kkX10_156 : Cond.constant RX10 156 (-2000000000) ∈ Wall := wall_t5 (i := 107) rfl rfl
theorem mlL_30 : Cond.methodLink RL 30 mX10_of.1 ∈ Wall := wall_t5 (i := 108) rfl rfl
theorem mlL_35 : Cond.methodLink RL 35 mX10_feed.1 ∈ Wall := wall_t5 (i := 112) rfl rfl
theorem kkX10_163 : Cond.constantLong RX10 163 (255) ∈ Wall := wall_t5 (i := 116) rfl rfl
theorem mlL_40 : Cond.methodLink RL 40 mX10_law.1 ∈ Wall := wall_t5 (i := 117) rfl rfl
theorem mlX10_215 : Cond.methodLink RX10 215 mX10_workOut.1 ∈ Wall := wall_t5 (i := 121) rfl rfl
theorem mlX10_208 : Cond.methodLink RX10 208 mX10_either.1 ∈ Wall := wall_t5 (i := 125) rfl rfl
theorem mlX10_184 : Cond.methodLink RX10 184 mX10_bothOf.1 ∈ Wall := wall_t5 (i := 129) rfl rfl
theorem mlX10_190 : Cond.methodLink RX10 190 mX10_compared.1 ∈ Wall := wall_t5 (i := 133) rfl rfl
theorem mlX10_193 : Cond.methodLink RX10 193 mX10_sums.1 ∈ Wall := wall_t5 (i := 137) rfl rfl
theorem mlX10_196 : Cond.methodLink RX10 196 mX10_product.1 ∈ Wall := wall_t5 (i := 141) rfl rfl
theorem mlX10_199 : Cond.methodLink RX10 199 mX10_one.1 ∈ Wall := wall_t5 (i := 145) rfl rfl
theorem mlX10_180 : Cond.methodLink RX10 180 mX10_byteAt.1 ∈ Wall := wall_t5 (i := 149) rfl rfl
theorem mlX10_205 : Cond.methodLink RX10 205 mX10_wrong.1 ∈ Wall := wall_t5 (i := 153) rfl rfl
theorem mlX10_187 : Cond.methodLink RX10 187 mX10_takes.1 ∈ Wall := wall_t5 (i := 157) rfl rfl
theorem mlX10_211 : Cond.methodLink RX10 211 mX10_nameOf.1 ∈ Wall := wall_t5 (i := 161) rfl rfl
theorem mlL_44 : Cond.methodLink RL 44 mX10_wants.1 ∈ Wall := wall_t5 (i := 164) rfl rfl
theorem mlX10_221 : Cond.methodLink RX10 221 mX10_wantsAt.1 ∈ Wall := wall_t5 (i := 168) rfl rfl
theorem mlX10_218 : Cond.methodLink RX10 218 mX10_ofStraw.1 ∈ Wall := wall_t5 (i := 172) rfl rfl
theorem mlL_48 : Cond.methodLink RL 48 mX10_glass.1 ∈ Wall := wall_t5 (i := 176) rfl rfl
theorem kkX10_256 : Cond.constantLong RX10 256 (2) ∈ Wall := wall_t5 (i := 180) rfl rfl
theorem mlX10_258 : Cond.methodLink RX10 258 mX10_begins1.1 ∈ Wall := wall_t5 (i := 181) rfl rfl
theorem mlX10_261 : Cond.methodLink RX10 261 mX10_goes.1 ∈ Wall := wall_t5 (i := 185) rfl rfl
theorem mlX10_253 : Cond.methodLink RX10 253 mX10_secondGoes.1 ∈ Wall := wall_t5 (i := 189) rfl rfl
theorem mlX10_250 : Cond.methodLink RX10 250 mX10_wantsNow.1 ∈ Wall := wall_t5 (i := 193) rfl rfl
theorem mlX10_247 : Cond.methodLink RX10 247 mX10_draws.1 ∈ Wall := wall_t5 (i := 197) rfl rfl
theorem mlX10_244 : Cond.methodLink RX10 244 mX10_isIn.1 ∈ Wall := wall_t5 (i := 201) rfl rfl
theorem mlX10_265 : Cond.methodLink RX10 265 mX10_sweetOf.1 ∈ Wall := wall_t5 (i := 204) rfl rfl
theorem mlL_52 : Cond.methodLink RL 52 mX10_level.1 ∈ Wall := wall_t5 (i := 208) rfl rfl
theorem mlL_56 : Cond.methodLink RL 56 mX10_empty.1 ∈ Wall := wall_t5 (i := 212) rfl rfl
theorem mlX10_268 : Cond.methodLink RX10 268 mX10_isEmpty.1 ∈ Wall := wall_t5 (i := 216) rfl rfl
theorem mlL_60 : Cond.methodLink RL 60 mX10_more.1 ∈ Wall := wall_t5 (i := 220) rfl rfl
theorem mlL_64 : Cond.methodLink RL 64 mX10_turns.1 ∈ Wall := wall_t5 (i := 224) rfl rfl
theorem mlL_68 : Cond.methodLink RL 68 mX10_mark.1 ∈ Wall := wall_t5 (i := 228) rfl rfl
theorem mlX10_272 : Cond.methodLink RX10 272 mX10_areTwo.1 ∈ Wall := wall_t5 (i := 232) rfl rfl
theorem mlL_72 : Cond.methodLink RL 72 mX10_halves.1 ∈ Wall := wall_t5 (i := 236) rfl rfl
theorem mlX10_275 : Cond.methodLink RX10 275 mX10_alone.1 ∈ Wall := wall_t6 (i := 0) rfl rfl
theorem mlL_76 : Cond.methodLink RL 76 mX10_reachFor.1 ∈ Wall := wall_t6 (i := 4) rfl rfl
theorem mlX10_278 : Cond.methodLink RX10 278 mX10_isSoon.1 ∈ Wall := wall_t6 (i := 8) rfl rfl
theorem mlX10_281 : Cond.methodLink RX10 281 mX10_gets.1 ∈ Wall := wall_t6 (i := 11) rfl rfl
theorem mlL_80 : Cond.methodLink RL 80 mX10_slow.1 ∈ Wall := wall_t6 (i := 15) rfl rfl
theorem mlL_84 : Cond.methodLink RL 84 mX10_both.1 ∈ Wall := wall_t6 (i := 19) rfl rfl
theorem mlX10_284 : Cond.methodLink RX10 284 mX10_isSelf.1 ∈ Wall := wall_t6 (i := 23) rfl rfl
theorem mlL_88 : Cond.methodLink RL 88 mX10_holeFor.1 ∈ Wall := wall_t6 (i := 27) rfl rfl
theorem mlX10_288 : Cond.methodLink RX10 288 mX10_othersGet.1 ∈ Wall := wall_t6 (i := 31) rfl rfl
theorem mlL_92 : Cond.methodLink RL 92 mX10_stopFor.1 ∈ Wall := wall_t6 (i := 35) rfl rfl
theorem mlX10_291 : Cond.methodLink RX10 291 mX10_getsStopping.1 ∈ Wall := wall_t6 (i := 39) rfl rfl
theorem mlL_96 : Cond.methodLink RL 96 mX10_judge.1 ∈ Wall := wall_t6 (i := 43) rfl rfl
theorem mlX10_294 : Cond.methodLink RX10 294 mX10_shortsAre.1 ∈ Wall := wall_t6 (i := 47) rfl rfl
theorem mlX10_297 : Cond.methodLink RX10 297 mX10_firstFalse.1 ∈ Wall := wall_t6 (i := 51) rfl rfl
theorem mlL_100 : Cond.methodLink RL 100 mX10_who.1 ∈ Wall := wall_t6 (i := 55) rfl rfl
theorem mlL_104 : Cond.methodLink RL 104 mX10_since.1 ∈ Wall := wall_t6 (i := 59) rfl rfl
theorem mlL_108 : Cond.methodLink RL 108 mX10_drawn.1 ∈ Wall := wall_t6 (i := 63) rfl rfl
theorem kkX10_300 : Cond.constant RX10 300 (1103515245) ∈ Wall := wall_t6 (i := 67) rfl rfl
theorem mlL_112 : Cond.methodLink RL 112 mX10_second.1 ∈ Wall := wall_t6 (i := 68) rfl rfl
theorem mlL_116 : Cond.methodLink RL 116 mX10_fill.1 ∈ Wall := wall_t6 (i := 72) rfl rfl
theorem mlL_120 : Cond.methodLink RL 120 mX10_ice.1 ∈ Wall := wall_t6 (i := 76) rfl rfl
theorem mlL_124 : Cond.methodLink RL 124 mX10_led.1 ∈ Wall := wall_t6 (i := 80) rfl rfl
theorem mlL_128 : Cond.methodLink RL 128 mX10_image.1 ∈ Wall := wall_t6 (i := 84) rfl rfl
theorem mlL_132 : Cond.methodLink RL 132 mX10_back.1 ∈ Wall := wall_t6 (i := 88) rfl rfl
theorem mlL_144 : Cond.methodLink RL 144 mX10_body.1 ∈ Wall := wall_t6 (i := 92) rfl rfl
theorem mlL_148 : Cond.methodLink RL 148 mX10_act.1 ∈ Wall := wall_t6 (i := 96) rfl rfl
theorem mlX10_340 : Cond.methodLink RX10 340 mX10_isBody.1 ∈ Wall := wall_t6 (i := 100) rfl rfl
theorem mlX10_322 : Cond.methodLink RX10 322 mX10_drawsAs.1 ∈ Wall := wall_t6 (i := 104) rfl rfl
theorem mlX10_319 : Cond.methodLink RX10 319 mX10_begins.1 ∈ Wall := wall_t6 (i := 108) rfl rfl
theorem mlX10_328 : Cond.methodLink RX10 328 mX10_getsAs.1 ∈ Wall := wall_t6 (i := 112) rfl rfl
theorem mlX10_334 : Cond.methodLink RX10 334 mX10_restsAs.1 ∈ Wall := wall_t6 (i := 116) rfl rfl
theorem mlX10_337 : Cond.methodLink RX10 337 mX10_tellsAs.1 ∈ Wall := wall_t6 (i := 120) rfl rfl
theorem mlL_152 : Cond.methodLink RL 152 mX10_trace.1 ∈ Wall := wall_t6 (i := 124) rfl rfl
theorem mlL_156 : Cond.methodLink RL 156 mX10_keep.1 ∈ Wall := wall_t6 (i := 128) rfl rfl
theorem mlL_160 : Cond.methodLink RL 160 mX10_row.1 ∈ Wall := wall_t6 (i := 132) rfl rfl
theorem kkX10_345 : Cond.constantLong RX10 345 (4) ∈ Wall := wall_t6 (i := 136) rfl rfl
theorem mlL_167 : Cond.methodLink RL 167 mX10_put.1 ∈ Wall := wall_t6 (i := 137) rfl rfl
theorem mlX10_347 : Cond.methodLink RX10 347 mX10_refusal.1 ∈ Wall := wall_t6 (i := 141) rfl rfl
theorem mlX10_350 : Cond.methodLink RX10 350 mX10_asSort.1 ∈ Wall := wall_t6 (i := 145) rfl rfl
theorem mlL_172 : Cond.methodLink RL 172 mX10_element.1 ∈ Wall := wall_t6 (i := 148) rfl rfl
theorem kkX10_356 : Cond.constantLong RX10 356 (-9223372036854775808) ∈ Wall := wall_t6 (i := 152) rfl rfl
theorem mlL_177 : Cond.methodLink RL 177 mX10_shift.1 ∈ Wall := wall_t6 (i := 153) rfl rfl
theorem mlL_181 : Cond.methodLink RL 181 mX10_taken.1 ∈ Wall := wall_t6 (i := 157) rfl rfl
theorem mlX10_358 : Cond.methodLink RX10 358 mX10_kindOf.1 ∈ Wall := wall_t6 (i := 161) rfl rfl
theorem mlX10_361 : Cond.methodLink RX10 361 mX10_above.1 ∈ Wall := wall_t6 (i := 165) rfl rfl
theorem mlL_185 : Cond.methodLink RL 185 mX10_count.1 ∈ Wall := wall_t6 (i := 168) rfl rfl
theorem kkL_161 : Cond.constantLong RL 161 (4294967295) ∈ Wall := wall_t6 (i := 172) rfl rfl
