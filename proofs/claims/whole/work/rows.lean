section
-- ===== PART A: goes FIRST, ahead of the names: the tables' words, and 'selects' of the private methods out of them =====
/-- a private method of a class that the tables say can be made, by its rows of tables_1 -/
def lw_okq (q : MethodName × Nat) : Prop := (q.1.cls ≠ "java/lang/invoke/MethodHandle" ∧ q.1.cls ≠ "java/lang/invoke/VarHandle") ∧ Cond.instantiable q.1.cls q.2 ∈ tables_1 ∧ Cond.privateMethod q.1 ∈ tables_1 ∧ Cond.instanceMethod q.1 ∈ tables_1
theorem lw_p0 : lw_okq (⟨"TwoStraws", "addStraw", "(LTwoStraws$Shelf;I)Z"⟩, 10) := ⟨⟨by decide +kernel, by decide +kernel⟩, List.mem_of_getElem? (i := 15) (by decide +kernel), List.mem_of_getElem? (i := 341) (by decide +kernel), List.mem_of_getElem? (i := 342) (by decide +kernel)⟩
theorem lw_p1 : lw_okq (⟨"TwoStraws$Changes", "forgetOldest", "()V"⟩, 5) := ⟨⟨by decide +kernel, by decide +kernel⟩, List.mem_of_getElem? (i := 205) (by decide +kernel), List.mem_of_getElem? (i := 358) (by decide +kernel), List.mem_of_getElem? (i := 359) (by decide +kernel)⟩
theorem lw_p2 : lw_okq (⟨"TwoStraws$Tape", "readLine", "()Z"⟩, 4) := ⟨⟨by decide +kernel, by decide +kernel⟩, List.mem_of_getElem? (i := 47) (by decide +kernel), List.mem_of_getElem? (i := 387) (by decide +kernel), List.mem_of_getElem? (i := 388) (by decide +kernel)⟩
theorem lw_p3 : lw_okq (⟨"TwoStraws$Tape", "readJoined", "(II)Z"⟩, 4) := ⟨⟨by decide +kernel, by decide +kernel⟩, List.mem_of_getElem? (i := 47) (by decide +kernel), List.mem_of_getElem? (i := 391) (by decide +kernel), List.mem_of_getElem? (i := 392) (by decide +kernel)⟩
theorem lw_p4 : lw_okq (⟨"TwoStraws$Tape", "readOne", "(I)Z"⟩, 4) := ⟨⟨by decide +kernel, by decide +kernel⟩, List.mem_of_getElem? (i := 47) (by decide +kernel), List.mem_of_getElem? (i := 395) (by decide +kernel), List.mem_of_getElem? (i := 396) (by decide +kernel)⟩
theorem lw_p5 : lw_okq (⟨"TwoStraws$Tape", "next", "()I"⟩, 4) := ⟨⟨by decide +kernel, by decide +kernel⟩, List.mem_of_getElem? (i := 47) (by decide +kernel), List.mem_of_getElem? (i := 399) (by decide +kernel), List.mem_of_getElem? (i := 400) (by decide +kernel)⟩
theorem lw_p6 : lw_okq (⟨"TwoStraws$Tape", "readNumber", "()V"⟩, 4) := ⟨⟨by decide +kernel, by decide +kernel⟩, List.mem_of_getElem? (i := 47) (by decide +kernel), List.mem_of_getElem? (i := 406) (by decide +kernel), List.mem_of_getElem? (i := 407) (by decide +kernel)⟩
theorem lw_p7 : lw_okq (⟨"TwoStraws$Tape", "passes", "(I)Z"⟩, 4) := ⟨⟨by decide +kernel, by decide +kernel⟩, List.mem_of_getElem? (i := 47) (by decide +kernel), List.mem_of_getElem? (i := 417) (by decide +kernel), List.mem_of_getElem? (i := 418) (by decide +kernel)⟩
theorem lw_p8 : lw_okq (⟨"TwoStraws", "isStraw", "(I)Z"⟩, 10) := ⟨⟨by decide +kernel, by decide +kernel⟩, List.mem_of_getElem? (i := 15) (by decide +kernel), List.mem_of_getElem? (i := 432) (by decide +kernel), List.mem_of_getElem? (i := 433) (by decide +kernel)⟩
theorem lw_p9 : lw_okq (⟨"TwoStraws$Law", "plain", "(II)I"⟩, 4) := ⟨⟨by decide +kernel, by decide +kernel⟩, List.mem_of_getElem? (i := 95) (by decide +kernel), List.mem_of_getElem? (i := 440) (by decide +kernel), List.mem_of_getElem? (i := 441) (by decide +kernel)⟩
theorem lw_p10 : lw_okq (⟨"TwoStraws$Law", "setNames", "(III)V"⟩, 4) := ⟨⟨by decide +kernel, by decide +kernel⟩, List.mem_of_getElem? (i := 95) (by decide +kernel), List.mem_of_getElem? (i := 457) (by decide +kernel), List.mem_of_getElem? (i := 458) (by decide +kernel)⟩
theorem lw_p11 : lw_okq (⟨"TwoStraws$Law", "workedOut", "(II)I"⟩, 4) := ⟨⟨by decide +kernel, by decide +kernel⟩, List.mem_of_getElem? (i := 95) (by decide +kernel), List.mem_of_getElem? (i := 461) (by decide +kernel), List.mem_of_getElem? (i := 462) (by decide +kernel)⟩
theorem lw_p12 : lw_okq (⟨"TwoStraws$Glass", "tries", "(IZ)I"⟩, 12) := ⟨⟨by decide +kernel, by decide +kernel⟩, List.mem_of_getElem? (i := 117) (by decide +kernel), List.mem_of_getElem? (i := 488) (by decide +kernel), List.mem_of_getElem? (i := 489) (by decide +kernel)⟩
theorem lw_p13 : lw_okq (⟨"TwoStraws$Glass", "share", "(I)V"⟩, 12) := ⟨⟨by decide +kernel, by decide +kernel⟩, List.mem_of_getElem? (i := 117) (by decide +kernel), List.mem_of_getElem? (i := 495) (by decide +kernel), List.mem_of_getElem? (i := 496) (by decide +kernel)⟩
theorem lw_p14 : lw_okq (⟨"TwoStraws$Glass", "melt", "()V"⟩, 12) := ⟨⟨by decide +kernel, by decide +kernel⟩, List.mem_of_getElem? (i := 117) (by decide +kernel), List.mem_of_getElem? (i := 508) (by decide +kernel), List.mem_of_getElem? (i := 509) (by decide +kernel)⟩
theorem lw_p15 : lw_okq (⟨"TwoStraws", "isPair", "(I)Z"⟩, 10) := ⟨⟨by decide +kernel, by decide +kernel⟩, List.mem_of_getElem? (i := 15) (by decide +kernel), List.mem_of_getElem? (i := 557) (by decide +kernel), List.mem_of_getElem? (i := 558) (by decide +kernel)⟩
def lw_privs_1 : List (MethodName × Nat) := [(⟨"TwoStraws", "addStraw", "(LTwoStraws$Shelf;I)Z"⟩, 10), (⟨"TwoStraws$Changes", "forgetOldest", "()V"⟩, 5), (⟨"TwoStraws$Tape", "readLine", "()Z"⟩, 4), (⟨"TwoStraws$Tape", "readJoined", "(II)Z"⟩, 4), (⟨"TwoStraws$Tape", "readOne", "(I)Z"⟩, 4), (⟨"TwoStraws$Tape", "next", "()I"⟩, 4), (⟨"TwoStraws$Tape", "readNumber", "()V"⟩, 4), (⟨"TwoStraws$Tape", "passes", "(I)Z"⟩, 4), (⟨"TwoStraws", "isStraw", "(I)Z"⟩, 10), (⟨"TwoStraws$Law", "plain", "(II)I"⟩, 4), (⟨"TwoStraws$Law", "setNames", "(III)V"⟩, 4), (⟨"TwoStraws$Law", "workedOut", "(II)I"⟩, 4), (⟨"TwoStraws$Glass", "tries", "(IZ)I"⟩, 12), (⟨"TwoStraws$Glass", "share", "(I)V"⟩, 12), (⟨"TwoStraws$Glass", "melt", "()V"⟩, 12), (⟨"TwoStraws", "isPair", "(I)Z"⟩, 10)]
theorem lw_r1 : ∀ q ∈ lw_privs_1, lw_okq q := List.forall_mem_cons.mpr ⟨lw_p0, List.forall_mem_cons.mpr ⟨lw_p1, List.forall_mem_cons.mpr ⟨lw_p2, List.forall_mem_cons.mpr ⟨lw_p3, List.forall_mem_cons.mpr ⟨lw_p4, List.forall_mem_cons.mpr ⟨lw_p5, List.forall_mem_cons.mpr ⟨lw_p6, List.forall_mem_cons.mpr ⟨lw_p7, List.forall_mem_cons.mpr ⟨lw_p8, List.forall_mem_cons.mpr ⟨lw_p9, List.forall_mem_cons.mpr ⟨lw_p10, List.forall_mem_cons.mpr ⟨lw_p11, List.forall_mem_cons.mpr ⟨lw_p12, List.forall_mem_cons.mpr ⟨lw_p13, List.forall_mem_cons.mpr ⟨lw_p14, List.forall_mem_cons.mpr ⟨lw_p15, fun _ h => absurd h List.not_mem_nil⟩⟩⟩⟩⟩⟩⟩⟩⟩⟩⟩⟩⟩⟩⟩⟩
theorem lw_p16 : lw_okq (⟨"TwoStraws$Thoughts", "gotBehind", "(II)I"⟩, 8) := ⟨⟨by decide +kernel, by decide +kernel⟩, List.mem_of_getElem? (i := 171) (by decide +kernel), List.mem_of_getElem? (i := 565) (by decide +kernel), List.mem_of_getElem? (i := 566) (by decide +kernel)⟩
theorem lw_p17 : lw_okq (⟨"TwoStraws$Thoughts", "gotFromGlass", "(II)I"⟩, 8) := ⟨⟨by decide +kernel, by decide +kernel⟩, List.mem_of_getElem? (i := 171) (by decide +kernel), List.mem_of_getElem? (i := 578) (by decide +kernel), List.mem_of_getElem? (i := 579) (by decide +kernel)⟩
theorem lw_p18 : lw_okq (⟨"TwoStraws$Thoughts", "mostAbove", "(IZ)I"⟩, 8) := ⟨⟨by decide +kernel, by decide +kernel⟩, List.mem_of_getElem? (i := 171) (by decide +kernel), List.mem_of_getElem? (i := 594) (by decide +kernel), List.mem_of_getElem? (i := 595) (by decide +kernel)⟩
theorem lw_p19 : lw_okq (⟨"TwoStraws$Thoughts", "drunk", "(I)LTwoStraws$Glass;"⟩, 8) := ⟨⟨by decide +kernel, by decide +kernel⟩, List.mem_of_getElem? (i := 171) (by decide +kernel), List.mem_of_getElem? (i := 599) (by decide +kernel), List.mem_of_getElem? (i := 600) (by decide +kernel)⟩
theorem lw_p20 : lw_okq (⟨"TwoStraws$Thoughts", "setStrengths", "(II)V"⟩, 8) := ⟨⟨by decide +kernel, by decide +kernel⟩, List.mem_of_getElem? (i := 171) (by decide +kernel), List.mem_of_getElem? (i := 622) (by decide +kernel), List.mem_of_getElem? (i := 623) (by decide +kernel)⟩
theorem lw_p21 : lw_okq (⟨"TwoStraws$Thoughts", "isContent", "(IIII)Z"⟩, 8) := ⟨⟨by decide +kernel, by decide +kernel⟩, List.mem_of_getElem? (i := 171) (by decide +kernel), List.mem_of_getElem? (i := 626) (by decide +kernel), List.mem_of_getElem? (i := 627) (by decide +kernel)⟩
theorem lw_p22 : lw_okq (⟨"TwoStraws", "refusedRings", "(I)I"⟩, 10) := ⟨⟨by decide +kernel, by decide +kernel⟩, List.mem_of_getElem? (i := 15) (by decide +kernel), List.mem_of_getElem? (i := 654) (by decide +kernel), List.mem_of_getElem? (i := 655) (by decide +kernel)⟩
theorem lw_p23 : lw_okq (⟨"TwoStraws$Sips", "run", "(IIIII)I"⟩, 4) := ⟨⟨by decide +kernel, by decide +kernel⟩, List.mem_of_getElem? (i := 229) (by decide +kernel), List.mem_of_getElem? (i := 762) (by decide +kernel), List.mem_of_getElem? (i := 763) (by decide +kernel)⟩
theorem lw_p24 : lw_okq (⟨"TwoStraws$Sips", "note", "(I)V"⟩, 4) := ⟨⟨by decide +kernel, by decide +kernel⟩, List.mem_of_getElem? (i := 229) (by decide +kernel), List.mem_of_getElem? (i := 773) (by decide +kernel), List.mem_of_getElem? (i := 774) (by decide +kernel)⟩
theorem lw_p25 : lw_okq (⟨"TwoStraws", "refusedElement", "(II)I"⟩, 10) := ⟨⟨by decide +kernel, by decide +kernel⟩, List.mem_of_getElem? (i := 15) (by decide +kernel), List.mem_of_getElem? (i := 810) (by decide +kernel), List.mem_of_getElem? (i := 811) (by decide +kernel)⟩
theorem lw_p26 : lw_okq (⟨"TwoStrawsModel", "adds", "(III)V"⟩, 53) := ⟨⟨by decide +kernel, by decide +kernel⟩, List.mem_of_getElem? (i := 842) (by decide +kernel), List.mem_of_getElem? (i := 1030) (by decide +kernel), List.mem_of_getElem? (i := 1031) (by decide +kernel)⟩
theorem lw_p27 : lw_okq (⟨"TwoStrawsModel", "placeOf", "(II)I"⟩, 53) := ⟨⟨by decide +kernel, by decide +kernel⟩, List.mem_of_getElem? (i := 842) (by decide +kernel), List.mem_of_getElem? (i := 1046) (by decide +kernel), List.mem_of_getElem? (i := 1047) (by decide +kernel)⟩
theorem lw_p28 : lw_okq (⟨"TwoStrawsModel", "isStraw", "(I)Z"⟩, 53) := ⟨⟨by decide +kernel, by decide +kernel⟩, List.mem_of_getElem? (i := 842) (by decide +kernel), List.mem_of_getElem? (i := 1051) (by decide +kernel), List.mem_of_getElem? (i := 1052) (by decide +kernel)⟩
theorem lw_p29 : lw_okq (⟨"TwoStrawsModel", "becomes", "(II)I"⟩, 53) := ⟨⟨by decide +kernel, by decide +kernel⟩, List.mem_of_getElem? (i := 842) (by decide +kernel), List.mem_of_getElem? (i := 1064) (by decide +kernel), List.mem_of_getElem? (i := 1065) (by decide +kernel)⟩
theorem lw_p30 : lw_okq (⟨"TwoStrawsModel", "workOut", "(II)I"⟩, 53) := ⟨⟨by decide +kernel, by decide +kernel⟩, List.mem_of_getElem? (i := 842) (by decide +kernel), List.mem_of_getElem? (i := 1082) (by decide +kernel), List.mem_of_getElem? (i := 1083) (by decide +kernel)⟩
theorem lw_p31 : lw_okq (⟨"TwoStrawsModel", "either", "()I"⟩, 53) := ⟨⟨by decide +kernel, by decide +kernel⟩, List.mem_of_getElem? (i := 842) (by decide +kernel), List.mem_of_getElem? (i := 1086) (by decide +kernel), List.mem_of_getElem? (i := 1087) (by decide +kernel)⟩
def lw_privs_2 : List (MethodName × Nat) := [(⟨"TwoStraws$Thoughts", "gotBehind", "(II)I"⟩, 8), (⟨"TwoStraws$Thoughts", "gotFromGlass", "(II)I"⟩, 8), (⟨"TwoStraws$Thoughts", "mostAbove", "(IZ)I"⟩, 8), (⟨"TwoStraws$Thoughts", "drunk", "(I)LTwoStraws$Glass;"⟩, 8), (⟨"TwoStraws$Thoughts", "setStrengths", "(II)V"⟩, 8), (⟨"TwoStraws$Thoughts", "isContent", "(IIII)Z"⟩, 8), (⟨"TwoStraws", "refusedRings", "(I)I"⟩, 10), (⟨"TwoStraws$Sips", "run", "(IIIII)I"⟩, 4), (⟨"TwoStraws$Sips", "note", "(I)V"⟩, 4), (⟨"TwoStraws", "refusedElement", "(II)I"⟩, 10), (⟨"TwoStrawsModel", "adds", "(III)V"⟩, 53), (⟨"TwoStrawsModel", "placeOf", "(II)I"⟩, 53), (⟨"TwoStrawsModel", "isStraw", "(I)Z"⟩, 53), (⟨"TwoStrawsModel", "becomes", "(II)I"⟩, 53), (⟨"TwoStrawsModel", "workOut", "(II)I"⟩, 53), (⟨"TwoStrawsModel", "either", "()I"⟩, 53)]
theorem lw_r2 : ∀ q ∈ lw_privs_2, lw_okq q := List.forall_mem_cons.mpr ⟨lw_p16, List.forall_mem_cons.mpr ⟨lw_p17, List.forall_mem_cons.mpr ⟨lw_p18, List.forall_mem_cons.mpr ⟨lw_p19, List.forall_mem_cons.mpr ⟨lw_p20, List.forall_mem_cons.mpr ⟨lw_p21, List.forall_mem_cons.mpr ⟨lw_p22, List.forall_mem_cons.mpr ⟨lw_p23, List.forall_mem_cons.mpr ⟨lw_p24, List.forall_mem_cons.mpr ⟨lw_p25, List.forall_mem_cons.mpr ⟨lw_p26, List.forall_mem_cons.mpr ⟨lw_p27, List.forall_mem_cons.mpr ⟨lw_p28, List.forall_mem_cons.mpr ⟨lw_p29, List.forall_mem_cons.mpr ⟨lw_p30, List.forall_mem_cons.mpr ⟨lw_p31, fun _ h => absurd h List.not_mem_nil⟩⟩⟩⟩⟩⟩⟩⟩⟩⟩⟩⟩⟩⟩⟩⟩
theorem lw_p32 : lw_okq (⟨"TwoStrawsModel", "bothOf", "()I"⟩, 53) := ⟨⟨by decide +kernel, by decide +kernel⟩, List.mem_of_getElem? (i := 842) (by decide +kernel), List.mem_of_getElem? (i := 1090) (by decide +kernel), List.mem_of_getElem? (i := 1091) (by decide +kernel)⟩
theorem lw_p33 : lw_okq (⟨"TwoStrawsModel", "compared", "()I"⟩, 53) := ⟨⟨by decide +kernel, by decide +kernel⟩, List.mem_of_getElem? (i := 842) (by decide +kernel), List.mem_of_getElem? (i := 1094) (by decide +kernel), List.mem_of_getElem? (i := 1095) (by decide +kernel)⟩
theorem lw_p34 : lw_okq (⟨"TwoStrawsModel", "sums", "()I"⟩, 53) := ⟨⟨by decide +kernel, by decide +kernel⟩, List.mem_of_getElem? (i := 842) (by decide +kernel), List.mem_of_getElem? (i := 1098) (by decide +kernel), List.mem_of_getElem? (i := 1099) (by decide +kernel)⟩
theorem lw_p35 : lw_okq (⟨"TwoStrawsModel", "product", "()I"⟩, 53) := ⟨⟨by decide +kernel, by decide +kernel⟩, List.mem_of_getElem? (i := 842) (by decide +kernel), List.mem_of_getElem? (i := 1102) (by decide +kernel), List.mem_of_getElem? (i := 1103) (by decide +kernel)⟩
theorem lw_p36 : lw_okq (⟨"TwoStrawsModel", "one", "()I"⟩, 53) := ⟨⟨by decide +kernel, by decide +kernel⟩, List.mem_of_getElem? (i := 842) (by decide +kernel), List.mem_of_getElem? (i := 1106) (by decide +kernel), List.mem_of_getElem? (i := 1107) (by decide +kernel)⟩
theorem lw_p37 : lw_okq (⟨"TwoStrawsModel", "byteAt", "()I"⟩, 53) := ⟨⟨by decide +kernel, by decide +kernel⟩, List.mem_of_getElem? (i := 842) (by decide +kernel), List.mem_of_getElem? (i := 1110) (by decide +kernel), List.mem_of_getElem? (i := 1111) (by decide +kernel)⟩
theorem lw_p38 : lw_okq (⟨"TwoStrawsModel", "wrong", "()I"⟩, 53) := ⟨⟨by decide +kernel, by decide +kernel⟩, List.mem_of_getElem? (i := 842) (by decide +kernel), List.mem_of_getElem? (i := 1114) (by decide +kernel), List.mem_of_getElem? (i := 1115) (by decide +kernel)⟩
theorem lw_p39 : lw_okq (⟨"TwoStrawsModel", "takes", "(I)Z"⟩, 53) := ⟨⟨by decide +kernel, by decide +kernel⟩, List.mem_of_getElem? (i := 842) (by decide +kernel), List.mem_of_getElem? (i := 1118) (by decide +kernel), List.mem_of_getElem? (i := 1119) (by decide +kernel)⟩
theorem lw_p40 : lw_okq (⟨"TwoStrawsModel", "wantsAt", "(III)I"⟩, 53) := ⟨⟨by decide +kernel, by decide +kernel⟩, List.mem_of_getElem? (i := 842) (by decide +kernel), List.mem_of_getElem? (i := 1129) (by decide +kernel), List.mem_of_getElem? (i := 1130) (by decide +kernel)⟩
theorem lw_p41 : lw_okq (⟨"TwoStrawsModel", "ofStraw", "(II)I"⟩, 53) := ⟨⟨by decide +kernel, by decide +kernel⟩, List.mem_of_getElem? (i := 842) (by decide +kernel), List.mem_of_getElem? (i := 1133) (by decide +kernel), List.mem_of_getElem? (i := 1134) (by decide +kernel)⟩
theorem lw_p42 : lw_okq (⟨"TwoStrawsModel", "begins1", "()V"⟩, 53) := ⟨⟨by decide +kernel, by decide +kernel⟩, List.mem_of_getElem? (i := 842) (by decide +kernel), List.mem_of_getElem? (i := 1142) (by decide +kernel), List.mem_of_getElem? (i := 1143) (by decide +kernel)⟩
theorem lw_p43 : lw_okq (⟨"TwoStrawsModel", "goes", "(I)V"⟩, 53) := ⟨⟨by decide +kernel, by decide +kernel⟩, List.mem_of_getElem? (i := 842) (by decide +kernel), List.mem_of_getElem? (i := 1146) (by decide +kernel), List.mem_of_getElem? (i := 1147) (by decide +kernel)⟩
theorem lw_p44 : lw_okq (⟨"TwoStrawsModel", "secondGoes", "()V"⟩, 53) := ⟨⟨by decide +kernel, by decide +kernel⟩, List.mem_of_getElem? (i := 842) (by decide +kernel), List.mem_of_getElem? (i := 1150) (by decide +kernel), List.mem_of_getElem? (i := 1151) (by decide +kernel)⟩
theorem lw_p45 : lw_okq (⟨"TwoStrawsModel", "wantsNow", "(I)I"⟩, 53) := ⟨⟨by decide +kernel, by decide +kernel⟩, List.mem_of_getElem? (i := 842) (by decide +kernel), List.mem_of_getElem? (i := 1154) (by decide +kernel), List.mem_of_getElem? (i := 1155) (by decide +kernel)⟩
theorem lw_p46 : lw_okq (⟨"TwoStrawsModel", "draws", "(I)Z"⟩, 53) := ⟨⟨by decide +kernel, by decide +kernel⟩, List.mem_of_getElem? (i := 842) (by decide +kernel), List.mem_of_getElem? (i := 1158) (by decide +kernel), List.mem_of_getElem? (i := 1159) (by decide +kernel)⟩
theorem lw_p47 : lw_okq (⟨"TwoStrawsModel", "sweetOf", "(II)I"⟩, 53) := ⟨⟨by decide +kernel, by decide +kernel⟩, List.mem_of_getElem? (i := 842) (by decide +kernel), List.mem_of_getElem? (i := 1165) (by decide +kernel), List.mem_of_getElem? (i := 1166) (by decide +kernel)⟩
def lw_privs_3 : List (MethodName × Nat) := [(⟨"TwoStrawsModel", "bothOf", "()I"⟩, 53), (⟨"TwoStrawsModel", "compared", "()I"⟩, 53), (⟨"TwoStrawsModel", "sums", "()I"⟩, 53), (⟨"TwoStrawsModel", "product", "()I"⟩, 53), (⟨"TwoStrawsModel", "one", "()I"⟩, 53), (⟨"TwoStrawsModel", "byteAt", "()I"⟩, 53), (⟨"TwoStrawsModel", "wrong", "()I"⟩, 53), (⟨"TwoStrawsModel", "takes", "(I)Z"⟩, 53), (⟨"TwoStrawsModel", "wantsAt", "(III)I"⟩, 53), (⟨"TwoStrawsModel", "ofStraw", "(II)I"⟩, 53), (⟨"TwoStrawsModel", "begins1", "()V"⟩, 53), (⟨"TwoStrawsModel", "goes", "(I)V"⟩, 53), (⟨"TwoStrawsModel", "secondGoes", "()V"⟩, 53), (⟨"TwoStrawsModel", "wantsNow", "(I)I"⟩, 53), (⟨"TwoStrawsModel", "draws", "(I)Z"⟩, 53), (⟨"TwoStrawsModel", "sweetOf", "(II)I"⟩, 53)]
theorem lw_r3 : ∀ q ∈ lw_privs_3, lw_okq q := List.forall_mem_cons.mpr ⟨lw_p32, List.forall_mem_cons.mpr ⟨lw_p33, List.forall_mem_cons.mpr ⟨lw_p34, List.forall_mem_cons.mpr ⟨lw_p35, List.forall_mem_cons.mpr ⟨lw_p36, List.forall_mem_cons.mpr ⟨lw_p37, List.forall_mem_cons.mpr ⟨lw_p38, List.forall_mem_cons.mpr ⟨lw_p39, List.forall_mem_cons.mpr ⟨lw_p40, List.forall_mem_cons.mpr ⟨lw_p41, List.forall_mem_cons.mpr ⟨lw_p42, List.forall_mem_cons.mpr ⟨lw_p43, List.forall_mem_cons.mpr ⟨lw_p44, List.forall_mem_cons.mpr ⟨lw_p45, List.forall_mem_cons.mpr ⟨lw_p46, List.forall_mem_cons.mpr ⟨lw_p47, fun _ h => absurd h List.not_mem_nil⟩⟩⟩⟩⟩⟩⟩⟩⟩⟩⟩⟩⟩⟩⟩⟩
theorem lw_p48 : lw_okq (⟨"TwoStrawsModel", "isEmpty", "()Z"⟩, 53) := ⟨⟨by decide +kernel, by decide +kernel⟩, List.mem_of_getElem? (i := 842) (by decide +kernel), List.mem_of_getElem? (i := 1177) (by decide +kernel), List.mem_of_getElem? (i := 1178) (by decide +kernel)⟩
theorem lw_p49 : lw_okq (⟨"TwoStrawsModel", "areTwo", "(I)Z"⟩, 53) := ⟨⟨by decide +kernel, by decide +kernel⟩, List.mem_of_getElem? (i := 842) (by decide +kernel), List.mem_of_getElem? (i := 1193) (by decide +kernel), List.mem_of_getElem? (i := 1194) (by decide +kernel)⟩
theorem lw_p50 : lw_okq (⟨"TwoStrawsModel", "alone", "(II)I"⟩, 53) := ⟨⟨by decide +kernel, by decide +kernel⟩, List.mem_of_getElem? (i := 842) (by decide +kernel), List.mem_of_getElem? (i := 1201) (by decide +kernel), List.mem_of_getElem? (i := 1202) (by decide +kernel)⟩
theorem lw_p51 : lw_okq (⟨"TwoStrawsModel", "gets", "(II)I"⟩, 53) := ⟨⟨by decide +kernel, by decide +kernel⟩, List.mem_of_getElem? (i := 842) (by decide +kernel), List.mem_of_getElem? (i := 1212) (by decide +kernel), List.mem_of_getElem? (i := 1213) (by decide +kernel)⟩
theorem lw_p52 : lw_okq (⟨"TwoStrawsModel", "isSelf", "(IIII)Z"⟩, 53) := ⟨⟨by decide +kernel, by decide +kernel⟩, List.mem_of_getElem? (i := 842) (by decide +kernel), List.mem_of_getElem? (i := 1224) (by decide +kernel), List.mem_of_getElem? (i := 1225) (by decide +kernel)⟩
theorem lw_p53 : lw_okq (⟨"TwoStrawsModel", "othersGet", "(III)I"⟩, 53) := ⟨⟨by decide +kernel, by decide +kernel⟩, List.mem_of_getElem? (i := 842) (by decide +kernel), List.mem_of_getElem? (i := 1232) (by decide +kernel), List.mem_of_getElem? (i := 1233) (by decide +kernel)⟩
theorem lw_p54 : lw_okq (⟨"TwoStrawsModel", "getsStopping", "(II)I"⟩, 53) := ⟨⟨by decide +kernel, by decide +kernel⟩, List.mem_of_getElem? (i := 842) (by decide +kernel), List.mem_of_getElem? (i := 1240) (by decide +kernel), List.mem_of_getElem? (i := 1241) (by decide +kernel)⟩
theorem lw_p55 : lw_okq (⟨"TwoStrawsModel", "shortsAre", "(I)I"⟩, 53) := ⟨⟨by decide +kernel, by decide +kernel⟩, List.mem_of_getElem? (i := 842) (by decide +kernel), List.mem_of_getElem? (i := 1248) (by decide +kernel), List.mem_of_getElem? (i := 1249) (by decide +kernel)⟩
theorem lw_p56 : lw_okq (⟨"TwoStrawsModel", "firstFalse", "(I)I"⟩, 53) := ⟨⟨by decide +kernel, by decide +kernel⟩, List.mem_of_getElem? (i := 842) (by decide +kernel), List.mem_of_getElem? (i := 1252) (by decide +kernel), List.mem_of_getElem? (i := 1253) (by decide +kernel)⟩
theorem lw_p57 : lw_okq (⟨"TwoStrawsModel", "isBody", "(I)Z"⟩, 53) := ⟨⟨by decide +kernel, by decide +kernel⟩, List.mem_of_getElem? (i := 842) (by decide +kernel), List.mem_of_getElem? (i := 1301) (by decide +kernel), List.mem_of_getElem? (i := 1302) (by decide +kernel)⟩
theorem lw_p58 : lw_okq (⟨"TwoStrawsModel", "drawsAs", "(II)I"⟩, 53) := ⟨⟨by decide +kernel, by decide +kernel⟩, List.mem_of_getElem? (i := 842) (by decide +kernel), List.mem_of_getElem? (i := 1305) (by decide +kernel), List.mem_of_getElem? (i := 1306) (by decide +kernel)⟩
theorem lw_p59 : lw_okq (⟨"TwoStrawsModel", "begins", "(I)V"⟩, 53) := ⟨⟨by decide +kernel, by decide +kernel⟩, List.mem_of_getElem? (i := 842) (by decide +kernel), List.mem_of_getElem? (i := 1309) (by decide +kernel), List.mem_of_getElem? (i := 1310) (by decide +kernel)⟩
theorem lw_p60 : lw_okq (⟨"TwoStrawsModel", "getsAs", "(II)I"⟩, 53) := ⟨⟨by decide +kernel, by decide +kernel⟩, List.mem_of_getElem? (i := 842) (by decide +kernel), List.mem_of_getElem? (i := 1313) (by decide +kernel), List.mem_of_getElem? (i := 1314) (by decide +kernel)⟩
theorem lw_p61 : lw_okq (⟨"TwoStrawsModel", "restsAs", "(II)I"⟩, 53) := ⟨⟨by decide +kernel, by decide +kernel⟩, List.mem_of_getElem? (i := 842) (by decide +kernel), List.mem_of_getElem? (i := 1317) (by decide +kernel), List.mem_of_getElem? (i := 1318) (by decide +kernel)⟩
theorem lw_p62 : lw_okq (⟨"TwoStrawsModel", "tellsAs", "(II)I"⟩, 53) := ⟨⟨by decide +kernel, by decide +kernel⟩, List.mem_of_getElem? (i := 842) (by decide +kernel), List.mem_of_getElem? (i := 1321) (by decide +kernel), List.mem_of_getElem? (i := 1322) (by decide +kernel)⟩
theorem lw_p63 : lw_okq (⟨"TwoStrawsModel", "refusal", "(II)I"⟩, 53) := ⟨⟨by decide +kernel, by decide +kernel⟩, List.mem_of_getElem? (i := 842) (by decide +kernel), List.mem_of_getElem? (i := 1342) (by decide +kernel), List.mem_of_getElem? (i := 1343) (by decide +kernel)⟩
def lw_privs_4 : List (MethodName × Nat) := [(⟨"TwoStrawsModel", "isEmpty", "()Z"⟩, 53), (⟨"TwoStrawsModel", "areTwo", "(I)Z"⟩, 53), (⟨"TwoStrawsModel", "alone", "(II)I"⟩, 53), (⟨"TwoStrawsModel", "gets", "(II)I"⟩, 53), (⟨"TwoStrawsModel", "isSelf", "(IIII)Z"⟩, 53), (⟨"TwoStrawsModel", "othersGet", "(III)I"⟩, 53), (⟨"TwoStrawsModel", "getsStopping", "(II)I"⟩, 53), (⟨"TwoStrawsModel", "shortsAre", "(I)I"⟩, 53), (⟨"TwoStrawsModel", "firstFalse", "(I)I"⟩, 53), (⟨"TwoStrawsModel", "isBody", "(I)Z"⟩, 53), (⟨"TwoStrawsModel", "drawsAs", "(II)I"⟩, 53), (⟨"TwoStrawsModel", "begins", "(I)V"⟩, 53), (⟨"TwoStrawsModel", "getsAs", "(II)I"⟩, 53), (⟨"TwoStrawsModel", "restsAs", "(II)I"⟩, 53), (⟨"TwoStrawsModel", "tellsAs", "(II)I"⟩, 53), (⟨"TwoStrawsModel", "refusal", "(II)I"⟩, 53)]
theorem lw_r4 : ∀ q ∈ lw_privs_4, lw_okq q := List.forall_mem_cons.mpr ⟨lw_p48, List.forall_mem_cons.mpr ⟨lw_p49, List.forall_mem_cons.mpr ⟨lw_p50, List.forall_mem_cons.mpr ⟨lw_p51, List.forall_mem_cons.mpr ⟨lw_p52, List.forall_mem_cons.mpr ⟨lw_p53, List.forall_mem_cons.mpr ⟨lw_p54, List.forall_mem_cons.mpr ⟨lw_p55, List.forall_mem_cons.mpr ⟨lw_p56, List.forall_mem_cons.mpr ⟨lw_p57, List.forall_mem_cons.mpr ⟨lw_p58, List.forall_mem_cons.mpr ⟨lw_p59, List.forall_mem_cons.mpr ⟨lw_p60, List.forall_mem_cons.mpr ⟨lw_p61, List.forall_mem_cons.mpr ⟨lw_p62, List.forall_mem_cons.mpr ⟨lw_p63, fun _ h => absurd h List.not_mem_nil⟩⟩⟩⟩⟩⟩⟩⟩⟩⟩⟩⟩⟩⟩⟩⟩
theorem lw_p64 : lw_okq (⟨"TwoStrawsModel", "kindOf", "(I)I"⟩, 53) := ⟨⟨by decide +kernel, by decide +kernel⟩, List.mem_of_getElem? (i := 842) (by decide +kernel), List.mem_of_getElem? (i := 1362) (by decide +kernel), List.mem_of_getElem? (i := 1363) (by decide +kernel)⟩
def lw_privs_5 : List (MethodName × Nat) := [(⟨"TwoStrawsModel", "kindOf", "(I)I"⟩, 53)]
theorem lw_r5 : ∀ q ∈ lw_privs_5, lw_okq q := List.forall_mem_cons.mpr ⟨lw_p64, fun _ h => absurd h List.not_mem_nil⟩
def lw_privs : List (MethodName × Nat) := lw_privs_1 ++ (lw_privs_2 ++ (lw_privs_3 ++ (lw_privs_4 ++ (lw_privs_5))))
def lw_tbl : List Cond := k2_sels lw_privs ++ tables_1
theorem lw_privs_ok : ∀ q ∈ lw_privs, lw_okq q := by
  show ∀ q ∈ lw_privs_1 ++ (lw_privs_2 ++ (lw_privs_3 ++ (lw_privs_4 ++ (lw_privs_5)))), lw_okq q
  exact List.forall_mem_append.mpr ⟨lw_r1, List.forall_mem_append.mpr ⟨lw_r2, List.forall_mem_append.mpr ⟨lw_r3, List.forall_mem_append.mpr ⟨lw_r4, lw_r5⟩⟩⟩⟩
-- ===== end of PART A
def RX0 : String := "TwoStraws$Changes"
def TX0 : u_T := fun k => match k with
  | 0 => ("TwoStraws$Changes", "made", "I", false)
  | 1 => ("TwoStraws$Changes", "done", "I", false)
  | 2 => ("TwoStraws$Changes", "places", "[I", true)
  | 3 => ("TwoStraws$Changes", "before", "[I", true)
  | _ => ("TwoStraws$Changes", "behind", "[I", true)
def tyX0 : Nat → FieldType := fun k => match k with
  | 0 => .int
  | 1 => .int
  | 2 => .array .int
  | 3 => .array .int
  | _ => .array .int
abbrev wsX00 : List Cond := u_ws RX0 TX0 5
theorem nmX0 : ∀ a, a < 5 → ∀ b, b < 5 → a ≠ b → (TX0 a).2.1 ≠ (TX0 b).2.1 := by decide +kernel
theorem tyX0_ok : ∀ k, k < 5 → parseFieldDescriptor (TX0 k).2.2.1 = some (tyX0 k) := by decide +kernel
abbrev cX0_init : ByteArray := prog_2_method_1_code
def yX0_init : MethodName := ⟨RX0, "<init>", "()V"⟩
abbrev cX0_note : ByteArray := prog_2_method_2_code
def yX0_note : MethodName := ⟨RX0, "note", "(III)V"⟩
abbrev cX0_forgetOldest : ByteArray := prog_2_method_3_code
def yX0_forgetOldest : MethodName := ⟨RX0, "forgetOldest", "()V"⟩
abbrev cX0_takeBack : ByteArray := prog_2_method_4_code
def yX0_takeBack : MethodName := ⟨RX0, "takeBack", "([I)Z"⟩
abbrev cX0_doAgain : ByteArray := prog_2_method_5_code
def yX0_doAgain : MethodName := ⟨RX0, "doAgain", "([I)Z"⟩
def RX1 : String := "TwoStraws$Glass"
def TX1 : u_T := fun k => match k with
  | 0 => ("TwoStraws$Glass", "level", "I", false)
  | 1 => ("TwoStraws$Glass", "ice", "I", false)
  | 2 => ("TwoStraws$Glass", "s", "I", false)
  | 3 => ("TwoStraws$Glass", "seconds", "I", false)
  | 4 => ("TwoStraws$Glass", "fills", "I", false)
  | 5 => ("TwoStraws$Glass", "tried", "[I", true)
  | 6 => ("TwoStraws$Glass", "got", "[I", true)
  | 7 => ("TwoStraws$Glass", "sweet", "[I", true)
  | 8 => ("TwoStraws$Glass", "noises", "[I", true)
  | 9 => ("TwoStraws$Glass", "wanted", "[I", true)
  | 10 => ("TwoStraws$Glass", "numbers", "LTwoStraws$Numbers;", true)
  | _ => ("TwoStraws$Glass", "law", "LTwoStraws$Law;", true)
def tyX1 : Nat → FieldType := fun k => match k with
  | 0 => .int
  | 1 => .int
  | 2 => .int
  | 3 => .int
  | 4 => .int
  | 5 => .array .int
  | 6 => .array .int
  | 7 => .array .int
  | 8 => .array .int
  | 9 => .array .int
  | 10 => .object "TwoStraws$Numbers"
  | _ => .object "TwoStraws$Law"
abbrev wsX10 : List Cond := u_ws RX1 TX1 12
theorem nmX1 : ∀ a, a < 12 → ∀ b, b < 12 → a ≠ b → (TX1 a).2.1 ≠ (TX1 b).2.1 := by decide +kernel
theorem tyX1_ok : ∀ k, k < 12 → parseFieldDescriptor (TX1 k).2.2.1 = some (tyX1 k) := by decide +kernel
abbrev cX1_init : ByteArray := prog_3_method_1_code
def yX1_init : MethodName := ⟨RX1, "<init>", "(LTwoStraws$Numbers;LTwoStraws$Law;)V"⟩
abbrev cX1_copy : ByteArray := prog_3_method_2_code
def yX1_copy : MethodName := ⟨RX1, "copy", "(LTwoStraws$Glass;)V"⟩
abbrev cX1_begin : ByteArray := prog_3_method_3_code
def yX1_begin : MethodName := ⟨RX1, "begin", "(LTwoStraws$Glass;)V"⟩
abbrev cX1_refill : ByteArray := prog_3_method_4_code
def yX1_refill : MethodName := ⟨RX1, "refill", "(I)V"⟩
abbrev cX1_tells : ByteArray := prog_3_method_5_code
def yX1_tells : MethodName := ⟨RX1, "tells", "(II)I"⟩
abbrev cX1_pass : ByteArray := prog_3_method_6_code
def yX1_pass : MethodName := ⟨RX1, "pass", "(III)V"⟩
abbrev cX1_tries : ByteArray := prog_3_method_7_code
def yX1_tries : MethodName := ⟨RX1, "tries", "(IZ)I"⟩
abbrev cX1_share : ByteArray := prog_3_method_8_code
def yX1_share : MethodName := ⟨RX1, "share", "(I)V"⟩
abbrev cX1_melt : ByteArray := prog_3_method_9_code
def yX1_melt : MethodName := ⟨RX1, "melt", "()V"⟩
abbrev cX1_isOver : ByteArray := prog_3_method_10_code
def yX1_isOver : MethodName := ⟨RX1, "isOver", "()Z"⟩
abbrev cX1_mostGot : ByteArray := prog_3_method_11_code
def yX1_mostGot : MethodName := ⟨RX1, "mostGot", "()I"⟩
abbrev cX1_leastGot : ByteArray := prog_3_method_12_code
def yX1_leastGot : MethodName := ⟨RX1, "leastGot", "()I"⟩
def RX2 : String := "TwoStraws$Law"
def TX2 : u_T := fun k => match k with
  | 0 => ("TwoStraws$Law", "text", "LTwoStraws$Text;", false)
  | 1 => ("TwoStraws$Law", "numbers", "LTwoStraws$Numbers;", true)
  | 2 => ("TwoStraws$Law", "names", "[I", true)
  | _ => ("TwoStraws$Law", "stack", "[I", true)
def tyX2 : Nat → FieldType := fun k => match k with
  | 0 => .object "TwoStraws$Text"
  | 1 => .object "TwoStraws$Numbers"
  | 2 => .array .int
  | _ => .array .int
abbrev wsX20 : List Cond := u_ws RX2 TX2 4
theorem nmX2 : ∀ a, a < 4 → ∀ b, b < 4 → a ≠ b → (TX2 a).2.1 ≠ (TX2 b).2.1 := by decide +kernel
theorem tyX2_ok : ∀ k, k < 4 → parseFieldDescriptor (TX2 k).2.2.1 = some (tyX2 k) := by decide +kernel
abbrev cX2_init : ByteArray := prog_4_method_1_code
def yX2_init : MethodName := ⟨RX2, "<init>", "(LTwoStraws$Numbers;)V"⟩
abbrev cX2_want : ByteArray := prog_4_method_2_code
def yX2_want : MethodName := ⟨RX2, "want", "(III)I"⟩
abbrev cX2_held : ByteArray := prog_4_method_3_code
def yX2_held : MethodName := ⟨RX2, "held", "(I)I"⟩
abbrev cX2_plain : ByteArray := prog_4_method_4_code
def yX2_plain : MethodName := ⟨RX2, "plain", "(II)I"⟩
abbrev cX2_setNames : ByteArray := prog_4_method_5_code
def yX2_setNames : MethodName := ⟨RX2, "setNames", "(III)V"⟩
abbrev cX2_workedOut : ByteArray := prog_4_method_6_code
def yX2_workedOut : MethodName := ⟨RX2, "workedOut", "(II)I"⟩
abbrev cX2_joined : ByteArray := prog_4_method_7_code
def yX2_joined : MethodName := ⟨RX2, "joined", "(III)I"⟩
def RX3 : String := "TwoStraws$Numbers"
def TX3 : u_T := fun k => match k with
  | 0 => ("TwoStraws$Numbers", "told", "[I", true)
  | _ => ("TwoStraws$Numbers", "straws", "I", false)
def tyX3 : Nat → FieldType := fun k => match k with
  | 0 => .array .int
  | _ => .int
abbrev wsX30 : List Cond := u_ws RX3 TX3 2
theorem nmX3 : ∀ a, a < 2 → ∀ b, b < 2 → a ≠ b → (TX3 a).2.1 ≠ (TX3 b).2.1 := by decide +kernel
theorem tyX3_ok : ∀ k, k < 2 → parseFieldDescriptor (TX3 k).2.2.1 = some (tyX3 k) := by decide +kernel
abbrev cX3_init : ByteArray := prog_5_method_1_code
def yX3_init : MethodName := ⟨RX3, "<init>", "()V"⟩
abbrev cX3_fits : ByteArray := prog_5_method_2_code
def yX3_fits : MethodName := ⟨RX3, "fits", "(II)Z"⟩
abbrev cX3_add : ByteArray := prog_5_method_3_code
def yX3_add : MethodName := ⟨RX3, "add", "(III)I"⟩
abbrev cX3_place : ByteArray := prog_5_method_4_code
def yX3_place : MethodName := ⟨RX3, "place", "(II)I"⟩
abbrev cX3_ofStraw : ByteArray := prog_5_method_5_code
def yX3_ofStraw : MethodName := ⟨RX3, "ofStraw", "(II)I"⟩
abbrev cX3_ofGlass : ByteArray := prog_5_method_6_code
def yX3_ofGlass : MethodName := ⟨RX3, "ofGlass", "(I)I"⟩
abbrev cX3_glassPlace : ByteArray := prog_5_method_7_code
def yX3_glassPlace : MethodName := ⟨RX3, "glassPlace", "(I)I"⟩
abbrev cX3_isDrawing : ByteArray := prog_5_method_8_code
def yX3_isDrawing : MethodName := ⟨RX3, "isDrawing", "(IIZ)Z"⟩
abbrev cX3_sweetness : ByteArray := prog_5_method_9_code
def yX3_sweetness : MethodName := ⟨RX3, "sweetness", "(I)I"⟩
abbrev cX3_lowestReach : ByteArray := prog_5_method_10_code
def yX3_lowestReach : MethodName := ⟨RX3, "lowestReach", "()I"⟩
def RX4 : String := "TwoStraws$Shelf"
def TX4 : u_T := fun k => match k with
  | 0 => ("TwoStraws$Shelf", "sort", "I", false)
  | 1 => ("TwoStraws$Shelf", "size", "I", false)
  | 2 => ("TwoStraws$Shelf", "sip", "I", false)
  | _ => ("TwoStraws$Shelf", "elements", "[J", true)
def tyX4 : Nat → FieldType := fun k => match k with
  | 0 => .int
  | 1 => .int
  | 2 => .int
  | _ => .array .long
abbrev wsX40 : List Cond := u_ws RX4 TX4 4
theorem nmX4 : ∀ a, a < 4 → ∀ b, b < 4 → a ≠ b → (TX4 a).2.1 ≠ (TX4 b).2.1 := by decide +kernel
theorem tyX4_ok : ∀ k, k < 4 → parseFieldDescriptor (TX4 k).2.2.1 = some (tyX4 k) := by decide +kernel
abbrev cX4_init : ByteArray := prog_6_method_1_code
def yX4_init : MethodName := ⟨RX4, "<init>", "()V"⟩
abbrev cX4_clear : ByteArray := prog_6_method_2_code
def yX4_clear : MethodName := ⟨RX4, "clear", "()V"⟩
abbrev cX4_holdSip : ByteArray := prog_6_method_3_code
def yX4_holdSip : MethodName := ⟨RX4, "holdSip", "(I)V"⟩
abbrev cX4_holdRow : ByteArray := prog_6_method_4_code
def yX4_holdRow : MethodName := ⟨RX4, "holdRow", "(II)V"⟩
abbrev cX4_hasPlaces : ByteArray := prog_6_method_5_code
def yX4_hasPlaces : MethodName := ⟨RX4, "hasPlaces", "(II)Z"⟩
abbrev cX4_cut : ByteArray := prog_6_method_6_code
def yX4_cut : MethodName := ⟨RX4, "cut", "(IJ)J"⟩
def RX5 : String := "TwoStraws$Sips"
def TX5 : u_T := fun k => match k with
  | 0 => ("TwoStraws$Sips", "size", "I", false)
  | 1 => ("TwoStraws$Sips", "ran", "I", false)
  | 2 => ("TwoStraws$Sips", "kinds", "[I", true)
  | _ => ("TwoStraws$Sips", "latest", "[I", true)
def tyX5 : Nat → FieldType := fun k => match k with
  | 0 => .int
  | 1 => .int
  | 2 => .array .int
  | _ => .array .int
abbrev wsX50 : List Cond := u_ws RX5 TX5 4
theorem nmX5 : ∀ a, a < 4 → ∀ b, b < 4 → a ≠ b → (TX5 a).2.1 ≠ (TX5 b).2.1 := by decide +kernel
theorem tyX5_ok : ∀ k, k < 4 → parseFieldDescriptor (TX5 k).2.2.1 = some (tyX5 k) := by decide +kernel
abbrev cX5_init : ByteArray := prog_7_method_1_code
def yX5_init : MethodName := ⟨RX5, "<init>", "()V"⟩
abbrev cX5_add : ByteArray := prog_7_method_2_code
def yX5_add : MethodName := ⟨RX5, "add", "(I)I"⟩
abbrev cX5_has : ByteArray := prog_7_method_3_code
def yX5_has : MethodName := ⟨RX5, "has", "(I)Z"⟩
abbrev cX5_kindOf : ByteArray := prog_7_method_4_code
def yX5_kindOf : MethodName := ⟨RX5, "kindOf", "(I)I"⟩
abbrev cX5_isUnder : ByteArray := prog_7_method_5_code
def yX5_isUnder : MethodName := ⟨RX5, "isUnder", "(II)Z"⟩
abbrev cX5_traced : ByteArray := prog_7_method_6_code
def yX5_traced : MethodName := ⟨RX5, "traced", "(I)I"⟩
abbrev cX5_begin : ByteArray := prog_7_method_7_code
def yX5_begin : MethodName := ⟨RX5, "begin", "(III)I"⟩
abbrev cX5_run : ByteArray := prog_7_method_8_code
def yX5_run : MethodName := ⟨RX5, "run", "(IIIII)I"⟩
abbrev cX5_ownerOf : ByteArray := prog_7_method_9_code
def yX5_ownerOf : MethodName := ⟨RX5, "ownerOf", "(II)I"⟩
abbrev cX5_note : ByteArray := prog_7_method_10_code
def yX5_note : MethodName := ⟨RX5, "note", "(I)V"⟩
def RX6 : String := "TwoStraws$Tape"
def TX6 : u_T := fun k => match k with
  | 0 => ("TwoStraws$Tape", "bytes", "[I", true)
  | 1 => ("TwoStraws$Tape", "length", "I", false)
  | 2 => ("TwoStraws$Tape", "text", "LTwoStraws$Text;", false)
  | _ => ("TwoStraws$Tape", "place", "I", false)
def tyX6 : Nat → FieldType := fun k => match k with
  | 0 => .array .int
  | 1 => .int
  | 2 => .object "TwoStraws$Text"
  | _ => .int
abbrev wsX60 : List Cond := u_ws RX6 TX6 4
theorem nmX6 : ∀ a, a < 4 → ∀ b, b < 4 → a ≠ b → (TX6 a).2.1 ≠ (TX6 b).2.1 := by decide +kernel
theorem tyX6_ok : ∀ k, k < 4 → parseFieldDescriptor (TX6 k).2.2.1 = some (tyX6 k) := by decide +kernel
abbrev cX6_init : ByteArray := prog_8_method_1_code
def yX6_init : MethodName := ⟨RX6, "<init>", "()V"⟩
abbrev cX6_add : ByteArray := prog_8_method_2_code
def yX6_add : MethodName := ⟨RX6, "add", "(I)Z"⟩
abbrev cX6_read : ByteArray := prog_8_method_3_code
def yX6_read : MethodName := ⟨RX6, "read", "()I"⟩
abbrev cX6_next : ByteArray := prog_8_method_4_code
def yX6_next : MethodName := ⟨RX6, "next", "()I"⟩
abbrev cX6_passes : ByteArray := prog_8_method_5_code
def yX6_passes : MethodName := ⟨RX6, "passes", "(I)Z"⟩
abbrev cX6_readLine : ByteArray := prog_8_method_6_code
def yX6_readLine : MethodName := ⟨RX6, "readLine", "()Z"⟩
abbrev cX6_readJoined : ByteArray := prog_8_method_7_code
def yX6_readJoined : MethodName := ⟨RX6, "readJoined", "(II)Z"⟩
abbrev cX6_readOne : ByteArray := prog_8_method_8_code
def yX6_readOne : MethodName := ⟨RX6, "readOne", "(I)Z"⟩
abbrev cX6_readNumber : ByteArray := prog_8_method_9_code
def yX6_readNumber : MethodName := ⟨RX6, "readNumber", "()V"⟩
abbrev cX6_isDigit : ByteArray := prog_8_method_10_code
def yX6_isDigit : MethodName := ⟨RX6, "isDigit", "(I)Z"⟩
abbrev cX6_naming : ByteArray := prog_8_method_11_code
def yX6_naming : MethodName := ⟨RX6, "naming", "(I)I"⟩
abbrev cX6_joining : ByteArray := prog_8_method_12_code
def yX6_joining : MethodName := ⟨RX6, "joining", "(II)I"⟩
def RX7 : String := "TwoStraws$Text"
def TX7 : u_T := fun k => match k with
  | 0 => ("TwoStraws$Text", "code", "[I", true)
  | 1 => ("TwoStraws$Text", "ends", "[I", true)
  | 2 => ("TwoStraws$Text", "asks", "[Z", true)
  | 3 => ("TwoStraws$Text", "size", "I", false)
  | _ => ("TwoStraws$Text", "parts", "I", false)
def tyX7 : Nat → FieldType := fun k => match k with
  | 0 => .array .int
  | 1 => .array .int
  | 2 => .array .boolean
  | 3 => .int
  | _ => .int
abbrev wsX70 : List Cond := u_ws RX7 TX7 5
theorem nmX7 : ∀ a, a < 5 → ∀ b, b < 5 → a ≠ b → (TX7 a).2.1 ≠ (TX7 b).2.1 := by decide +kernel
theorem tyX7_ok : ∀ k, k < 5 → parseFieldDescriptor (TX7 k).2.2.1 = some (tyX7 k) := by decide +kernel
abbrev cX7_init : ByteArray := prog_9_method_1_code
def yX7_init : MethodName := ⟨RX7, "<init>", "()V"⟩
abbrev cX7_clear : ByteArray := prog_9_method_2_code
def yX7_clear : MethodName := ⟨RX7, "clear", "()V"⟩
abbrev cX7_add : ByteArray := prog_9_method_3_code
def yX7_add : MethodName := ⟨RX7, "add", "(I)V"⟩
abbrev cX7_endPart : ByteArray := prog_9_method_4_code
def yX7_endPart : MethodName := ⟨RX7, "endPart", "(Z)V"⟩
def RX8 : String := "TwoStraws$Thoughts"
def TX8 : u_T := fun k => match k with
  | 0 => ("TwoStraws$Thoughts", "gain", "I", false)
  | 1 => ("TwoStraws$Thoughts", "numbers", "LTwoStraws$Numbers;", true)
  | 2 => ("TwoStraws$Thoughts", "now", "LTwoStraws$Glass;", true)
  | 3 => ("TwoStraws$Thoughts", "thought", "LTwoStraws$Glass;", true)
  | 4 => ("TwoStraws$Thoughts", "branch", "LTwoStraws$Glass;", true)
  | 5 => ("TwoStraws$Thoughts", "byLevel", "[I", true)
  | 6 => ("TwoStraws$Thoughts", "firstGot", "[I", true)
  | _ => ("TwoStraws$Thoughts", "secondGot", "[I", true)
def tyX8 : Nat → FieldType := fun k => match k with
  | 0 => .int
  | 1 => .object "TwoStraws$Numbers"
  | 2 => .object "TwoStraws$Glass"
  | 3 => .object "TwoStraws$Glass"
  | 4 => .object "TwoStraws$Glass"
  | 5 => .array .int
  | 6 => .array .int
  | _ => .array .int
abbrev wsX80 : List Cond := u_ws RX8 TX8 8
theorem nmX8 : ∀ a, a < 8 → ∀ b, b < 8 → a ≠ b → (TX8 a).2.1 ≠ (TX8 b).2.1 := by decide +kernel
theorem tyX8_ok : ∀ k, k < 8 → parseFieldDescriptor (TX8 k).2.2.1 = some (tyX8 k) := by decide +kernel
abbrev cX8_init : ByteArray := prog_10_method_1_code
def yX8_init : MethodName := ⟨RX8, "<init>", "(LTwoStraws$Numbers;LTwoStraws$Law;LTwoStraws$Glass;)V"⟩
abbrev cX8_after : ByteArray := prog_10_method_2_code
def yX8_after : MethodName := ⟨RX8, "after", "(I)LTwoStraws$Glass;"⟩
abbrev cX8_drunk : ByteArray := prog_10_method_3_code
def yX8_drunk : MethodName := ⟨RX8, "drunk", "(I)LTwoStraws$Glass;"⟩
abbrev cX8_emptyBehind : ByteArray := prog_10_method_4_code
def yX8_emptyBehind : MethodName := ⟨RX8, "emptyBehind", "()I"⟩
abbrev cX8_byTurns : ByteArray := prog_10_method_5_code
def yX8_byTurns : MethodName := ⟨RX8, "byTurns", "(III)LTwoStraws$Glass;"⟩
abbrev cX8_leastMark : ByteArray := prog_10_method_6_code
def yX8_leastMark : MethodName := ⟨RX8, "leastMark", "(II)I"⟩
abbrev cX8_gotBehind : ByteArray := prog_10_method_7_code
def yX8_gotBehind : MethodName := ⟨RX8, "gotBehind", "(II)I"⟩
abbrev cX8_halved : ByteArray := prog_10_method_8_code
def yX8_halved : MethodName := ⟨RX8, "halved", "(III)I"⟩
abbrev cX8_gotFromGlass : ByteArray := prog_10_method_9_code
def yX8_gotFromGlass : MethodName := ⟨RX8, "gotFromGlass", "(II)I"⟩
abbrev cX8_bestNumber : ByteArray := prog_10_method_10_code
def yX8_bestNumber : MethodName := ⟨RX8, "bestNumber", "(IIIIZ)I"⟩
abbrev cX8_mostAbove : ByteArray := prog_10_method_11_code
def yX8_mostAbove : MethodName := ⟨RX8, "mostAbove", "(IZ)I"⟩
abbrev cX8_together : ByteArray := prog_10_method_12_code
def yX8_together : MethodName := ⟨RX8, "together", "(I)I"⟩
abbrev cX8_selfish : ByteArray := prog_10_method_13_code
def yX8_selfish : MethodName := ⟨RX8, "selfish", "(I)I"⟩
abbrev cX8_setStrengths : ByteArray := prog_10_method_14_code
def yX8_setStrengths : MethodName := ⟨RX8, "setStrengths", "(II)V"⟩
abbrev cX8_isContent : ByteArray := prog_10_method_15_code
def yX8_isContent : MethodName := ⟨RX8, "isContent", "(IIII)Z"⟩
abbrev cX8_othersGot : ByteArray := prog_10_method_16_code
def yX8_othersGot : MethodName := ⟨RX8, "othersGot", "(III)I"⟩
abbrev cX8_lastGain : ByteArray := prog_10_method_17_code
def yX8_lastGain : MethodName := ⟨RX8, "lastGain", "(I)I"⟩
abbrev cX8_firstUnlike : ByteArray := prog_10_method_18_code
def yX8_firstUnlike : MethodName := ⟨RX8, "firstUnlike", "(LTwoStraws$Shelf;I)I"⟩
abbrev cX8_setsThatFit : ByteArray := prog_10_method_19_code
def yX8_setsThatFit : MethodName := ⟨RX8, "setsThatFit", "(LTwoStraws$Shelf;)I"⟩
abbrev cX8_leastSet : ByteArray := prog_10_method_20_code
def yX8_leastSet : MethodName := ⟨RX8, "leastSet", "(LTwoStraws$Shelf;)I"⟩
abbrev cX8_stoppedBehind : ByteArray := prog_10_method_21_code
def yX8_stoppedBehind : MethodName := ⟨RX8, "stoppedBehind", "(LTwoStraws$Shelf;I)I"⟩
abbrev cX8_hiccupped : ByteArray := prog_10_method_22_code
def yX8_hiccupped : MethodName := ⟨RX8, "hiccupped", "(III)I"⟩
def RX9 : String := "TwoStraws"
def TX9 : u_T := fun k => match k with
  | 0 => ("TwoStraws", "numbers", "LTwoStraws$Numbers;", true)
  | 1 => ("TwoStraws", "tape", "LTwoStraws$Tape;", true)
  | 2 => ("TwoStraws", "law", "LTwoStraws$Law;", true)
  | 3 => ("TwoStraws", "now", "LTwoStraws$Glass;", true)
  | 4 => ("TwoStraws", "kept", "LTwoStraws$Glass;", true)
  | 5 => ("TwoStraws", "thoughts", "LTwoStraws$Thoughts;", true)
  | 6 => ("TwoStraws", "changes", "LTwoStraws$Changes;", true)
  | 7 => ("TwoStraws", "sips", "LTwoStraws$Sips;", true)
  | 8 => ("TwoStraws", "shelves", "[LTwoStraws$Shelf;", true)
  | _ => ("TwoStraws", "hasImage", "Z", false)
def tyX9 : Nat → FieldType := fun k => match k with
  | 0 => .object "TwoStraws$Numbers"
  | 1 => .object "TwoStraws$Tape"
  | 2 => .object "TwoStraws$Law"
  | 3 => .object "TwoStraws$Glass"
  | 4 => .object "TwoStraws$Glass"
  | 5 => .object "TwoStraws$Thoughts"
  | 6 => .object "TwoStraws$Changes"
  | 7 => .object "TwoStraws$Sips"
  | 8 => .array (.object "TwoStraws$Shelf")
  | _ => .boolean
abbrev wsX90 : List Cond := u_ws RX9 TX9 10
theorem nmX9 : ∀ a, a < 10 → ∀ b, b < 10 → a ≠ b → (TX9 a).2.1 ≠ (TX9 b).2.1 := by decide +kernel
theorem tyX9_ok : ∀ k, k < 10 → parseFieldDescriptor (TX9 k).2.2.1 = some (tyX9 k) := by decide +kernel
abbrev cX9_init : ByteArray := prog_1_method_1_code
def yX9_init : MethodName := ⟨RX9, "<init>", "()V"⟩
abbrev cX9_straw : ByteArray := prog_1_method_2_code
def yX9_straw : MethodName := ⟨RX9, "straw", "(II)I"⟩
abbrev cX9_straws : ByteArray := prog_1_method_3_code
def yX9_straws : MethodName := ⟨RX9, "straws", "(III)I"⟩
abbrev cX9_mend : ByteArray := prog_1_method_4_code
def yX9_mend : MethodName := ⟨RX9, "mend", "(III)I"⟩
abbrev cX9_of : ByteArray := prog_1_method_5_code
def yX9_of : MethodName := ⟨RX9, "of", "(II)I"⟩
abbrev cX9_feed : ByteArray := prog_1_method_6_code
def yX9_feed : MethodName := ⟨RX9, "feed", "(I)I"⟩
abbrev cX9_law : ByteArray := prog_1_method_7_code
def yX9_law : MethodName := ⟨RX9, "law", "()I"⟩
abbrev cX9_wants : ByteArray := prog_1_method_8_code
def yX9_wants : MethodName := ⟨RX9, "wants", "(III)I"⟩
abbrev cX9_glass : ByteArray := prog_1_method_9_code
def yX9_glass : MethodName := ⟨RX9, "glass", "(III)I"⟩
abbrev cX9_level : ByteArray := prog_1_method_10_code
def yX9_level : MethodName := ⟨RX9, "level", "(II)I"⟩
abbrev cX9_empty : ByteArray := prog_1_method_11_code
def yX9_empty : MethodName := ⟨RX9, "empty", "()I"⟩
abbrev cX9_more : ByteArray := prog_1_method_12_code
def yX9_more : MethodName := ⟨RX9, "more", "(II)I"⟩
abbrev cX9_turns : ByteArray := prog_1_method_13_code
def yX9_turns : MethodName := ⟨RX9, "turns", "(III)I"⟩
abbrev cX9_mark : ByteArray := prog_1_method_14_code
def yX9_mark : MethodName := ⟨RX9, "mark", "(I)I"⟩
abbrev cX9_halves : ByteArray := prog_1_method_15_code
def yX9_halves : MethodName := ⟨RX9, "halves", "(II)I"⟩
abbrev cX9_reachFor : ByteArray := prog_1_method_16_code
def yX9_reachFor : MethodName := ⟨RX9, "reachFor", "(III)I"⟩
abbrev cX9_slow : ByteArray := prog_1_method_17_code
def yX9_slow : MethodName := ⟨RX9, "slow", "(II)I"⟩
abbrev cX9_both : ByteArray := prog_1_method_18_code
def yX9_both : MethodName := ⟨RX9, "both", "(II)I"⟩
abbrev cX9_holeFor : ByteArray := prog_1_method_19_code
def yX9_holeFor : MethodName := ⟨RX9, "holeFor", "(III)I"⟩
abbrev cX9_stopFor : ByteArray := prog_1_method_20_code
def yX9_stopFor : MethodName := ⟨RX9, "stopFor", "(I)I"⟩
abbrev cX9_judge : ByteArray := prog_1_method_21_code
def yX9_judge : MethodName := ⟨RX9, "judge", "(I)I"⟩
abbrev cX9_who : ByteArray := prog_1_method_22_code
def yX9_who : MethodName := ⟨RX9, "who", "(II)I"⟩
abbrev cX9_since : ByteArray := prog_1_method_23_code
def yX9_since : MethodName := ⟨RX9, "since", "(II)I"⟩
abbrev cX9_drawn : ByteArray := prog_1_method_24_code
def yX9_drawn : MethodName := ⟨RX9, "drawn", "(III)I"⟩
abbrev cX9_second : ByteArray := prog_1_method_25_code
def yX9_second : MethodName := ⟨RX9, "second", "()I"⟩
abbrev cX9_fill : ByteArray := prog_1_method_26_code
def yX9_fill : MethodName := ⟨RX9, "fill", "(I)I"⟩
abbrev cX9_ice : ByteArray := prog_1_method_27_code
def yX9_ice : MethodName := ⟨RX9, "ice", "(I)I"⟩
abbrev cX9_led : ByteArray := prog_1_method_28_code
def yX9_led : MethodName := ⟨RX9, "led", "(II)I"⟩
abbrev cX9_image : ByteArray := prog_1_method_29_code
def yX9_image : MethodName := ⟨RX9, "image", "()I"⟩
abbrev cX9_back : ByteArray := prog_1_method_30_code
def yX9_back : MethodName := ⟨RX9, "back", "()I"⟩
abbrev cX9_undo : ByteArray := prog_1_method_31_code
def yX9_undo : MethodName := ⟨RX9, "undo", "()I"⟩
abbrev cX9_redo : ByteArray := prog_1_method_32_code
def yX9_redo : MethodName := ⟨RX9, "redo", "()I"⟩
abbrev cX9_body : ByteArray := prog_1_method_33_code
def yX9_body : MethodName := ⟨RX9, "body", "(I)I"⟩
abbrev cX9_act : ByteArray := prog_1_method_34_code
def yX9_act : MethodName := ⟨RX9, "act", "(III)I"⟩
abbrev cX9_trace : ByteArray := prog_1_method_35_code
def yX9_trace : MethodName := ⟨RX9, "trace", "(I)I"⟩
abbrev cX9_keep : ByteArray := prog_1_method_36_code
def yX9_keep : MethodName := ⟨RX9, "keep", "(II)I"⟩
abbrev cX9_row : ByteArray := prog_1_method_37_code
def yX9_row : MethodName := ⟨RX9, "row", "(III)I"⟩
abbrev cX9_put : ByteArray := prog_1_method_38_code
def yX9_put : MethodName := ⟨RX9, "put", "(IIJ)I"⟩
abbrev cX9_element : ByteArray := prog_1_method_39_code
def yX9_element : MethodName := ⟨RX9, "element", "(II)J"⟩
abbrev cX9_shift : ByteArray := prog_1_method_40_code
def yX9_shift : MethodName := ⟨RX9, "shift", "(IIIII)I"⟩
abbrev cX9_taken : ByteArray := prog_1_method_41_code
def yX9_taken : MethodName := ⟨RX9, "taken", "(II)I"⟩
abbrev cX9_count : ByteArray := prog_1_method_42_code
def yX9_count : MethodName := ⟨RX9, "count", "(I)I"⟩
abbrev cX9_isWithin : ByteArray := prog_1_method_43_code
def yX9_isWithin : MethodName := ⟨RX9, "isWithin", "(II)Z"⟩
abbrev cX9_isShelf : ByteArray := prog_1_method_44_code
def yX9_isShelf : MethodName := ⟨RX9, "isShelf", "(I)Z"⟩
abbrev cX9_isStraw : ByteArray := prog_1_method_45_code
def yX9_isStraw : MethodName := ⟨RX9, "isStraw", "(I)Z"⟩
abbrev cX9_isPair : ByteArray := prog_1_method_46_code
def yX9_isPair : MethodName := ⟨RX9, "isPair", "(I)Z"⟩
abbrev cX9_refusedRings : ByteArray := prog_1_method_47_code
def yX9_refusedRings : MethodName := ⟨RX9, "refusedRings", "(I)I"⟩
abbrev cX9_refusedElement : ByteArray := prog_1_method_48_code
def yX9_refusedElement : MethodName := ⟨RX9, "refusedElement", "(II)I"⟩
abbrev cX9_addStraw : ByteArray := prog_1_method_49_code
def yX9_addStraw : MethodName := ⟨RX9, "addStraw", "(LTwoStraws$Shelf;I)Z"⟩
def RX10 : String := "TwoStrawsModel"
def TX10 : u_T := fun k => match k with
  | 0 => ("TwoStrawsModel", "may", "[I", true)
  | 1 => ("TwoStrawsModel", "changeAt", "[I", true)
  | 2 => ("TwoStrawsModel", "changeWas", "[I", true)
  | 3 => ("TwoStrawsModel", "changeIs", "[I", true)
  | 4 => ("TwoStrawsModel", "keptMany", "I", false)
  | 5 => ("TwoStrawsModel", "done", "I", false)
  | 6 => ("TwoStrawsModel", "straws", "I", false)
  | 7 => ("TwoStrawsModel", "level", "I", false)
  | 8 => ("TwoStrawsModel", "iceNow", "I", false)
  | 9 => ("TwoStrawsModel", "passed", "I", false)
  | 10 => ("TwoStrawsModel", "tried", "[I", true)
  | 11 => ("TwoStrawsModel", "tape", "[I", true)
  | 12 => ("TwoStrawsModel", "tapeMany", "I", false)
  | 13 => ("TwoStrawsModel", "text", "[I", true)
  | 14 => ("TwoStrawsModel", "textMany", "I", false)
  | 15 => ("TwoStrawsModel", "base", "I", false)
  | 16 => ("TwoStrawsModel", "at", "I", false)
  | 17 => ("TwoStrawsModel", "ends", "I", false)
  | 18 => ("TwoStrawsModel", "fault", "I", false)
  | 19 => ("TwoStrawsModel", "opened", "I", false)
  | 20 => ("TwoStrawsModel", "names", "[I", true)
  | 21 => ("TwoStrawsModel", "levelNow", "I", false)
  | 22 => ("TwoStrawsModel", "iceLeft", "I", false)
  | 23 => ("TwoStrawsModel", "secondNow", "I", false)
  | 24 => ("TwoStrawsModel", "triedNow", "[I", true)
  | 25 => ("TwoStrawsModel", "gotNow", "[I", true)
  | 26 => ("TwoStrawsModel", "noises", "[I", true)
  | 27 => ("TwoStrawsModel", "want", "[I", true)
  | 28 => ("TwoStrawsModel", "drinkers", "I", false)
  | 29 => ("TwoStrawsModel", "noStops", "Z", false)
  | 30 => ("TwoStrawsModel", "hiccups", "I", false)
  | 31 => ("TwoStrawsModel", "aloneA", "[I", true)
  | 32 => ("TwoStrawsModel", "aloneB", "[I", true)
  | 33 => ("TwoStrawsModel", "firstGets", "[I", true)
  | 34 => ("TwoStrawsModel", "otherGets", "[I", true)
  | 35 => ("TwoStrawsModel", "ledGot", "[I", true)
  | 36 => ("TwoStrawsModel", "ledSweet", "[I", true)
  | 37 => ("TwoStrawsModel", "ledNoises", "[I", true)
  | 38 => ("TwoStrawsModel", "ledSeconds", "I", false)
  | 39 => ("TwoStrawsModel", "ledFills", "I", false)
  | 40 => ("TwoStrawsModel", "isKept", "Z", false)
  | 41 => ("TwoStrawsModel", "imageStraws", "I", false)
  | 42 => ("TwoStrawsModel", "image", "[I", true)
  | 43 => ("TwoStrawsModel", "bodies", "I", false)
  | 44 => ("TwoStrawsModel", "bodyKind", "[I", true)
  | 45 => ("TwoStrawsModel", "trace", "[I", true)
  | 46 => ("TwoStrawsModel", "ran", "I", false)
  | 47 => ("TwoStrawsModel", "ownKind", "I", false)
  | 48 => ("TwoStrawsModel", "ownNumber", "I", false)
  | 49 => ("TwoStrawsModel", "shelf", "[I", true)
  | 50 => ("TwoStrawsModel", "many", "[I", true)
  | 51 => ("TwoStrawsModel", "items", "[J", true)
  | _ => ("TwoStrawsModel", "carried", "[J", true)
def tyX10 : Nat → FieldType := fun k => match k with
  | 0 => .array .int
  | 1 => .array .int
  | 2 => .array .int
  | 3 => .array .int
  | 4 => .int
  | 5 => .int
  | 6 => .int
  | 7 => .int
  | 8 => .int
  | 9 => .int
  | 10 => .array .int
  | 11 => .array .int
  | 12 => .int
  | 13 => .array .int
  | 14 => .int
  | 15 => .int
  | 16 => .int
  | 17 => .int
  | 18 => .int
  | 19 => .int
  | 20 => .array .int
  | 21 => .int
  | 22 => .int
  | 23 => .int
  | 24 => .array .int
  | 25 => .array .int
  | 26 => .array .int
  | 27 => .array .int
  | 28 => .int
  | 29 => .boolean
  | 30 => .int
  | 31 => .array .int
  | 32 => .array .int
  | 33 => .array .int
  | 34 => .array .int
  | 35 => .array .int
  | 36 => .array .int
  | 37 => .array .int
  | 38 => .int
  | 39 => .int
  | 40 => .boolean
  | 41 => .int
  | 42 => .array .int
  | 43 => .int
  | 44 => .array .int
  | 45 => .array .int
  | 46 => .int
  | 47 => .int
  | 48 => .int
  | 49 => .array .int
  | 50 => .array .int
  | 51 => .array .long
  | _ => .array .long
abbrev wsX100 : List Cond := u_ws RX10 TX10 53
theorem nmX10 : ∀ a, a < 53 → ∀ b, b < 53 → a ≠ b → (TX10 a).2.1 ≠ (TX10 b).2.1 := by decide +kernel
theorem tyX10_ok : ∀ k, k < 53 → parseFieldDescriptor (TX10 k).2.2.1 = some (tyX10 k) := by decide +kernel
abbrev cX10_within : ByteArray := prog_12_method_1_code
def yX10_within : MethodName := ⟨RX10, "within", "(JJJ)Z"⟩
abbrev cX10_isIn : ByteArray := prog_12_method_2_code
def yX10_isIn : MethodName := ⟨RX10, "isIn", "(II)Z"⟩
abbrev cX10_init : ByteArray := prog_12_method_3_code
def yX10_init : MethodName := ⟨RX10, "<init>", "()V"⟩
abbrev cX10_becomes : ByteArray := prog_12_method_4_code
def yX10_becomes : MethodName := ⟨RX10, "becomes", "(II)I"⟩
abbrev cX10_undo : ByteArray := prog_12_method_5_code
def yX10_undo : MethodName := ⟨RX10, "undo", "()I"⟩
abbrev cX10_redo : ByteArray := prog_12_method_6_code
def yX10_redo : MethodName := ⟨RX10, "redo", "()I"⟩
abbrev cX10_isStraw : ByteArray := prog_12_method_7_code
def yX10_isStraw : MethodName := ⟨RX10, "isStraw", "(I)Z"⟩
abbrev cX10_ofStraw : ByteArray := prog_12_method_8_code
def yX10_ofStraw : MethodName := ⟨RX10, "ofStraw", "(II)I"⟩
abbrev cX10_isOne : ByteArray := prog_12_method_9_code
def yX10_isOne : MethodName := ⟨RX10, "isOne", "(JJJ)Z"⟩
abbrev cX10_adds : ByteArray := prog_12_method_10_code
def yX10_adds : MethodName := ⟨RX10, "adds", "(III)V"⟩
abbrev cX10_straw : ByteArray := prog_12_method_11_code
def yX10_straw : MethodName := ⟨RX10, "straw", "(II)I"⟩
abbrev cX10_straws : ByteArray := prog_12_method_12_code
def yX10_straws : MethodName := ⟨RX10, "straws", "(III)I"⟩
abbrev cX10_placeOf : ByteArray := prog_12_method_13_code
def yX10_placeOf : MethodName := ⟨RX10, "placeOf", "(II)I"⟩
abbrev cX10_mayBecome : ByteArray := prog_12_method_14_code
def yX10_mayBecome : MethodName := ⟨RX10, "mayBecome", "(II)Z"⟩
abbrev cX10_mend : ByteArray := prog_12_method_15_code
def yX10_mend : MethodName := ⟨RX10, "mend", "(III)I"⟩
abbrev cX10_of : ByteArray := prog_12_method_16_code
def yX10_of : MethodName := ⟨RX10, "of", "(II)I"⟩
abbrev cX10_feed : ByteArray := prog_12_method_17_code
def yX10_feed : MethodName := ⟨RX10, "feed", "(I)I"⟩
abbrev cX10_byteAt : ByteArray := prog_12_method_18_code
def yX10_byteAt : MethodName := ⟨RX10, "byteAt", "()I"⟩
abbrev cX10_wrong : ByteArray := prog_12_method_19_code
def yX10_wrong : MethodName := ⟨RX10, "wrong", "()I"⟩
abbrev cX10_takes : ByteArray := prog_12_method_20_code
def yX10_takes : MethodName := ⟨RX10, "takes", "(I)Z"⟩
abbrev cX10_either : ByteArray := prog_12_method_21_code
def yX10_either : MethodName := ⟨RX10, "either", "()I"⟩
abbrev cX10_bothOf : ByteArray := prog_12_method_22_code
def yX10_bothOf : MethodName := ⟨RX10, "bothOf", "()I"⟩
abbrev cX10_compared : ByteArray := prog_12_method_23_code
def yX10_compared : MethodName := ⟨RX10, "compared", "()I"⟩
abbrev cX10_sums : ByteArray := prog_12_method_24_code
def yX10_sums : MethodName := ⟨RX10, "sums", "()I"⟩
abbrev cX10_product : ByteArray := prog_12_method_25_code
def yX10_product : MethodName := ⟨RX10, "product", "()I"⟩
abbrev cX10_nameOf : ByteArray := prog_12_method_26_code
def yX10_nameOf : MethodName := ⟨RX10, "nameOf", "(I)I"⟩
abbrev cX10_one : ByteArray := prog_12_method_27_code
def yX10_one : MethodName := ⟨RX10, "one", "()I"⟩
abbrev cX10_workOut : ByteArray := prog_12_method_28_code
def yX10_workOut : MethodName := ⟨RX10, "workOut", "(II)I"⟩
abbrev cX10_law : ByteArray := prog_12_method_29_code
def yX10_law : MethodName := ⟨RX10, "law", "()I"⟩
abbrev cX10_wantsAt : ByteArray := prog_12_method_30_code
def yX10_wantsAt : MethodName := ⟨RX10, "wantsAt", "(III)I"⟩
abbrev cX10_wants : ByteArray := prog_12_method_31_code
def yX10_wants : MethodName := ⟨RX10, "wants", "(III)I"⟩
abbrev cX10_begins1 : ByteArray := prog_12_method_32_code
def yX10_begins1 : MethodName := ⟨RX10, "begins1", "()V"⟩
abbrev cX10_draws : ByteArray := prog_12_method_33_code
def yX10_draws : MethodName := ⟨RX10, "draws", "(I)Z"⟩
abbrev cX10_wantsNow : ByteArray := prog_12_method_34_code
def yX10_wantsNow : MethodName := ⟨RX10, "wantsNow", "(I)I"⟩
abbrev cX10_secondGoes : ByteArray := prog_12_method_35_code
def yX10_secondGoes : MethodName := ⟨RX10, "secondGoes", "()V"⟩
abbrev cX10_goes : ByteArray := prog_12_method_36_code
def yX10_goes : MethodName := ⟨RX10, "goes", "(I)V"⟩
abbrev cX10_sweetOf : ByteArray := prog_12_method_37_code
def yX10_sweetOf : MethodName := ⟨RX10, "sweetOf", "(II)I"⟩
abbrev cX10_glass : ByteArray := prog_12_method_38_code
def yX10_glass : MethodName := ⟨RX10, "glass", "(III)I"⟩
abbrev cX10_level : ByteArray := prog_12_method_39_code
def yX10_level : MethodName := ⟨RX10, "level", "(II)I"⟩
abbrev cX10_isEmpty : ByteArray := prog_12_method_40_code
def yX10_isEmpty : MethodName := ⟨RX10, "isEmpty", "()Z"⟩
abbrev cX10_empty : ByteArray := prog_12_method_41_code
def yX10_empty : MethodName := ⟨RX10, "empty", "()I"⟩
abbrev cX10_more : ByteArray := prog_12_method_42_code
def yX10_more : MethodName := ⟨RX10, "more", "(II)I"⟩
abbrev cX10_turns : ByteArray := prog_12_method_43_code
def yX10_turns : MethodName := ⟨RX10, "turns", "(III)I"⟩
abbrev cX10_areTwo : ByteArray := prog_12_method_44_code
def yX10_areTwo : MethodName := ⟨RX10, "areTwo", "(I)Z"⟩
abbrev cX10_mark : ByteArray := prog_12_method_45_code
def yX10_mark : MethodName := ⟨RX10, "mark", "(I)I"⟩
abbrev cX10_alone : ByteArray := prog_12_method_46_code
def yX10_alone : MethodName := ⟨RX10, "alone", "(II)I"⟩
abbrev cX10_halves : ByteArray := prog_12_method_47_code
def yX10_halves : MethodName := ⟨RX10, "halves", "(II)I"⟩
abbrev cX10_isSoon : ByteArray := prog_12_method_48_code
def yX10_isSoon : MethodName := ⟨RX10, "isSoon", "(I)Z"⟩
abbrev cX10_gets : ByteArray := prog_12_method_49_code
def yX10_gets : MethodName := ⟨RX10, "gets", "(II)I"⟩
abbrev cX10_reachFor : ByteArray := prog_12_method_50_code
def yX10_reachFor : MethodName := ⟨RX10, "reachFor", "(III)I"⟩
abbrev cX10_slow : ByteArray := prog_12_method_51_code
def yX10_slow : MethodName := ⟨RX10, "slow", "(II)I"⟩
abbrev cX10_isSelf : ByteArray := prog_12_method_52_code
def yX10_isSelf : MethodName := ⟨RX10, "isSelf", "(IIII)Z"⟩
abbrev cX10_both : ByteArray := prog_12_method_53_code
def yX10_both : MethodName := ⟨RX10, "both", "(II)I"⟩
abbrev cX10_othersGet : ByteArray := prog_12_method_54_code
def yX10_othersGet : MethodName := ⟨RX10, "othersGet", "(III)I"⟩
abbrev cX10_holeFor : ByteArray := prog_12_method_55_code
def yX10_holeFor : MethodName := ⟨RX10, "holeFor", "(III)I"⟩
abbrev cX10_getsStopping : ByteArray := prog_12_method_56_code
def yX10_getsStopping : MethodName := ⟨RX10, "getsStopping", "(II)I"⟩
abbrev cX10_stopFor : ByteArray := prog_12_method_57_code
def yX10_stopFor : MethodName := ⟨RX10, "stopFor", "(I)I"⟩
abbrev cX10_shortsAre : ByteArray := prog_12_method_58_code
def yX10_shortsAre : MethodName := ⟨RX10, "shortsAre", "(I)I"⟩
abbrev cX10_firstFalse : ByteArray := prog_12_method_59_code
def yX10_firstFalse : MethodName := ⟨RX10, "firstFalse", "(I)I"⟩
abbrev cX10_judge : ByteArray := prog_12_method_60_code
def yX10_judge : MethodName := ⟨RX10, "judge", "(I)I"⟩
abbrev cX10_who : ByteArray := prog_12_method_61_code
def yX10_who : MethodName := ⟨RX10, "who", "(II)I"⟩
abbrev cX10_since : ByteArray := prog_12_method_62_code
def yX10_since : MethodName := ⟨RX10, "since", "(II)I"⟩
abbrev cX10_drawn : ByteArray := prog_12_method_63_code
def yX10_drawn : MethodName := ⟨RX10, "drawn", "(III)I"⟩
abbrev cX10_second : ByteArray := prog_12_method_64_code
def yX10_second : MethodName := ⟨RX10, "second", "()I"⟩
abbrev cX10_fill : ByteArray := prog_12_method_65_code
def yX10_fill : MethodName := ⟨RX10, "fill", "(I)I"⟩
abbrev cX10_ice : ByteArray := prog_12_method_66_code
def yX10_ice : MethodName := ⟨RX10, "ice", "(I)I"⟩
abbrev cX10_led : ByteArray := prog_12_method_67_code
def yX10_led : MethodName := ⟨RX10, "led", "(II)I"⟩
abbrev cX10_image : ByteArray := prog_12_method_68_code
def yX10_image : MethodName := ⟨RX10, "image", "()I"⟩
abbrev cX10_back : ByteArray := prog_12_method_69_code
def yX10_back : MethodName := ⟨RX10, "back", "()I"⟩
abbrev cX10_isBody : ByteArray := prog_12_method_70_code
def yX10_isBody : MethodName := ⟨RX10, "isBody", "(I)Z"⟩
abbrev cX10_kindOf : ByteArray := prog_12_method_71_code
def yX10_kindOf : MethodName := ⟨RX10, "kindOf", "(I)I"⟩
abbrev cX10_body : ByteArray := prog_12_method_72_code
def yX10_body : MethodName := ⟨RX10, "body", "(I)I"⟩
abbrev cX10_above : ByteArray := prog_12_method_73_code
def yX10_above : MethodName := ⟨RX10, "above", "(I)I"⟩
abbrev cX10_begins : ByteArray := prog_12_method_74_code
def yX10_begins : MethodName := ⟨RX10, "begins", "(I)V"⟩
abbrev cX10_drawsAs : ByteArray := prog_12_method_75_code
def yX10_drawsAs : MethodName := ⟨RX10, "drawsAs", "(II)I"⟩
abbrev cX10_getsAs : ByteArray := prog_12_method_76_code
def yX10_getsAs : MethodName := ⟨RX10, "getsAs", "(II)I"⟩
abbrev cX10_restsAs : ByteArray := prog_12_method_77_code
def yX10_restsAs : MethodName := ⟨RX10, "restsAs", "(II)I"⟩
abbrev cX10_tellsAs : ByteArray := prog_12_method_78_code
def yX10_tellsAs : MethodName := ⟨RX10, "tellsAs", "(II)I"⟩
abbrev cX10_act : ByteArray := prog_12_method_79_code
def yX10_act : MethodName := ⟨RX10, "act", "(III)I"⟩
abbrev cX10_trace : ByteArray := prog_12_method_80_code
def yX10_trace : MethodName := ⟨RX10, "trace", "(I)I"⟩
abbrev cX10_isShelf : ByteArray := prog_12_method_81_code
def yX10_isShelf : MethodName := ⟨RX10, "isShelf", "(I)Z"⟩
abbrev cX10_keep : ByteArray := prog_12_method_82_code
def yX10_keep : MethodName := ⟨RX10, "keep", "(II)I"⟩
abbrev cX10_row : ByteArray := prog_12_method_83_code
def yX10_row : MethodName := ⟨RX10, "row", "(III)I"⟩
abbrev cX10_refusal : ByteArray := prog_12_method_84_code
def yX10_refusal : MethodName := ⟨RX10, "refusal", "(II)I"⟩
abbrev cX10_asSort : ByteArray := prog_12_method_85_code
def yX10_asSort : MethodName := ⟨RX10, "asSort", "(IJ)J"⟩
abbrev cX10_put : ByteArray := prog_12_method_86_code
def yX10_put : MethodName := ⟨RX10, "put", "(IIJ)I"⟩
abbrev cX10_element : ByteArray := prog_12_method_87_code
def yX10_element : MethodName := ⟨RX10, "element", "(II)J"⟩
abbrev cX10_shift : ByteArray := prog_12_method_88_code
def yX10_shift : MethodName := ⟨RX10, "shift", "(IIIII)I"⟩
abbrev cX10_taken : ByteArray := prog_12_method_89_code
def yX10_taken : MethodName := ⟨RX10, "taken", "(II)I"⟩
abbrev cX10_count : ByteArray := prog_12_method_90_code
def yX10_count : MethodName := ⟨RX10, "count", "(I)I"⟩
def RL : String := "TwoStrawsLaw"
abbrev cL_law : ByteArray := code
def yL_law : MethodName := ⟨RL, "law", "([I)Z"⟩
abbrev vwCl : List vw_C := [(RX0, TX0, 5), (RX1, TX1, 12), (RX2, TX2, 4), (RX3, TX3, 2), (RX4, TX4, 4), (RX5, TX5, 4), (RX6, TX6, 4), (RX7, TX7, 5), (RX8, TX8, 8), (RX9, TX9, 10), (RX10, TX10, 53)]
end
section
theorem dX0_init_0 : decode cX0_init 0 = .ok (.aload_n 0, 1) := by decide +kernel
theorem dX0_init_1 : decode cX0_init 1 = .ok (.invokespecial 1, 3) := by decide +kernel
theorem dX0_init_4 : decode cX0_init 4 = .ok (.aload_n 0, 1) := by decide +kernel
theorem dX0_init_5 : decode cX0_init 5 = .ok (.bipush 40, 2) := by decide +kernel
theorem dX0_init_7 : decode cX0_init 7 = .ok (.newarray .int, 2) := by decide +kernel
theorem dX0_init_9 : decode cX0_init 9 = .ok (.putfield 9, 3) := by decide +kernel
theorem dX0_init_12 : decode cX0_init 12 = .ok (.aload_n 0, 1) := by decide +kernel
theorem dX0_init_13 : decode cX0_init 13 = .ok (.bipush 40, 2) := by decide +kernel
theorem dX0_init_15 : decode cX0_init 15 = .ok (.newarray .int, 2) := by decide +kernel
theorem dX0_init_17 : decode cX0_init 17 = .ok (.putfield 13, 3) := by decide +kernel
theorem dX0_init_20 : decode cX0_init 20 = .ok (.aload_n 0, 1) := by decide +kernel
theorem dX0_init_21 : decode cX0_init 21 = .ok (.bipush 40, 2) := by decide +kernel
theorem dX0_init_23 : decode cX0_init 23 = .ok (.newarray .int, 2) := by decide +kernel
theorem dX0_init_25 : decode cX0_init 25 = .ok (.putfield 16, 3) := by decide +kernel
theorem dX0_init_28 : decode cX0_init 28 = .ok (.return_, 1) := by decide +kernel
theorem dX0_note_0 : decode cX0_note 0 = .ok (.aload_n 0, 1) := by decide +kernel
theorem dX0_note_1 : decode cX0_note 1 = .ok (.getfield 19, 3) := by decide +kernel
theorem dX0_note_4 : decode cX0_note 4 = .ok (.bipush 40, 2) := by decide +kernel
theorem dX0_note_6 : decode cX0_note 6 = .ok (.if_icmp .lt 7, 3) := by decide +kernel
theorem dX0_note_9 : decode cX0_note 9 = .ok (.aload_n 0, 1) := by decide +kernel
theorem dX0_note_10 : decode cX0_note 10 = .ok (.invokevirtual 23, 3) := by decide +kernel
theorem dX0_note_13 : decode cX0_note 13 = .ok (.aload_n 0, 1) := by decide +kernel
theorem dX0_note_14 : decode cX0_note 14 = .ok (.getfield 9, 3) := by decide +kernel
theorem dX0_note_17 : decode cX0_note 17 = .ok (.aload_n 0, 1) := by decide +kernel
theorem dX0_note_18 : decode cX0_note 18 = .ok (.getfield 19, 3) := by decide +kernel
theorem dX0_note_21 : decode cX0_note 21 = .ok (.iload_n 1, 1) := by decide +kernel
theorem dX0_note_22 : decode cX0_note 22 = .ok (.iastore, 1) := by decide +kernel
theorem dX0_note_23 : decode cX0_note 23 = .ok (.aload_n 0, 1) := by decide +kernel
theorem dX0_note_24 : decode cX0_note 24 = .ok (.getfield 13, 3) := by decide +kernel
theorem dX0_note_27 : decode cX0_note 27 = .ok (.aload_n 0, 1) := by decide +kernel
theorem dX0_note_28 : decode cX0_note 28 = .ok (.getfield 19, 3) := by decide +kernel
theorem dX0_note_31 : decode cX0_note 31 = .ok (.iload_n 2, 1) := by decide +kernel
theorem dX0_note_32 : decode cX0_note 32 = .ok (.iastore, 1) := by decide +kernel
theorem dX0_note_33 : decode cX0_note 33 = .ok (.aload_n 0, 1) := by decide +kernel
theorem dX0_note_34 : decode cX0_note 34 = .ok (.getfield 16, 3) := by decide +kernel
theorem dX0_note_37 : decode cX0_note 37 = .ok (.aload_n 0, 1) := by decide +kernel
theorem dX0_note_38 : decode cX0_note 38 = .ok (.getfield 19, 3) := by decide +kernel
theorem dX0_note_41 : decode cX0_note 41 = .ok (.iload_n 3, 1) := by decide +kernel
theorem dX0_note_42 : decode cX0_note 42 = .ok (.iastore, 1) := by decide +kernel
theorem dX0_note_43 : decode cX0_note 43 = .ok (.aload_n 0, 1) := by decide +kernel
theorem dX0_note_44 : decode cX0_note 44 = .ok (.dup, 1) := by decide +kernel
theorem dX0_note_45 : decode cX0_note 45 = .ok (.getfield 19, 3) := by decide +kernel
theorem dX0_note_48 : decode cX0_note 48 = .ok (.iconst 1, 1) := by decide +kernel
theorem dX0_note_49 : decode cX0_note 49 = .ok (.iadd, 1) := by decide +kernel
theorem dX0_note_50 : decode cX0_note 50 = .ok (.putfield 19, 3) := by decide +kernel
theorem dX0_note_53 : decode cX0_note 53 = .ok (.aload_n 0, 1) := by decide +kernel
theorem dX0_note_54 : decode cX0_note 54 = .ok (.aload_n 0, 1) := by decide +kernel
theorem dX0_note_55 : decode cX0_note 55 = .ok (.getfield 19, 3) := by decide +kernel
theorem dX0_note_58 : decode cX0_note 58 = .ok (.putfield 26, 3) := by decide +kernel
theorem dX0_note_61 : decode cX0_note 61 = .ok (.return_, 1) := by decide +kernel
theorem dX0_forgetOldest_0 : decode cX0_forgetOldest 0 = .ok (.aload_n 0, 1) := by decide +kernel
theorem dX0_forgetOldest_1 : decode cX0_forgetOldest 1 = .ok (.getfield 9, 3) := by decide +kernel
theorem dX0_forgetOldest_4 : decode cX0_forgetOldest 4 = .ok (.iconst 1, 1) := by decide +kernel
theorem dX0_forgetOldest_5 : decode cX0_forgetOldest 5 = .ok (.aload_n 0, 1) := by decide +kernel
theorem dX0_forgetOldest_6 : decode cX0_forgetOldest 6 = .ok (.getfield 9, 3) := by decide +kernel
theorem dX0_forgetOldest_9 : decode cX0_forgetOldest 9 = .ok (.iconst 0, 1) := by decide +kernel
theorem dX0_forgetOldest_10 : decode cX0_forgetOldest 10 = .ok (.bipush 39, 2) := by decide +kernel
theorem dX0_forgetOldest_12 : decode cX0_forgetOldest 12 = .ok (.invokestatic 29, 3) := by decide +kernel
theorem dX0_forgetOldest_15 : decode cX0_forgetOldest 15 = .ok (.aload_n 0, 1) := by decide +kernel
theorem dX0_forgetOldest_16 : decode cX0_forgetOldest 16 = .ok (.getfield 13, 3) := by decide +kernel
theorem dX0_forgetOldest_19 : decode cX0_forgetOldest 19 = .ok (.iconst 1, 1) := by decide +kernel
theorem dX0_forgetOldest_20 : decode cX0_forgetOldest 20 = .ok (.aload_n 0, 1) := by decide +kernel
theorem dX0_forgetOldest_21 : decode cX0_forgetOldest 21 = .ok (.getfield 13, 3) := by decide +kernel
theorem dX0_forgetOldest_24 : decode cX0_forgetOldest 24 = .ok (.iconst 0, 1) := by decide +kernel
theorem dX0_forgetOldest_25 : decode cX0_forgetOldest 25 = .ok (.bipush 39, 2) := by decide +kernel
theorem dX0_forgetOldest_27 : decode cX0_forgetOldest 27 = .ok (.invokestatic 29, 3) := by decide +kernel
theorem dX0_forgetOldest_30 : decode cX0_forgetOldest 30 = .ok (.aload_n 0, 1) := by decide +kernel
theorem dX0_forgetOldest_31 : decode cX0_forgetOldest 31 = .ok (.getfield 16, 3) := by decide +kernel
theorem dX0_forgetOldest_34 : decode cX0_forgetOldest 34 = .ok (.iconst 1, 1) := by decide +kernel
theorem dX0_forgetOldest_35 : decode cX0_forgetOldest 35 = .ok (.aload_n 0, 1) := by decide +kernel
theorem dX0_forgetOldest_36 : decode cX0_forgetOldest 36 = .ok (.getfield 16, 3) := by decide +kernel
theorem dX0_forgetOldest_39 : decode cX0_forgetOldest 39 = .ok (.iconst 0, 1) := by decide +kernel
theorem dX0_forgetOldest_40 : decode cX0_forgetOldest 40 = .ok (.bipush 39, 2) := by decide +kernel
theorem dX0_forgetOldest_42 : decode cX0_forgetOldest 42 = .ok (.invokestatic 29, 3) := by decide +kernel
theorem dX0_forgetOldest_45 : decode cX0_forgetOldest 45 = .ok (.aload_n 0, 1) := by decide +kernel
theorem dX0_forgetOldest_46 : decode cX0_forgetOldest 46 = .ok (.bipush 39, 2) := by decide +kernel
theorem dX0_forgetOldest_48 : decode cX0_forgetOldest 48 = .ok (.putfield 19, 3) := by decide +kernel
theorem dX0_forgetOldest_51 : decode cX0_forgetOldest 51 = .ok (.return_, 1) := by decide +kernel
theorem dX0_takeBack_0 : decode cX0_takeBack 0 = .ok (.aload_n 0, 1) := by decide +kernel
theorem dX0_takeBack_1 : decode cX0_takeBack 1 = .ok (.getfield 19, 3) := by decide +kernel
theorem dX0_takeBack_4 : decode cX0_takeBack 4 = .ok (.ifCond .gt 5, 3) := by decide +kernel
theorem dX0_takeBack_7 : decode cX0_takeBack 7 = .ok (.iconst 0, 1) := by decide +kernel
theorem dX0_takeBack_8 : decode cX0_takeBack 8 = .ok (.ireturn, 1) := by decide +kernel
theorem dX0_takeBack_9 : decode cX0_takeBack 9 = .ok (.aload_n 0, 1) := by decide +kernel
theorem dX0_takeBack_10 : decode cX0_takeBack 10 = .ok (.dup, 1) := by decide +kernel
theorem dX0_takeBack_11 : decode cX0_takeBack 11 = .ok (.getfield 19, 3) := by decide +kernel
theorem dX0_takeBack_14 : decode cX0_takeBack 14 = .ok (.iconst 1, 1) := by decide +kernel
theorem dX0_takeBack_15 : decode cX0_takeBack 15 = .ok (.isub, 1) := by decide +kernel
theorem dX0_takeBack_16 : decode cX0_takeBack 16 = .ok (.putfield 19, 3) := by decide +kernel
theorem dX0_takeBack_19 : decode cX0_takeBack 19 = .ok (.aload_n 1, 1) := by decide +kernel
theorem dX0_takeBack_20 : decode cX0_takeBack 20 = .ok (.aload_n 0, 1) := by decide +kernel
theorem dX0_takeBack_21 : decode cX0_takeBack 21 = .ok (.getfield 9, 3) := by decide +kernel
theorem dX0_takeBack_24 : decode cX0_takeBack 24 = .ok (.aload_n 0, 1) := by decide +kernel
theorem dX0_takeBack_25 : decode cX0_takeBack 25 = .ok (.getfield 19, 3) := by decide +kernel
theorem dX0_takeBack_28 : decode cX0_takeBack 28 = .ok (.iaload, 1) := by decide +kernel
theorem dX0_takeBack_29 : decode cX0_takeBack 29 = .ok (.aload_n 0, 1) := by decide +kernel
theorem dX0_takeBack_30 : decode cX0_takeBack 30 = .ok (.getfield 13, 3) := by decide +kernel
theorem dX0_takeBack_33 : decode cX0_takeBack 33 = .ok (.aload_n 0, 1) := by decide +kernel
theorem dX0_takeBack_34 : decode cX0_takeBack 34 = .ok (.getfield 19, 3) := by decide +kernel
theorem dX0_takeBack_37 : decode cX0_takeBack 37 = .ok (.iaload, 1) := by decide +kernel
theorem dX0_takeBack_38 : decode cX0_takeBack 38 = .ok (.iastore, 1) := by decide +kernel
theorem dX0_takeBack_39 : decode cX0_takeBack 39 = .ok (.iconst 1, 1) := by decide +kernel
theorem dX0_takeBack_40 : decode cX0_takeBack 40 = .ok (.ireturn, 1) := by decide +kernel
theorem dX0_doAgain_0 : decode cX0_doAgain 0 = .ok (.aload_n 0, 1) := by decide +kernel
theorem dX0_doAgain_1 : decode cX0_doAgain 1 = .ok (.getfield 19, 3) := by decide +kernel
theorem dX0_doAgain_4 : decode cX0_doAgain 4 = .ok (.aload_n 0, 1) := by decide +kernel
theorem dX0_doAgain_5 : decode cX0_doAgain 5 = .ok (.getfield 26, 3) := by decide +kernel
theorem dX0_doAgain_8 : decode cX0_doAgain 8 = .ok (.if_icmp .lt 5, 3) := by decide +kernel
theorem dX0_doAgain_11 : decode cX0_doAgain 11 = .ok (.iconst 0, 1) := by decide +kernel
theorem dX0_doAgain_12 : decode cX0_doAgain 12 = .ok (.ireturn, 1) := by decide +kernel
theorem dX0_doAgain_13 : decode cX0_doAgain 13 = .ok (.aload_n 1, 1) := by decide +kernel
theorem dX0_doAgain_14 : decode cX0_doAgain 14 = .ok (.aload_n 0, 1) := by decide +kernel
theorem dX0_doAgain_15 : decode cX0_doAgain 15 = .ok (.getfield 9, 3) := by decide +kernel
theorem dX0_doAgain_18 : decode cX0_doAgain 18 = .ok (.aload_n 0, 1) := by decide +kernel
theorem dX0_doAgain_19 : decode cX0_doAgain 19 = .ok (.getfield 19, 3) := by decide +kernel
theorem dX0_doAgain_22 : decode cX0_doAgain 22 = .ok (.iaload, 1) := by decide +kernel
theorem dX0_doAgain_23 : decode cX0_doAgain 23 = .ok (.aload_n 0, 1) := by decide +kernel
theorem dX0_doAgain_24 : decode cX0_doAgain 24 = .ok (.getfield 16, 3) := by decide +kernel
theorem dX0_doAgain_27 : decode cX0_doAgain 27 = .ok (.aload_n 0, 1) := by decide +kernel
theorem dX0_doAgain_28 : decode cX0_doAgain 28 = .ok (.getfield 19, 3) := by decide +kernel
theorem dX0_doAgain_31 : decode cX0_doAgain 31 = .ok (.iaload, 1) := by decide +kernel
theorem dX0_doAgain_32 : decode cX0_doAgain 32 = .ok (.iastore, 1) := by decide +kernel
theorem dX0_doAgain_33 : decode cX0_doAgain 33 = .ok (.aload_n 0, 1) := by decide +kernel
theorem dX0_doAgain_34 : decode cX0_doAgain 34 = .ok (.dup, 1) := by decide +kernel
theorem dX0_doAgain_35 : decode cX0_doAgain 35 = .ok (.getfield 19, 3) := by decide +kernel
theorem dX0_doAgain_38 : decode cX0_doAgain 38 = .ok (.iconst 1, 1) := by decide +kernel
theorem dX0_doAgain_39 : decode cX0_doAgain 39 = .ok (.iadd, 1) := by decide +kernel
theorem dX0_doAgain_40 : decode cX0_doAgain 40 = .ok (.putfield 19, 3) := by decide +kernel
theorem dX0_doAgain_43 : decode cX0_doAgain 43 = .ok (.iconst 1, 1) := by decide +kernel
theorem dX0_doAgain_44 : decode cX0_doAgain 44 = .ok (.ireturn, 1) := by decide +kernel
theorem dX1_init_0 : decode cX1_init 0 = .ok (.aload_n 0, 1) := by decide +kernel
theorem dX1_init_1 : decode cX1_init 1 = .ok (.invokespecial 3, 3) := by decide +kernel
theorem dX1_init_4 : decode cX1_init 4 = .ok (.aload_n 0, 1) := by decide +kernel
theorem dX1_init_5 : decode cX1_init 5 = .ok (.sipush 200, 3) := by decide +kernel
theorem dX1_init_8 : decode cX1_init 8 = .ok (.putfield 9, 3) := by decide +kernel
theorem dX1_init_11 : decode cX1_init 11 = .ok (.aload_n 0, 1) := by decide +kernel
theorem dX1_init_12 : decode cX1_init 12 = .ok (.iconst 3, 1) := by decide +kernel
theorem dX1_init_13 : decode cX1_init 13 = .ok (.newarray .int, 2) := by decide +kernel
theorem dX1_init_15 : decode cX1_init 15 = .ok (.putfield 15, 3) := by decide +kernel
theorem dX1_init_18 : decode cX1_init 18 = .ok (.aload_n 0, 1) := by decide +kernel
theorem dX1_init_19 : decode cX1_init 19 = .ok (.iconst 3, 1) := by decide +kernel
theorem dX1_init_20 : decode cX1_init 20 = .ok (.newarray .int, 2) := by decide +kernel
theorem dX1_init_22 : decode cX1_init 22 = .ok (.putfield 19, 3) := by decide +kernel
theorem dX1_init_25 : decode cX1_init 25 = .ok (.aload_n 0, 1) := by decide +kernel
theorem dX1_init_26 : decode cX1_init 26 = .ok (.iconst 3, 1) := by decide +kernel
theorem dX1_init_27 : decode cX1_init 27 = .ok (.newarray .int, 2) := by decide +kernel
theorem dX1_init_29 : decode cX1_init 29 = .ok (.putfield 22, 3) := by decide +kernel
theorem dX1_init_32 : decode cX1_init 32 = .ok (.aload_n 0, 1) := by decide +kernel
theorem dX1_init_33 : decode cX1_init 33 = .ok (.iconst 3, 1) := by decide +kernel
theorem dX1_init_34 : decode cX1_init 34 = .ok (.newarray .int, 2) := by decide +kernel
theorem dX1_init_36 : decode cX1_init 36 = .ok (.putfield 25, 3) := by decide +kernel
theorem dX1_init_39 : decode cX1_init 39 = .ok (.aload_n 0, 1) := by decide +kernel
theorem dX1_init_40 : decode cX1_init 40 = .ok (.iconst 3, 1) := by decide +kernel
theorem dX1_init_41 : decode cX1_init 41 = .ok (.newarray .int, 2) := by decide +kernel
theorem dX1_init_43 : decode cX1_init 43 = .ok (.putfield 28, 3) := by decide +kernel
theorem dX1_init_46 : decode cX1_init 46 = .ok (.aload_n 0, 1) := by decide +kernel
theorem dX1_init_47 : decode cX1_init 47 = .ok (.aload_n 1, 1) := by decide +kernel
theorem dX1_init_48 : decode cX1_init 48 = .ok (.putfield 31, 3) := by decide +kernel
theorem dX1_init_51 : decode cX1_init 51 = .ok (.aload_n 0, 1) := by decide +kernel
theorem dX1_init_52 : decode cX1_init 52 = .ok (.aload_n 2, 1) := by decide +kernel
theorem dX1_init_53 : decode cX1_init 53 = .ok (.putfield 35, 3) := by decide +kernel
theorem dX1_init_56 : decode cX1_init 56 = .ok (.return_, 1) := by decide +kernel
theorem dX1_copy_0 : decode cX1_copy 0 = .ok (.aload_n 0, 1) := by decide +kernel
theorem dX1_copy_1 : decode cX1_copy 1 = .ok (.aload_n 1, 1) := by decide +kernel
theorem dX1_copy_2 : decode cX1_copy 2 = .ok (.invokevirtual 39, 3) := by decide +kernel
theorem dX1_copy_5 : decode cX1_copy 5 = .ok (.aload_n 0, 1) := by decide +kernel
theorem dX1_copy_6 : decode cX1_copy 6 = .ok (.aload_n 1, 1) := by decide +kernel
theorem dX1_copy_7 : decode cX1_copy 7 = .ok (.getfield 43, 3) := by decide +kernel
theorem dX1_copy_10 : decode cX1_copy 10 = .ok (.putfield 43, 3) := by decide +kernel
theorem dX1_copy_13 : decode cX1_copy 13 = .ok (.aload_n 0, 1) := by decide +kernel
theorem dX1_copy_14 : decode cX1_copy 14 = .ok (.aload_n 1, 1) := by decide +kernel
theorem dX1_copy_15 : decode cX1_copy 15 = .ok (.getfield 46, 3) := by decide +kernel
theorem dX1_copy_18 : decode cX1_copy 18 = .ok (.putfield 46, 3) := by decide +kernel
theorem dX1_copy_21 : decode cX1_copy 21 = .ok (.iconst 0, 1) := by decide +kernel
theorem dX1_copy_22 : decode cX1_copy 22 = .ok (.istore_n 2, 1) := by decide +kernel
theorem dX1_copy_23 : decode cX1_copy 23 = .ok (.iload_n 2, 1) := by decide +kernel
theorem dX1_copy_24 : decode cX1_copy 24 = .ok (.iconst 3, 1) := by decide +kernel
theorem dX1_copy_25 : decode cX1_copy 25 = .ok (.if_icmp .ge 45, 3) := by decide +kernel
theorem dX1_copy_28 : decode cX1_copy 28 = .ok (.aload_n 0, 1) := by decide +kernel
theorem dX1_copy_29 : decode cX1_copy 29 = .ok (.getfield 19, 3) := by decide +kernel
theorem dX1_copy_32 : decode cX1_copy 32 = .ok (.iload_n 2, 1) := by decide +kernel
theorem dX1_copy_33 : decode cX1_copy 33 = .ok (.aload_n 1, 1) := by decide +kernel
theorem dX1_copy_34 : decode cX1_copy 34 = .ok (.getfield 19, 3) := by decide +kernel
theorem dX1_copy_37 : decode cX1_copy 37 = .ok (.iload_n 2, 1) := by decide +kernel
theorem dX1_copy_38 : decode cX1_copy 38 = .ok (.iaload, 1) := by decide +kernel
theorem dX1_copy_39 : decode cX1_copy 39 = .ok (.iastore, 1) := by decide +kernel
theorem dX1_copy_40 : decode cX1_copy 40 = .ok (.aload_n 0, 1) := by decide +kernel
theorem dX1_copy_41 : decode cX1_copy 41 = .ok (.getfield 22, 3) := by decide +kernel
theorem dX1_copy_44 : decode cX1_copy 44 = .ok (.iload_n 2, 1) := by decide +kernel
theorem dX1_copy_45 : decode cX1_copy 45 = .ok (.aload_n 1, 1) := by decide +kernel
theorem dX1_copy_46 : decode cX1_copy 46 = .ok (.getfield 22, 3) := by decide +kernel
theorem dX1_copy_49 : decode cX1_copy 49 = .ok (.iload_n 2, 1) := by decide +kernel
theorem dX1_copy_50 : decode cX1_copy 50 = .ok (.iaload, 1) := by decide +kernel
theorem dX1_copy_51 : decode cX1_copy 51 = .ok (.iastore, 1) := by decide +kernel
theorem dX1_copy_52 : decode cX1_copy 52 = .ok (.aload_n 0, 1) := by decide +kernel
theorem dX1_copy_53 : decode cX1_copy 53 = .ok (.getfield 25, 3) := by decide +kernel
theorem dX1_copy_56 : decode cX1_copy 56 = .ok (.iload_n 2, 1) := by decide +kernel
theorem dX1_copy_57 : decode cX1_copy 57 = .ok (.aload_n 1, 1) := by decide +kernel
theorem dX1_copy_58 : decode cX1_copy 58 = .ok (.getfield 25, 3) := by decide +kernel
theorem dX1_copy_61 : decode cX1_copy 61 = .ok (.iload_n 2, 1) := by decide +kernel
theorem dX1_copy_62 : decode cX1_copy 62 = .ok (.iaload, 1) := by decide +kernel
theorem dX1_copy_63 : decode cX1_copy 63 = .ok (.iastore, 1) := by decide +kernel
theorem dX1_copy_64 : decode cX1_copy 64 = .ok (.iinc 2 1, 3) := by decide +kernel
theorem dX1_copy_67 : decode cX1_copy 67 = .ok (.goto (-44), 3) := by decide +kernel
theorem dX1_copy_70 : decode cX1_copy 70 = .ok (.return_, 1) := by decide +kernel
theorem dX1_begin_0 : decode cX1_begin 0 = .ok (.aload_n 0, 1) := by decide +kernel
theorem dX1_begin_1 : decode cX1_begin 1 = .ok (.aload_n 1, 1) := by decide +kernel
theorem dX1_begin_2 : decode cX1_begin 2 = .ok (.getfield 9, 3) := by decide +kernel
theorem dX1_begin_5 : decode cX1_begin 5 = .ok (.putfield 9, 3) := by decide +kernel
theorem dX1_begin_8 : decode cX1_begin 8 = .ok (.aload_n 0, 1) := by decide +kernel
theorem dX1_begin_9 : decode cX1_begin 9 = .ok (.aload_n 1, 1) := by decide +kernel
theorem dX1_begin_10 : decode cX1_begin 10 = .ok (.getfield 49, 3) := by decide +kernel
theorem dX1_begin_13 : decode cX1_begin 13 = .ok (.putfield 49, 3) := by decide +kernel
theorem dX1_begin_16 : decode cX1_begin 16 = .ok (.aload_n 0, 1) := by decide +kernel
theorem dX1_begin_17 : decode cX1_begin 17 = .ok (.aload_n 1, 1) := by decide +kernel
theorem dX1_begin_18 : decode cX1_begin 18 = .ok (.getfield 52, 3) := by decide +kernel
theorem dX1_begin_21 : decode cX1_begin 21 = .ok (.putfield 52, 3) := by decide +kernel
theorem dX1_begin_24 : decode cX1_begin 24 = .ok (.iconst 0, 1) := by decide +kernel
theorem dX1_begin_25 : decode cX1_begin 25 = .ok (.istore_n 2, 1) := by decide +kernel
theorem dX1_begin_26 : decode cX1_begin 26 = .ok (.iload_n 2, 1) := by decide +kernel
theorem dX1_begin_27 : decode cX1_begin 27 = .ok (.iconst 3, 1) := by decide +kernel
theorem dX1_begin_28 : decode cX1_begin 28 = .ok (.if_icmp .ge 42, 3) := by decide +kernel
theorem dX1_begin_31 : decode cX1_begin 31 = .ok (.aload_n 0, 1) := by decide +kernel
theorem dX1_begin_32 : decode cX1_begin 32 = .ok (.getfield 15, 3) := by decide +kernel
theorem dX1_begin_35 : decode cX1_begin 35 = .ok (.iload_n 2, 1) := by decide +kernel
theorem dX1_begin_36 : decode cX1_begin 36 = .ok (.aload_n 1, 1) := by decide +kernel
theorem dX1_begin_37 : decode cX1_begin 37 = .ok (.getfield 15, 3) := by decide +kernel
theorem dX1_begin_40 : decode cX1_begin 40 = .ok (.iload_n 2, 1) := by decide +kernel
theorem dX1_begin_41 : decode cX1_begin 41 = .ok (.iaload, 1) := by decide +kernel
theorem dX1_begin_42 : decode cX1_begin 42 = .ok (.iastore, 1) := by decide +kernel
theorem dX1_begin_43 : decode cX1_begin 43 = .ok (.aload_n 0, 1) := by decide +kernel
theorem dX1_begin_44 : decode cX1_begin 44 = .ok (.getfield 19, 3) := by decide +kernel
theorem dX1_begin_47 : decode cX1_begin 47 = .ok (.iload_n 2, 1) := by decide +kernel
theorem dX1_begin_48 : decode cX1_begin 48 = .ok (.iconst 0, 1) := by decide +kernel
theorem dX1_begin_49 : decode cX1_begin 49 = .ok (.iastore, 1) := by decide +kernel
theorem dX1_begin_50 : decode cX1_begin 50 = .ok (.aload_n 0, 1) := by decide +kernel
theorem dX1_begin_51 : decode cX1_begin 51 = .ok (.getfield 22, 3) := by decide +kernel
theorem dX1_begin_54 : decode cX1_begin 54 = .ok (.iload_n 2, 1) := by decide +kernel
theorem dX1_begin_55 : decode cX1_begin 55 = .ok (.iconst 0, 1) := by decide +kernel
theorem dX1_begin_56 : decode cX1_begin 56 = .ok (.iastore, 1) := by decide +kernel
theorem dX1_begin_57 : decode cX1_begin 57 = .ok (.aload_n 0, 1) := by decide +kernel
theorem dX1_begin_58 : decode cX1_begin 58 = .ok (.getfield 25, 3) := by decide +kernel
theorem dX1_begin_61 : decode cX1_begin 61 = .ok (.iload_n 2, 1) := by decide +kernel
theorem dX1_begin_62 : decode cX1_begin 62 = .ok (.iconst 0, 1) := by decide +kernel
theorem dX1_begin_63 : decode cX1_begin 63 = .ok (.iastore, 1) := by decide +kernel
theorem dX1_begin_64 : decode cX1_begin 64 = .ok (.iinc 2 1, 3) := by decide +kernel
theorem dX1_begin_67 : decode cX1_begin 67 = .ok (.goto (-41), 3) := by decide +kernel
theorem dX1_begin_70 : decode cX1_begin 70 = .ok (.return_, 1) := by decide +kernel
theorem dX1_refill_0 : decode cX1_refill 0 = .ok (.aload_n 0, 1) := by decide +kernel
theorem dX1_refill_1 : decode cX1_refill 1 = .ok (.iload_n 1, 1) := by decide +kernel
theorem dX1_refill_2 : decode cX1_refill 2 = .ok (.putfield 9, 3) := by decide +kernel
theorem dX1_refill_5 : decode cX1_refill 5 = .ok (.aload_n 0, 1) := by decide +kernel
theorem dX1_refill_6 : decode cX1_refill 6 = .ok (.iconst 0, 1) := by decide +kernel
theorem dX1_refill_7 : decode cX1_refill 7 = .ok (.putfield 52, 3) := by decide +kernel
theorem dX1_refill_10 : decode cX1_refill 10 = .ok (.aload_n 0, 1) := by decide +kernel
theorem dX1_refill_11 : decode cX1_refill 11 = .ok (.dup, 1) := by decide +kernel
theorem dX1_refill_12 : decode cX1_refill 12 = .ok (.getfield 46, 3) := by decide +kernel
theorem dX1_refill_15 : decode cX1_refill 15 = .ok (.iconst 1, 1) := by decide +kernel
theorem dX1_refill_16 : decode cX1_refill 16 = .ok (.iadd, 1) := by decide +kernel
theorem dX1_refill_17 : decode cX1_refill 17 = .ok (.putfield 46, 3) := by decide +kernel
theorem dX1_refill_20 : decode cX1_refill 20 = .ok (.iconst 0, 1) := by decide +kernel
theorem dX1_refill_21 : decode cX1_refill 21 = .ok (.istore_n 2, 1) := by decide +kernel
theorem dX1_refill_22 : decode cX1_refill 22 = .ok (.iload_n 2, 1) := by decide +kernel
theorem dX1_refill_23 : decode cX1_refill 23 = .ok (.iconst 3, 1) := by decide +kernel
theorem dX1_refill_24 : decode cX1_refill 24 = .ok (.if_icmp .ge 16, 3) := by decide +kernel
theorem dX1_refill_27 : decode cX1_refill 27 = .ok (.aload_n 0, 1) := by decide +kernel
theorem dX1_refill_28 : decode cX1_refill 28 = .ok (.getfield 15, 3) := by decide +kernel
theorem dX1_refill_31 : decode cX1_refill 31 = .ok (.iload_n 2, 1) := by decide +kernel
theorem dX1_refill_32 : decode cX1_refill 32 = .ok (.iconst 0, 1) := by decide +kernel
theorem dX1_refill_33 : decode cX1_refill 33 = .ok (.iastore, 1) := by decide +kernel
theorem dX1_refill_34 : decode cX1_refill 34 = .ok (.iinc 2 1, 3) := by decide +kernel
theorem dX1_refill_37 : decode cX1_refill 37 = .ok (.goto (-15), 3) := by decide +kernel
theorem dX1_refill_40 : decode cX1_refill 40 = .ok (.return_, 1) := by decide +kernel
theorem dX1_tells_0 : decode cX1_tells 0 = .ok (.iload_n 2, 1) := by decide +kernel
theorem dX1_tells_1 : decode cX1_tells 1 = .ok (.lookupswitch 41 #[(0, 27), (1, 34)], 27) := by decide +kernel
theorem dX1_tells_28 : decode cX1_tells 28 = .ok (.aload_n 0, 1) := by decide +kernel
theorem dX1_tells_29 : decode cX1_tells 29 = .ok (.getfield 19, 3) := by decide +kernel
theorem dX1_tells_32 : decode cX1_tells 32 = .ok (.iload_n 1, 1) := by decide +kernel
theorem dX1_tells_33 : decode cX1_tells 33 = .ok (.iaload, 1) := by decide +kernel
theorem dX1_tells_34 : decode cX1_tells 34 = .ok (.ireturn, 1) := by decide +kernel
theorem dX1_tells_35 : decode cX1_tells 35 = .ok (.aload_n 0, 1) := by decide +kernel
theorem dX1_tells_36 : decode cX1_tells 36 = .ok (.getfield 22, 3) := by decide +kernel
theorem dX1_tells_39 : decode cX1_tells 39 = .ok (.iload_n 1, 1) := by decide +kernel
theorem dX1_tells_40 : decode cX1_tells 40 = .ok (.iaload, 1) := by decide +kernel
theorem dX1_tells_41 : decode cX1_tells 41 = .ok (.ireturn, 1) := by decide +kernel
theorem dX1_tells_42 : decode cX1_tells 42 = .ok (.aload_n 0, 1) := by decide +kernel
theorem dX1_tells_43 : decode cX1_tells 43 = .ok (.getfield 25, 3) := by decide +kernel
theorem dX1_tells_46 : decode cX1_tells 46 = .ok (.iload_n 1, 1) := by decide +kernel
theorem dX1_tells_47 : decode cX1_tells 47 = .ok (.iaload, 1) := by decide +kernel
theorem dX1_tells_48 : decode cX1_tells 48 = .ok (.ireturn, 1) := by decide +kernel
theorem dX1_pass_0 : decode cX1_pass 0 = .ok (.iconst 0, 1) := by decide +kernel
theorem dX1_pass_1 : decode cX1_pass 1 = .ok (.istore 4, 2) := by decide +kernel
theorem dX1_pass_3 : decode cX1_pass 3 = .ok (.iconst 0, 1) := by decide +kernel
theorem dX1_pass_4 : decode cX1_pass 4 = .ok (.istore 5, 2) := by decide +kernel
theorem dX1_pass_6 : decode cX1_pass 6 = .ok (.iload 5, 2) := by decide +kernel
theorem dX1_pass_8 : decode cX1_pass 8 = .ok (.aload_n 0, 1) := by decide +kernel
theorem dX1_pass_9 : decode cX1_pass 9 = .ok (.getfield 31, 3) := by decide +kernel
theorem dX1_pass_12 : decode cX1_pass 12 = .ok (.getfield 55, 3) := by decide +kernel
theorem dX1_pass_15 : decode cX1_pass 15 = .ok (.if_icmp .ge 95, 3) := by decide +kernel
theorem dX1_pass_18 : decode cX1_pass 18 = .ok (.iconst 1, 1) := by decide +kernel
theorem dX1_pass_19 : decode cX1_pass 19 = .ok (.iload 5, 2) := by decide +kernel
theorem dX1_pass_21 : decode cX1_pass 21 = .ok (.ishl, 1) := by decide +kernel
theorem dX1_pass_22 : decode cX1_pass 22 = .ok (.istore 6, 2) := by decide +kernel
theorem dX1_pass_24 : decode cX1_pass 24 = .ok (.aload_n 0, 1) := by decide +kernel
theorem dX1_pass_25 : decode cX1_pass 25 = .ok (.getfield 28, 3) := by decide +kernel
theorem dX1_pass_28 : decode cX1_pass 28 = .ok (.iload 5, 2) := by decide +kernel
theorem dX1_pass_30 : decode cX1_pass 30 = .ok (.iconst 0, 1) := by decide +kernel
theorem dX1_pass_31 : decode cX1_pass 31 = .ok (.iastore, 1) := by decide +kernel
theorem dX1_pass_32 : decode cX1_pass 32 = .ok (.iload_n 1, 1) := by decide +kernel
theorem dX1_pass_33 : decode cX1_pass 33 = .ok (.iload 6, 2) := by decide +kernel
theorem dX1_pass_35 : decode cX1_pass 35 = .ok (.iand, 1) := by decide +kernel
theorem dX1_pass_36 : decode cX1_pass 36 = .ok (.ifCond .eq 68, 3) := by decide +kernel
theorem dX1_pass_39 : decode cX1_pass 39 = .ok (.aload_n 0, 1) := by decide +kernel
theorem dX1_pass_40 : decode cX1_pass 40 = .ok (.getfield 31, 3) := by decide +kernel
theorem dX1_pass_43 : decode cX1_pass 43 = .ok (.iload 5, 2) := by decide +kernel
theorem dX1_pass_45 : decode cX1_pass 45 = .ok (.aload_n 0, 1) := by decide +kernel
theorem dX1_pass_46 : decode cX1_pass 46 = .ok (.getfield 52, 3) := by decide +kernel
theorem dX1_pass_49 : decode cX1_pass 49 = .ok (.iload_n 2, 1) := by decide +kernel
theorem dX1_pass_50 : decode cX1_pass 50 = .ok (.iload 6, 2) := by decide +kernel
theorem dX1_pass_52 : decode cX1_pass 52 = .ok (.iand, 1) := by decide +kernel
theorem dX1_pass_53 : decode cX1_pass 53 = .ok (.ifCond .eq 7, 3) := by decide +kernel
theorem dX1_pass_56 : decode cX1_pass 56 = .ok (.iconst 1, 1) := by decide +kernel
theorem dX1_pass_57 : decode cX1_pass 57 = .ok (.goto 4, 3) := by decide +kernel
theorem dX1_pass_60 : decode cX1_pass 60 = .ok (.iconst 0, 1) := by decide +kernel
theorem dX1_pass_61 : decode cX1_pass 61 = .ok (.invokevirtual 60, 3) := by decide +kernel
theorem dX1_pass_64 : decode cX1_pass 64 = .ok (.ifCond .eq 40, 3) := by decide +kernel
theorem dX1_pass_67 : decode cX1_pass 67 = .ok (.aload_n 0, 1) := by decide +kernel
theorem dX1_pass_68 : decode cX1_pass 68 = .ok (.getfield 28, 3) := by decide +kernel
theorem dX1_pass_71 : decode cX1_pass 71 = .ok (.iload 5, 2) := by decide +kernel
theorem dX1_pass_73 : decode cX1_pass 73 = .ok (.aload_n 0, 1) := by decide +kernel
theorem dX1_pass_74 : decode cX1_pass 74 = .ok (.iload 5, 2) := by decide +kernel
theorem dX1_pass_76 : decode cX1_pass 76 = .ok (.iload_n 3, 1) := by decide +kernel
theorem dX1_pass_77 : decode cX1_pass 77 = .ok (.iload 6, 2) := by decide +kernel
theorem dX1_pass_79 : decode cX1_pass 79 = .ok (.iand, 1) := by decide +kernel
theorem dX1_pass_80 : decode cX1_pass 80 = .ok (.ifCond .eq 7, 3) := by decide +kernel
theorem dX1_pass_83 : decode cX1_pass 83 = .ok (.iconst 1, 1) := by decide +kernel
theorem dX1_pass_84 : decode cX1_pass 84 = .ok (.goto 4, 3) := by decide +kernel
theorem dX1_pass_87 : decode cX1_pass 87 = .ok (.iconst 0, 1) := by decide +kernel
theorem dX1_pass_88 : decode cX1_pass 88 = .ok (.invokevirtual 64, 3) := by decide +kernel
theorem dX1_pass_91 : decode cX1_pass 91 = .ok (.iastore, 1) := by decide +kernel
theorem dX1_pass_92 : decode cX1_pass 92 = .ok (.iload 4, 2) := by decide +kernel
theorem dX1_pass_94 : decode cX1_pass 94 = .ok (.aload_n 0, 1) := by decide +kernel
theorem dX1_pass_95 : decode cX1_pass 95 = .ok (.getfield 28, 3) := by decide +kernel
theorem dX1_pass_98 : decode cX1_pass 98 = .ok (.iload 5, 2) := by decide +kernel
theorem dX1_pass_100 : decode cX1_pass 100 = .ok (.iaload, 1) := by decide +kernel
theorem dX1_pass_101 : decode cX1_pass 101 = .ok (.iadd, 1) := by decide +kernel
theorem dX1_pass_102 : decode cX1_pass 102 = .ok (.istore 4, 2) := by decide +kernel
theorem dX1_pass_104 : decode cX1_pass 104 = .ok (.iinc 5 1, 3) := by decide +kernel
theorem dX1_pass_107 : decode cX1_pass 107 = .ok (.goto (-101), 3) := by decide +kernel
theorem dX1_pass_110 : decode cX1_pass 110 = .ok (.iload 4, 2) := by decide +kernel
theorem dX1_pass_112 : decode cX1_pass 112 = .ok (.ifCond .le 9, 3) := by decide +kernel
theorem dX1_pass_115 : decode cX1_pass 115 = .ok (.aload_n 0, 1) := by decide +kernel
theorem dX1_pass_116 : decode cX1_pass 116 = .ok (.iload 4, 2) := by decide +kernel
theorem dX1_pass_118 : decode cX1_pass 118 = .ok (.invokevirtual 68, 3) := by decide +kernel
theorem dX1_pass_121 : decode cX1_pass 121 = .ok (.aload_n 0, 1) := by decide +kernel
theorem dX1_pass_122 : decode cX1_pass 122 = .ok (.invokevirtual 72, 3) := by decide +kernel
theorem dX1_pass_125 : decode cX1_pass 125 = .ok (.aload_n 0, 1) := by decide +kernel
theorem dX1_pass_126 : decode cX1_pass 126 = .ok (.dup, 1) := by decide +kernel
theorem dX1_pass_127 : decode cX1_pass 127 = .ok (.getfield 52, 3) := by decide +kernel
theorem dX1_pass_130 : decode cX1_pass 130 = .ok (.iconst 1, 1) := by decide +kernel
theorem dX1_pass_131 : decode cX1_pass 131 = .ok (.iadd, 1) := by decide +kernel
theorem dX1_pass_132 : decode cX1_pass 132 = .ok (.putfield 52, 3) := by decide +kernel
theorem dX1_pass_135 : decode cX1_pass 135 = .ok (.return_, 1) := by decide +kernel
theorem dX1_tries_0 : decode cX1_tries 0 = .ok (.aload_n 0, 1) := by decide +kernel
theorem dX1_tries_1 : decode cX1_tries 1 = .ok (.getfield 15, 3) := by decide +kernel
theorem dX1_tries_4 : decode cX1_tries 4 = .ok (.iload_n 1, 1) := by decide +kernel
theorem dX1_tries_5 : decode cX1_tries 5 = .ok (.iaload, 1) := by decide +kernel
theorem dX1_tries_6 : decode cX1_tries 6 = .ok (.istore_n 3, 1) := by decide +kernel
theorem dX1_tries_7 : decode cX1_tries 7 = .ok (.aload_n 0, 1) := by decide +kernel
theorem dX1_tries_8 : decode cX1_tries 8 = .ok (.getfield 15, 3) := by decide +kernel
theorem dX1_tries_11 : decode cX1_tries 11 = .ok (.iload_n 1, 1) := by decide +kernel
theorem dX1_tries_12 : decode cX1_tries 12 = .ok (.iload_n 3, 1) := by decide +kernel
theorem dX1_tries_13 : decode cX1_tries 13 = .ok (.iconst 1, 1) := by decide +kernel
theorem dX1_tries_14 : decode cX1_tries 14 = .ok (.iadd, 1) := by decide +kernel
theorem dX1_tries_15 : decode cX1_tries 15 = .ok (.iastore, 1) := by decide +kernel
theorem dX1_tries_16 : decode cX1_tries 16 = .ok (.iload_n 2, 1) := by decide +kernel
theorem dX1_tries_17 : decode cX1_tries 17 = .ok (.ifCond .eq 5, 3) := by decide +kernel
theorem dX1_tries_20 : decode cX1_tries 20 = .ok (.iconst 0, 1) := by decide +kernel
theorem dX1_tries_21 : decode cX1_tries 21 = .ok (.ireturn, 1) := by decide +kernel
theorem dX1_tries_22 : decode cX1_tries 22 = .ok (.aload_n 0, 1) := by decide +kernel
theorem dX1_tries_23 : decode cX1_tries 23 = .ok (.getfield 9, 3) := by decide +kernel
theorem dX1_tries_26 : decode cX1_tries 26 = .ok (.aload_n 0, 1) := by decide +kernel
theorem dX1_tries_27 : decode cX1_tries 27 = .ok (.getfield 31, 3) := by decide +kernel
theorem dX1_tries_30 : decode cX1_tries 30 = .ok (.iload_n 1, 1) := by decide +kernel
theorem dX1_tries_31 : decode cX1_tries 31 = .ok (.iconst 2, 1) := by decide +kernel
theorem dX1_tries_32 : decode cX1_tries 32 = .ok (.invokevirtual 75, 3) := by decide +kernel
theorem dX1_tries_35 : decode cX1_tries 35 = .ok (.isub, 1) := by decide +kernel
theorem dX1_tries_36 : decode cX1_tries 36 = .ok (.istore 4, 2) := by decide +kernel
theorem dX1_tries_38 : decode cX1_tries 38 = .ok (.iload 4, 2) := by decide +kernel
theorem dX1_tries_40 : decode cX1_tries 40 = .ok (.ifCond .gt 15, 3) := by decide +kernel
theorem dX1_tries_43 : decode cX1_tries 43 = .ok (.aload_n 0, 1) := by decide +kernel
theorem dX1_tries_44 : decode cX1_tries 44 = .ok (.getfield 25, 3) := by decide +kernel
theorem dX1_tries_47 : decode cX1_tries 47 = .ok (.iload_n 1, 1) := by decide +kernel
theorem dX1_tries_48 : decode cX1_tries 48 = .ok (.dup2, 1) := by decide +kernel
theorem dX1_tries_49 : decode cX1_tries 49 = .ok (.iaload, 1) := by decide +kernel
theorem dX1_tries_50 : decode cX1_tries 50 = .ok (.iconst 1, 1) := by decide +kernel
theorem dX1_tries_51 : decode cX1_tries 51 = .ok (.iadd, 1) := by decide +kernel
theorem dX1_tries_52 : decode cX1_tries 52 = .ok (.iastore, 1) := by decide +kernel
theorem dX1_tries_53 : decode cX1_tries 53 = .ok (.iconst 0, 1) := by decide +kernel
theorem dX1_tries_54 : decode cX1_tries 54 = .ok (.ireturn, 1) := by decide +kernel
theorem dX1_tries_55 : decode cX1_tries 55 = .ok (.aload_n 0, 1) := by decide +kernel
theorem dX1_tries_56 : decode cX1_tries 56 = .ok (.getfield 35, 3) := by decide +kernel
theorem dX1_tries_59 : decode cX1_tries 59 = .ok (.iload_n 1, 1) := by decide +kernel
theorem dX1_tries_60 : decode cX1_tries 60 = .ok (.aload_n 0, 1) := by decide +kernel
theorem dX1_tries_61 : decode cX1_tries 61 = .ok (.getfield 9, 3) := by decide +kernel
theorem dX1_tries_64 : decode cX1_tries 64 = .ok (.iload_n 3, 1) := by decide +kernel
theorem dX1_tries_65 : decode cX1_tries 65 = .ok (.invokevirtual 79, 3) := by decide +kernel
theorem dX1_tries_68 : decode cX1_tries 68 = .ok (.istore 5, 2) := by decide +kernel
theorem dX1_tries_70 : decode cX1_tries 70 = .ok (.aload_n 0, 1) := by decide +kernel
theorem dX1_tries_71 : decode cX1_tries 71 = .ok (.getfield 9, 3) := by decide +kernel
theorem dX1_tries_74 : decode cX1_tries 74 = .ok (.aload_n 0, 1) := by decide +kernel
theorem dX1_tries_75 : decode cX1_tries 75 = .ok (.getfield 31, 3) := by decide +kernel
theorem dX1_tries_78 : decode cX1_tries 78 = .ok (.iload_n 1, 1) := by decide +kernel
theorem dX1_tries_79 : decode cX1_tries 79 = .ok (.bipush 6, 2) := by decide +kernel
theorem dX1_tries_81 : decode cX1_tries 81 = .ok (.invokevirtual 75, 3) := by decide +kernel
theorem dX1_tries_84 : decode cX1_tries 84 = .ok (.if_icmp .ge 9, 3) := by decide +kernel
theorem dX1_tries_87 : decode cX1_tries 87 = .ok (.iload 5, 2) := by decide +kernel
theorem dX1_tries_89 : decode cX1_tries 89 = .ok (.iconst 2, 1) := by decide +kernel
theorem dX1_tries_90 : decode cX1_tries 90 = .ok (.idiv, 1) := by decide +kernel
theorem dX1_tries_91 : decode cX1_tries 91 = .ok (.istore 5, 2) := by decide +kernel
theorem dX1_tries_93 : decode cX1_tries 93 = .ok (.iload 5, 2) := by decide +kernel
theorem dX1_tries_95 : decode cX1_tries 95 = .ok (.iload 4, 2) := by decide +kernel
theorem dX1_tries_97 : decode cX1_tries 97 = .ok (.invokestatic 85, 3) := by decide +kernel
theorem dX1_tries_100 : decode cX1_tries 100 = .ok (.ireturn, 1) := by decide +kernel
theorem dX1_share_0 : decode cX1_share 0 = .ok (.aload_n 0, 1) := by decide +kernel
theorem dX1_share_1 : decode cX1_share 1 = .ok (.getfield 9, 3) := by decide +kernel
theorem dX1_share_4 : decode cX1_share 4 = .ok (.istore_n 2, 1) := by decide +kernel
theorem dX1_share_5 : decode cX1_share 5 = .ok (.iconst 0, 1) := by decide +kernel
theorem dX1_share_6 : decode cX1_share 6 = .ok (.istore_n 3, 1) := by decide +kernel
theorem dX1_share_7 : decode cX1_share 7 = .ok (.iload_n 3, 1) := by decide +kernel
theorem dX1_share_8 : decode cX1_share 8 = .ok (.aload_n 0, 1) := by decide +kernel
theorem dX1_share_9 : decode cX1_share 9 = .ok (.getfield 31, 3) := by decide +kernel
theorem dX1_share_12 : decode cX1_share 12 = .ok (.getfield 55, 3) := by decide +kernel
theorem dX1_share_15 : decode cX1_share 15 = .ok (.if_icmp .ge 72, 3) := by decide +kernel
theorem dX1_share_18 : decode cX1_share 18 = .ok (.aload_n 0, 1) := by decide +kernel
theorem dX1_share_19 : decode cX1_share 19 = .ok (.getfield 28, 3) := by decide +kernel
theorem dX1_share_22 : decode cX1_share 22 = .ok (.iload_n 3, 1) := by decide +kernel
theorem dX1_share_23 : decode cX1_share 23 = .ok (.iaload, 1) := by decide +kernel
theorem dX1_share_24 : decode cX1_share 24 = .ok (.istore 4, 2) := by decide +kernel
theorem dX1_share_26 : decode cX1_share 26 = .ok (.iload_n 1, 1) := by decide +kernel
theorem dX1_share_27 : decode cX1_share 27 = .ok (.iload_n 2, 1) := by decide +kernel
theorem dX1_share_28 : decode cX1_share 28 = .ok (.if_icmp .le 11, 3) := by decide +kernel
theorem dX1_share_31 : decode cX1_share 31 = .ok (.iload 4, 2) := by decide +kernel
theorem dX1_share_33 : decode cX1_share 33 = .ok (.iload_n 2, 1) := by decide +kernel
theorem dX1_share_34 : decode cX1_share 34 = .ok (.imul, 1) := by decide +kernel
theorem dX1_share_35 : decode cX1_share 35 = .ok (.iload_n 1, 1) := by decide +kernel
theorem dX1_share_36 : decode cX1_share 36 = .ok (.idiv, 1) := by decide +kernel
theorem dX1_share_37 : decode cX1_share 37 = .ok (.istore 4, 2) := by decide +kernel
theorem dX1_share_39 : decode cX1_share 39 = .ok (.aload_n 0, 1) := by decide +kernel
theorem dX1_share_40 : decode cX1_share 40 = .ok (.getfield 19, 3) := by decide +kernel
theorem dX1_share_43 : decode cX1_share 43 = .ok (.iload_n 3, 1) := by decide +kernel
theorem dX1_share_44 : decode cX1_share 44 = .ok (.dup2, 1) := by decide +kernel
theorem dX1_share_45 : decode cX1_share 45 = .ok (.iaload, 1) := by decide +kernel
theorem dX1_share_46 : decode cX1_share 46 = .ok (.iload 4, 2) := by decide +kernel
theorem dX1_share_48 : decode cX1_share 48 = .ok (.iadd, 1) := by decide +kernel
theorem dX1_share_49 : decode cX1_share 49 = .ok (.iastore, 1) := by decide +kernel
theorem dX1_share_50 : decode cX1_share 50 = .ok (.aload_n 0, 1) := by decide +kernel
theorem dX1_share_51 : decode cX1_share 51 = .ok (.getfield 22, 3) := by decide +kernel
theorem dX1_share_54 : decode cX1_share 54 = .ok (.iload_n 3, 1) := by decide +kernel
theorem dX1_share_55 : decode cX1_share 55 = .ok (.dup2, 1) := by decide +kernel
theorem dX1_share_56 : decode cX1_share 56 = .ok (.iaload, 1) := by decide +kernel
theorem dX1_share_57 : decode cX1_share 57 = .ok (.iload 4, 2) := by decide +kernel
theorem dX1_share_59 : decode cX1_share 59 = .ok (.aload_n 0, 1) := by decide +kernel
theorem dX1_share_60 : decode cX1_share 60 = .ok (.getfield 31, 3) := by decide +kernel
theorem dX1_share_63 : decode cX1_share 63 = .ok (.iload_n 3, 1) := by decide +kernel
theorem dX1_share_64 : decode cX1_share 64 = .ok (.invokevirtual 90, 3) := by decide +kernel
theorem dX1_share_67 : decode cX1_share 67 = .ok (.imul, 1) := by decide +kernel
theorem dX1_share_68 : decode cX1_share 68 = .ok (.iadd, 1) := by decide +kernel
theorem dX1_share_69 : decode cX1_share 69 = .ok (.iastore, 1) := by decide +kernel
theorem dX1_share_70 : decode cX1_share 70 = .ok (.aload_n 0, 1) := by decide +kernel
theorem dX1_share_71 : decode cX1_share 71 = .ok (.dup, 1) := by decide +kernel
theorem dX1_share_72 : decode cX1_share 72 = .ok (.getfield 9, 3) := by decide +kernel
theorem dX1_share_75 : decode cX1_share 75 = .ok (.iload 4, 2) := by decide +kernel
theorem dX1_share_77 : decode cX1_share 77 = .ok (.isub, 1) := by decide +kernel
theorem dX1_share_78 : decode cX1_share 78 = .ok (.putfield 9, 3) := by decide +kernel
theorem dX1_share_81 : decode cX1_share 81 = .ok (.iinc 3 1, 3) := by decide +kernel
theorem dX1_share_84 : decode cX1_share 84 = .ok (.goto (-77), 3) := by decide +kernel
theorem dX1_share_87 : decode cX1_share 87 = .ok (.return_, 1) := by decide +kernel
theorem dX1_melt_0 : decode cX1_melt 0 = .ok (.aload_n 0, 1) := by decide +kernel
theorem dX1_melt_1 : decode cX1_melt 1 = .ok (.getfield 49, 3) := by decide +kernel
theorem dX1_melt_4 : decode cX1_melt 4 = .ok (.ifCond .le 51, 3) := by decide +kernel
theorem dX1_melt_7 : decode cX1_melt 7 = .ok (.aload_n 0, 1) := by decide +kernel
theorem dX1_melt_8 : decode cX1_melt 8 = .ok (.getfield 31, 3) := by decide +kernel
theorem dX1_melt_11 : decode cX1_melt 11 = .ok (.bipush 8, 2) := by decide +kernel
theorem dX1_melt_13 : decode cX1_melt 13 = .ok (.invokevirtual 94, 3) := by decide +kernel
theorem dX1_melt_16 : decode cX1_melt 16 = .ok (.aload_n 0, 1) := by decide +kernel
theorem dX1_melt_17 : decode cX1_melt 17 = .ok (.getfield 49, 3) := by decide +kernel
theorem dX1_melt_20 : decode cX1_melt 20 = .ok (.invokestatic 85, 3) := by decide +kernel
theorem dX1_melt_23 : decode cX1_melt 23 = .ok (.sipush 999, 3) := by decide +kernel
theorem dX1_melt_26 : decode cX1_melt 26 = .ok (.aload_n 0, 1) := by decide +kernel
theorem dX1_melt_27 : decode cX1_melt 27 = .ok (.getfield 9, 3) := by decide +kernel
theorem dX1_melt_30 : decode cX1_melt 30 = .ok (.isub, 1) := by decide +kernel
theorem dX1_melt_31 : decode cX1_melt 31 = .ok (.invokestatic 85, 3) := by decide +kernel
theorem dX1_melt_34 : decode cX1_melt 34 = .ok (.istore_n 1, 1) := by decide +kernel
theorem dX1_melt_35 : decode cX1_melt 35 = .ok (.aload_n 0, 1) := by decide +kernel
theorem dX1_melt_36 : decode cX1_melt 36 = .ok (.dup, 1) := by decide +kernel
theorem dX1_melt_37 : decode cX1_melt 37 = .ok (.getfield 9, 3) := by decide +kernel
theorem dX1_melt_40 : decode cX1_melt 40 = .ok (.iload_n 1, 1) := by decide +kernel
theorem dX1_melt_41 : decode cX1_melt 41 = .ok (.iadd, 1) := by decide +kernel
theorem dX1_melt_42 : decode cX1_melt 42 = .ok (.putfield 9, 3) := by decide +kernel
theorem dX1_melt_45 : decode cX1_melt 45 = .ok (.aload_n 0, 1) := by decide +kernel
theorem dX1_melt_46 : decode cX1_melt 46 = .ok (.dup, 1) := by decide +kernel
theorem dX1_melt_47 : decode cX1_melt 47 = .ok (.getfield 49, 3) := by decide +kernel
theorem dX1_melt_50 : decode cX1_melt 50 = .ok (.iload_n 1, 1) := by decide +kernel
theorem dX1_melt_51 : decode cX1_melt 51 = .ok (.isub, 1) := by decide +kernel
theorem dX1_melt_52 : decode cX1_melt 52 = .ok (.putfield 49, 3) := by decide +kernel
theorem dX1_melt_55 : decode cX1_melt 55 = .ok (.return_, 1) := by decide +kernel
theorem dX1_isOver_0 : decode cX1_isOver 0 = .ok (.aload_n 0, 1) := by decide +kernel
theorem dX1_isOver_1 : decode cX1_isOver 1 = .ok (.getfield 49, 3) := by decide +kernel
theorem dX1_isOver_4 : decode cX1_isOver 4 = .ok (.ifCond .le 5, 3) := by decide +kernel
theorem dX1_isOver_7 : decode cX1_isOver 7 = .ok (.iconst 0, 1) := by decide +kernel
theorem dX1_isOver_8 : decode cX1_isOver 8 = .ok (.ireturn, 1) := by decide +kernel
theorem dX1_isOver_9 : decode cX1_isOver 9 = .ok (.iconst 0, 1) := by decide +kernel
theorem dX1_isOver_10 : decode cX1_isOver 10 = .ok (.istore_n 1, 1) := by decide +kernel
theorem dX1_isOver_11 : decode cX1_isOver 11 = .ok (.iload_n 1, 1) := by decide +kernel
theorem dX1_isOver_12 : decode cX1_isOver 12 = .ok (.aload_n 0, 1) := by decide +kernel
theorem dX1_isOver_13 : decode cX1_isOver 13 = .ok (.getfield 31, 3) := by decide +kernel
theorem dX1_isOver_16 : decode cX1_isOver 16 = .ok (.getfield 55, 3) := by decide +kernel
theorem dX1_isOver_19 : decode cX1_isOver 19 = .ok (.if_icmp .ge 44, 3) := by decide +kernel
theorem dX1_isOver_22 : decode cX1_isOver 22 = .ok (.aload_n 0, 1) := by decide +kernel
theorem dX1_isOver_23 : decode cX1_isOver 23 = .ok (.getfield 52, 3) := by decide +kernel
theorem dX1_isOver_26 : decode cX1_isOver 26 = .ok (.aload_n 0, 1) := by decide +kernel
theorem dX1_isOver_27 : decode cX1_isOver 27 = .ok (.getfield 31, 3) := by decide +kernel
theorem dX1_isOver_30 : decode cX1_isOver 30 = .ok (.iload_n 1, 1) := by decide +kernel
theorem dX1_isOver_31 : decode cX1_isOver 31 = .ok (.bipush 7, 2) := by decide +kernel
theorem dX1_isOver_33 : decode cX1_isOver 33 = .ok (.invokevirtual 75, 3) := by decide +kernel
theorem dX1_isOver_36 : decode cX1_isOver 36 = .ok (.if_icmp .ge 21, 3) := by decide +kernel
theorem dX1_isOver_39 : decode cX1_isOver 39 = .ok (.aload_n 0, 1) := by decide +kernel
theorem dX1_isOver_40 : decode cX1_isOver 40 = .ok (.getfield 9, 3) := by decide +kernel
theorem dX1_isOver_43 : decode cX1_isOver 43 = .ok (.aload_n 0, 1) := by decide +kernel
theorem dX1_isOver_44 : decode cX1_isOver 44 = .ok (.getfield 31, 3) := by decide +kernel
theorem dX1_isOver_47 : decode cX1_isOver 47 = .ok (.iload_n 1, 1) := by decide +kernel
theorem dX1_isOver_48 : decode cX1_isOver 48 = .ok (.iconst 2, 1) := by decide +kernel
theorem dX1_isOver_49 : decode cX1_isOver 49 = .ok (.invokevirtual 75, 3) := by decide +kernel
theorem dX1_isOver_52 : decode cX1_isOver 52 = .ok (.if_icmp .le 5, 3) := by decide +kernel
theorem dX1_isOver_55 : decode cX1_isOver 55 = .ok (.iconst 0, 1) := by decide +kernel
theorem dX1_isOver_56 : decode cX1_isOver 56 = .ok (.ireturn, 1) := by decide +kernel
theorem dX1_isOver_57 : decode cX1_isOver 57 = .ok (.iinc 1 1, 3) := by decide +kernel
theorem dX1_isOver_60 : decode cX1_isOver 60 = .ok (.goto (-49), 3) := by decide +kernel
theorem dX1_isOver_63 : decode cX1_isOver 63 = .ok (.iconst 1, 1) := by decide +kernel
theorem dX1_isOver_64 : decode cX1_isOver 64 = .ok (.ireturn, 1) := by decide +kernel
theorem dX1_mostGot_0 : decode cX1_mostGot 0 = .ok (.iconst 0, 1) := by decide +kernel
theorem dX1_mostGot_1 : decode cX1_mostGot 1 = .ok (.istore_n 1, 1) := by decide +kernel
theorem dX1_mostGot_2 : decode cX1_mostGot 2 = .ok (.iconst 1, 1) := by decide +kernel
theorem dX1_mostGot_3 : decode cX1_mostGot 3 = .ok (.istore_n 2, 1) := by decide +kernel
theorem dX1_mostGot_4 : decode cX1_mostGot 4 = .ok (.iload_n 2, 1) := by decide +kernel
theorem dX1_mostGot_5 : decode cX1_mostGot 5 = .ok (.aload_n 0, 1) := by decide +kernel
theorem dX1_mostGot_6 : decode cX1_mostGot 6 = .ok (.getfield 31, 3) := by decide +kernel
theorem dX1_mostGot_9 : decode cX1_mostGot 9 = .ok (.getfield 55, 3) := by decide +kernel
theorem dX1_mostGot_12 : decode cX1_mostGot 12 = .ok (.if_icmp .ge 26, 3) := by decide +kernel
theorem dX1_mostGot_15 : decode cX1_mostGot 15 = .ok (.aload_n 0, 1) := by decide +kernel
theorem dX1_mostGot_16 : decode cX1_mostGot 16 = .ok (.getfield 19, 3) := by decide +kernel
theorem dX1_mostGot_19 : decode cX1_mostGot 19 = .ok (.iload_n 2, 1) := by decide +kernel
theorem dX1_mostGot_20 : decode cX1_mostGot 20 = .ok (.iaload, 1) := by decide +kernel
theorem dX1_mostGot_21 : decode cX1_mostGot 21 = .ok (.aload_n 0, 1) := by decide +kernel
theorem dX1_mostGot_22 : decode cX1_mostGot 22 = .ok (.getfield 19, 3) := by decide +kernel
theorem dX1_mostGot_25 : decode cX1_mostGot 25 = .ok (.iload_n 1, 1) := by decide +kernel
theorem dX1_mostGot_26 : decode cX1_mostGot 26 = .ok (.iaload, 1) := by decide +kernel
theorem dX1_mostGot_27 : decode cX1_mostGot 27 = .ok (.if_icmp .le 5, 3) := by decide +kernel
theorem dX1_mostGot_30 : decode cX1_mostGot 30 = .ok (.iload_n 2, 1) := by decide +kernel
theorem dX1_mostGot_31 : decode cX1_mostGot 31 = .ok (.istore_n 1, 1) := by decide +kernel
theorem dX1_mostGot_32 : decode cX1_mostGot 32 = .ok (.iinc 2 1, 3) := by decide +kernel
theorem dX1_mostGot_35 : decode cX1_mostGot 35 = .ok (.goto (-31), 3) := by decide +kernel
theorem dX1_mostGot_38 : decode cX1_mostGot 38 = .ok (.iload_n 1, 1) := by decide +kernel
theorem dX1_mostGot_39 : decode cX1_mostGot 39 = .ok (.ireturn, 1) := by decide +kernel
theorem dX1_leastGot_0 : decode cX1_leastGot 0 = .ok (.aload_n 0, 1) := by decide +kernel
theorem dX1_leastGot_1 : decode cX1_leastGot 1 = .ok (.getfield 19, 3) := by decide +kernel
theorem dX1_leastGot_4 : decode cX1_leastGot 4 = .ok (.iconst 0, 1) := by decide +kernel
theorem dX1_leastGot_5 : decode cX1_leastGot 5 = .ok (.iaload, 1) := by decide +kernel
theorem dX1_leastGot_6 : decode cX1_leastGot 6 = .ok (.istore_n 1, 1) := by decide +kernel
theorem dX1_leastGot_7 : decode cX1_leastGot 7 = .ok (.iconst 1, 1) := by decide +kernel
theorem dX1_leastGot_8 : decode cX1_leastGot 8 = .ok (.istore_n 2, 1) := by decide +kernel
theorem dX1_leastGot_9 : decode cX1_leastGot 9 = .ok (.iload_n 2, 1) := by decide +kernel
theorem dX1_leastGot_10 : decode cX1_leastGot 10 = .ok (.aload_n 0, 1) := by decide +kernel
theorem dX1_leastGot_11 : decode cX1_leastGot 11 = .ok (.getfield 31, 3) := by decide +kernel
theorem dX1_leastGot_14 : decode cX1_leastGot 14 = .ok (.getfield 55, 3) := by decide +kernel
theorem dX1_leastGot_17 : decode cX1_leastGot 17 = .ok (.if_icmp .ge 20, 3) := by decide +kernel
theorem dX1_leastGot_20 : decode cX1_leastGot 20 = .ok (.iload_n 1, 1) := by decide +kernel
theorem dX1_leastGot_21 : decode cX1_leastGot 21 = .ok (.aload_n 0, 1) := by decide +kernel
theorem dX1_leastGot_22 : decode cX1_leastGot 22 = .ok (.getfield 19, 3) := by decide +kernel
theorem dX1_leastGot_25 : decode cX1_leastGot 25 = .ok (.iload_n 2, 1) := by decide +kernel
theorem dX1_leastGot_26 : decode cX1_leastGot 26 = .ok (.iaload, 1) := by decide +kernel
theorem dX1_leastGot_27 : decode cX1_leastGot 27 = .ok (.invokestatic 85, 3) := by decide +kernel
theorem dX1_leastGot_30 : decode cX1_leastGot 30 = .ok (.istore_n 1, 1) := by decide +kernel
theorem dX1_leastGot_31 : decode cX1_leastGot 31 = .ok (.iinc 2 1, 3) := by decide +kernel
theorem dX1_leastGot_34 : decode cX1_leastGot 34 = .ok (.goto (-25), 3) := by decide +kernel
theorem dX1_leastGot_37 : decode cX1_leastGot 37 = .ok (.iload_n 1, 1) := by decide +kernel
theorem dX1_leastGot_38 : decode cX1_leastGot 38 = .ok (.ireturn, 1) := by decide +kernel
theorem dX2_init_0 : decode cX2_init 0 = .ok (.aload_n 0, 1) := by decide +kernel
theorem dX2_init_1 : decode cX2_init 1 = .ok (.invokespecial 3, 3) := by decide +kernel
theorem dX2_init_4 : decode cX2_init 4 = .ok (.aload_n 0, 1) := by decide +kernel
theorem dX2_init_5 : decode cX2_init 5 = .ok (.new 9, 3) := by decide +kernel
theorem dX2_init_8 : decode cX2_init 8 = .ok (.dup, 1) := by decide +kernel
theorem dX2_init_9 : decode cX2_init 9 = .ok (.invokespecial 11, 3) := by decide +kernel
theorem dX2_init_12 : decode cX2_init 12 = .ok (.putfield 12, 3) := by decide +kernel
theorem dX2_init_15 : decode cX2_init 15 = .ok (.aload_n 0, 1) := by decide +kernel
theorem dX2_init_16 : decode cX2_init 16 = .ok (.bipush 6, 2) := by decide +kernel
theorem dX2_init_18 : decode cX2_init 18 = .ok (.newarray .int, 2) := by decide +kernel
theorem dX2_init_20 : decode cX2_init 20 = .ok (.putfield 18, 3) := by decide +kernel
theorem dX2_init_23 : decode cX2_init 23 = .ok (.aload_n 0, 1) := by decide +kernel
theorem dX2_init_24 : decode cX2_init 24 = .ok (.bipush 120, 2) := by decide +kernel
theorem dX2_init_26 : decode cX2_init 26 = .ok (.newarray .int, 2) := by decide +kernel
theorem dX2_init_28 : decode cX2_init 28 = .ok (.putfield 24, 3) := by decide +kernel
theorem dX2_init_31 : decode cX2_init 31 = .ok (.aload_n 0, 1) := by decide +kernel
theorem dX2_init_32 : decode cX2_init 32 = .ok (.aload_n 1, 1) := by decide +kernel
theorem dX2_init_33 : decode cX2_init 33 = .ok (.putfield 27, 3) := by decide +kernel
theorem dX2_init_36 : decode cX2_init 36 = .ok (.return_, 1) := by decide +kernel
theorem dX2_want_0 : decode cX2_want 0 = .ok (.aload_n 0, 1) := by decide +kernel
theorem dX2_want_1 : decode cX2_want 1 = .ok (.getfield 12, 3) := by decide +kernel
theorem dX2_want_4 : decode cX2_want 4 = .ok (.getfield 31, 3) := by decide +kernel
theorem dX2_want_7 : decode cX2_want 7 = .ok (.ifCond .ne 13, 3) := by decide +kernel
theorem dX2_want_10 : decode cX2_want 10 = .ok (.aload_n 0, 1) := by decide +kernel
theorem dX2_want_11 : decode cX2_want 11 = .ok (.iload_n 1, 1) := by decide +kernel
theorem dX2_want_12 : decode cX2_want 12 = .ok (.iload_n 3, 1) := by decide +kernel
theorem dX2_want_13 : decode cX2_want 13 = .ok (.invokevirtual 35, 3) := by decide +kernel
theorem dX2_want_16 : decode cX2_want 16 = .ok (.invokestatic 39, 3) := by decide +kernel
theorem dX2_want_19 : decode cX2_want 19 = .ok (.ireturn, 1) := by decide +kernel
theorem dX2_want_20 : decode cX2_want 20 = .ok (.aload_n 0, 1) := by decide +kernel
theorem dX2_want_21 : decode cX2_want 21 = .ok (.iload_n 1, 1) := by decide +kernel
theorem dX2_want_22 : decode cX2_want 22 = .ok (.iload_n 2, 1) := by decide +kernel
theorem dX2_want_23 : decode cX2_want 23 = .ok (.iload_n 3, 1) := by decide +kernel
theorem dX2_want_24 : decode cX2_want 24 = .ok (.invokevirtual 43, 3) := by decide +kernel
theorem dX2_want_27 : decode cX2_want 27 = .ok (.iconst 1, 1) := by decide +kernel
theorem dX2_want_28 : decode cX2_want 28 = .ok (.istore 4, 2) := by decide +kernel
theorem dX2_want_30 : decode cX2_want 30 = .ok (.iconst 0, 1) := by decide +kernel
theorem dX2_want_31 : decode cX2_want 31 = .ok (.istore 5, 2) := by decide +kernel
theorem dX2_want_33 : decode cX2_want 33 = .ok (.iconst 0, 1) := by decide +kernel
theorem dX2_want_34 : decode cX2_want 34 = .ok (.istore 6, 2) := by decide +kernel
theorem dX2_want_36 : decode cX2_want 36 = .ok (.iload 6, 2) := by decide +kernel
theorem dX2_want_38 : decode cX2_want 38 = .ok (.aload_n 0, 1) := by decide +kernel
theorem dX2_want_39 : decode cX2_want 39 = .ok (.getfield 12, 3) := by decide +kernel
theorem dX2_want_42 : decode cX2_want 42 = .ok (.getfield 31, 3) := by decide +kernel
theorem dX2_want_45 : decode cX2_want 45 = .ok (.if_icmp .ge 79, 3) := by decide +kernel
theorem dX2_want_48 : decode cX2_want 48 = .ok (.aload_n 0, 1) := by decide +kernel
theorem dX2_want_49 : decode cX2_want 49 = .ok (.getfield 12, 3) := by decide +kernel
theorem dX2_want_52 : decode cX2_want 52 = .ok (.getfield 47, 3) := by decide +kernel
theorem dX2_want_55 : decode cX2_want 55 = .ok (.iload 6, 2) := by decide +kernel
theorem dX2_want_57 : decode cX2_want 57 = .ok (.iaload, 1) := by decide +kernel
theorem dX2_want_58 : decode cX2_want 58 = .ok (.istore 7, 2) := by decide +kernel
theorem dX2_want_60 : decode cX2_want 60 = .ok (.aload_n 0, 1) := by decide +kernel
theorem dX2_want_61 : decode cX2_want 61 = .ok (.getfield 12, 3) := by decide +kernel
theorem dX2_want_64 : decode cX2_want 64 = .ok (.getfield 50, 3) := by decide +kernel
theorem dX2_want_67 : decode cX2_want 67 = .ok (.iload 6, 2) := by decide +kernel
theorem dX2_want_69 : decode cX2_want 69 = .ok (.baload, 1) := by decide +kernel
theorem dX2_want_70 : decode cX2_want 70 = .ok (.ifCond .eq 24, 3) := by decide +kernel
theorem dX2_want_73 : decode cX2_want 73 = .ok (.aload_n 0, 1) := by decide +kernel
theorem dX2_want_74 : decode cX2_want 74 = .ok (.iload 5, 2) := by decide +kernel
theorem dX2_want_76 : decode cX2_want 76 = .ok (.iload 7, 2) := by decide +kernel
theorem dX2_want_78 : decode cX2_want 78 = .ok (.invokevirtual 54, 3) := by decide +kernel
theorem dX2_want_81 : decode cX2_want 81 = .ok (.ifCond .eq 7, 3) := by decide +kernel
theorem dX2_want_84 : decode cX2_want 84 = .ok (.iconst 1, 1) := by decide +kernel
theorem dX2_want_85 : decode cX2_want 85 = .ok (.goto 4, 3) := by decide +kernel
theorem dX2_want_88 : decode cX2_want 88 = .ok (.iconst 0, 1) := by decide +kernel
theorem dX2_want_89 : decode cX2_want 89 = .ok (.istore 4, 2) := by decide +kernel
theorem dX2_want_91 : decode cX2_want 91 = .ok (.goto 23, 3) := by decide +kernel
theorem dX2_want_94 : decode cX2_want 94 = .ok (.iload 4, 2) := by decide +kernel
theorem dX2_want_96 : decode cX2_want 96 = .ok (.ifCond .eq 15, 3) := by decide +kernel
theorem dX2_want_99 : decode cX2_want 99 = .ok (.aload_n 0, 1) := by decide +kernel
theorem dX2_want_100 : decode cX2_want 100 = .ok (.iload 5, 2) := by decide +kernel
theorem dX2_want_102 : decode cX2_want 102 = .ok (.iload 7, 2) := by decide +kernel
theorem dX2_want_104 : decode cX2_want 104 = .ok (.invokevirtual 54, 3) := by decide +kernel
theorem dX2_want_107 : decode cX2_want 107 = .ok (.invokestatic 39, 3) := by decide +kernel
theorem dX2_want_110 : decode cX2_want 110 = .ok (.ireturn, 1) := by decide +kernel
theorem dX2_want_111 : decode cX2_want 111 = .ok (.iconst 1, 1) := by decide +kernel
theorem dX2_want_112 : decode cX2_want 112 = .ok (.istore 4, 2) := by decide +kernel
theorem dX2_want_114 : decode cX2_want 114 = .ok (.iload 7, 2) := by decide +kernel
theorem dX2_want_116 : decode cX2_want 116 = .ok (.istore 5, 2) := by decide +kernel
theorem dX2_want_118 : decode cX2_want 118 = .ok (.iinc 6 1, 3) := by decide +kernel
theorem dX2_want_121 : decode cX2_want 121 = .ok (.goto (-85), 3) := by decide +kernel
theorem dX2_want_124 : decode cX2_want 124 = .ok (.iconst 0, 1) := by decide +kernel
theorem dX2_want_125 : decode cX2_want 125 = .ok (.ireturn, 1) := by decide +kernel
theorem dX2_held_0 : decode cX2_held 0 = .ok (.iconst 0, 1) := by decide +kernel
theorem dX2_held_1 : decode cX2_held 1 = .ok (.bipush 99, 2) := by decide +kernel
theorem dX2_held_3 : decode cX2_held 3 = .ok (.iload_n 0, 1) := by decide +kernel
theorem dX2_held_4 : decode cX2_held 4 = .ok (.invokestatic 57, 3) := by decide +kernel
theorem dX2_held_7 : decode cX2_held 7 = .ok (.invokestatic 62, 3) := by decide +kernel
theorem dX2_held_10 : decode cX2_held 10 = .ok (.ireturn, 1) := by decide +kernel
theorem dX2_plain_0 : decode cX2_plain 0 = .ok (.aload_n 0, 1) := by decide +kernel
theorem dX2_plain_1 : decode cX2_plain 1 = .ok (.getfield 27, 3) := by decide +kernel
theorem dX2_plain_4 : decode cX2_plain 4 = .ok (.iload_n 1, 1) := by decide +kernel
theorem dX2_plain_5 : decode cX2_plain 5 = .ok (.iconst 0, 1) := by decide +kernel
theorem dX2_plain_6 : decode cX2_plain 6 = .ok (.invokevirtual 65, 3) := by decide +kernel
theorem dX2_plain_9 : decode cX2_plain 9 = .ok (.aload_n 0, 1) := by decide +kernel
theorem dX2_plain_10 : decode cX2_plain 10 = .ok (.getfield 27, 3) := by decide +kernel
theorem dX2_plain_13 : decode cX2_plain 13 = .ok (.iload_n 1, 1) := by decide +kernel
theorem dX2_plain_14 : decode cX2_plain 14 = .ok (.iconst 1, 1) := by decide +kernel
theorem dX2_plain_15 : decode cX2_plain 15 = .ok (.invokevirtual 65, 3) := by decide +kernel
theorem dX2_plain_18 : decode cX2_plain 18 = .ok (.imul, 1) := by decide +kernel
theorem dX2_plain_19 : decode cX2_plain 19 = .ok (.iconst 3, 1) := by decide +kernel
theorem dX2_plain_20 : decode cX2_plain 20 = .ok (.idiv, 1) := by decide +kernel
theorem dX2_plain_21 : decode cX2_plain 21 = .ok (.istore_n 3, 1) := by decide +kernel
theorem dX2_plain_22 : decode cX2_plain 22 = .ok (.aload_n 0, 1) := by decide +kernel
theorem dX2_plain_23 : decode cX2_plain 23 = .ok (.getfield 27, 3) := by decide +kernel
theorem dX2_plain_26 : decode cX2_plain 26 = .ok (.iload_n 1, 1) := by decide +kernel
theorem dX2_plain_27 : decode cX2_plain 27 = .ok (.iconst 3, 1) := by decide +kernel
theorem dX2_plain_28 : decode cX2_plain 28 = .ok (.invokevirtual 65, 3) := by decide +kernel
theorem dX2_plain_31 : decode cX2_plain 31 = .ok (.istore 4, 2) := by decide +kernel
theorem dX2_plain_33 : decode cX2_plain 33 = .ok (.iload 4, 2) := by decide +kernel
theorem dX2_plain_35 : decode cX2_plain 35 = .ok (.ifCond .le 12, 3) := by decide +kernel
theorem dX2_plain_38 : decode cX2_plain 38 = .ok (.iload_n 3, 1) := by decide +kernel
theorem dX2_plain_39 : decode cX2_plain 39 = .ok (.iload_n 2, 1) := by decide +kernel
theorem dX2_plain_40 : decode cX2_plain 40 = .ok (.iload 4, 2) := by decide +kernel
theorem dX2_plain_42 : decode cX2_plain 42 = .ok (.idiv, 1) := by decide +kernel
theorem dX2_plain_43 : decode cX2_plain 43 = .ok (.isub, 1) := by decide +kernel
theorem dX2_plain_44 : decode cX2_plain 44 = .ok (.goto 4, 3) := by decide +kernel
theorem dX2_plain_47 : decode cX2_plain 47 = .ok (.iload_n 3, 1) := by decide +kernel
theorem dX2_plain_48 : decode cX2_plain 48 = .ok (.ireturn, 1) := by decide +kernel
theorem dX2_setNames_0 : decode cX2_setNames 0 = .ok (.aload_n 0, 1) := by decide +kernel
theorem dX2_setNames_1 : decode cX2_setNames 1 = .ok (.getfield 18, 3) := by decide +kernel
theorem dX2_setNames_4 : decode cX2_setNames 4 = .ok (.iconst 0, 1) := by decide +kernel
theorem dX2_setNames_5 : decode cX2_setNames 5 = .ok (.aload_n 0, 1) := by decide +kernel
theorem dX2_setNames_6 : decode cX2_setNames 6 = .ok (.getfield 27, 3) := by decide +kernel
theorem dX2_setNames_9 : decode cX2_setNames 9 = .ok (.iload_n 1, 1) := by decide +kernel
theorem dX2_setNames_10 : decode cX2_setNames 10 = .ok (.iconst 0, 1) := by decide +kernel
theorem dX2_setNames_11 : decode cX2_setNames 11 = .ok (.invokevirtual 65, 3) := by decide +kernel
theorem dX2_setNames_14 : decode cX2_setNames 14 = .ok (.iastore, 1) := by decide +kernel
theorem dX2_setNames_15 : decode cX2_setNames 15 = .ok (.aload_n 0, 1) := by decide +kernel
theorem dX2_setNames_16 : decode cX2_setNames 16 = .ok (.getfield 18, 3) := by decide +kernel
theorem dX2_setNames_19 : decode cX2_setNames 19 = .ok (.iconst 1, 1) := by decide +kernel
theorem dX2_setNames_20 : decode cX2_setNames 20 = .ok (.aload_n 0, 1) := by decide +kernel
theorem dX2_setNames_21 : decode cX2_setNames 21 = .ok (.getfield 27, 3) := by decide +kernel
theorem dX2_setNames_24 : decode cX2_setNames 24 = .ok (.iload_n 1, 1) := by decide +kernel
theorem dX2_setNames_25 : decode cX2_setNames 25 = .ok (.iconst 1, 1) := by decide +kernel
theorem dX2_setNames_26 : decode cX2_setNames 26 = .ok (.invokevirtual 65, 3) := by decide +kernel
theorem dX2_setNames_29 : decode cX2_setNames 29 = .ok (.iastore, 1) := by decide +kernel
theorem dX2_setNames_30 : decode cX2_setNames 30 = .ok (.aload_n 0, 1) := by decide +kernel
theorem dX2_setNames_31 : decode cX2_setNames 31 = .ok (.getfield 18, 3) := by decide +kernel
theorem dX2_setNames_34 : decode cX2_setNames 34 = .ok (.iconst 2, 1) := by decide +kernel
theorem dX2_setNames_35 : decode cX2_setNames 35 = .ok (.iload_n 3, 1) := by decide +kernel
theorem dX2_setNames_36 : decode cX2_setNames 36 = .ok (.iastore, 1) := by decide +kernel
theorem dX2_setNames_37 : decode cX2_setNames 37 = .ok (.aload_n 0, 1) := by decide +kernel
theorem dX2_setNames_38 : decode cX2_setNames 38 = .ok (.getfield 18, 3) := by decide +kernel
theorem dX2_setNames_41 : decode cX2_setNames 41 = .ok (.iconst 3, 1) := by decide +kernel
theorem dX2_setNames_42 : decode cX2_setNames 42 = .ok (.iload_n 2, 1) := by decide +kernel
theorem dX2_setNames_43 : decode cX2_setNames 43 = .ok (.iastore, 1) := by decide +kernel
theorem dX2_setNames_44 : decode cX2_setNames 44 = .ok (.aload_n 0, 1) := by decide +kernel
theorem dX2_setNames_45 : decode cX2_setNames 45 = .ok (.getfield 18, 3) := by decide +kernel
theorem dX2_setNames_48 : decode cX2_setNames 48 = .ok (.iconst 4, 1) := by decide +kernel
theorem dX2_setNames_49 : decode cX2_setNames 49 = .ok (.iload_n 2, 1) := by decide +kernel
theorem dX2_setNames_50 : decode cX2_setNames 50 = .ok (.aload_n 0, 1) := by decide +kernel
theorem dX2_setNames_51 : decode cX2_setNames 51 = .ok (.getfield 27, 3) := by decide +kernel
theorem dX2_setNames_54 : decode cX2_setNames 54 = .ok (.iload_n 1, 1) := by decide +kernel
theorem dX2_setNames_55 : decode cX2_setNames 55 = .ok (.iconst 2, 1) := by decide +kernel
theorem dX2_setNames_56 : decode cX2_setNames 56 = .ok (.invokevirtual 65, 3) := by decide +kernel
theorem dX2_setNames_59 : decode cX2_setNames 59 = .ok (.isub, 1) := by decide +kernel
theorem dX2_setNames_60 : decode cX2_setNames 60 = .ok (.iastore, 1) := by decide +kernel
theorem dX2_setNames_61 : decode cX2_setNames 61 = .ok (.aload_n 0, 1) := by decide +kernel
theorem dX2_setNames_62 : decode cX2_setNames 62 = .ok (.getfield 18, 3) := by decide +kernel
theorem dX2_setNames_65 : decode cX2_setNames 65 = .ok (.iconst 5, 1) := by decide +kernel
theorem dX2_setNames_66 : decode cX2_setNames 66 = .ok (.iload_n 1, 1) := by decide +kernel
theorem dX2_setNames_67 : decode cX2_setNames 67 = .ok (.iastore, 1) := by decide +kernel
theorem dX2_setNames_68 : decode cX2_setNames 68 = .ok (.return_, 1) := by decide +kernel
theorem dX2_workedOut_0 : decode cX2_workedOut 0 = .ok (.aload_n 0, 1) := by decide +kernel
theorem dX2_workedOut_1 : decode cX2_workedOut 1 = .ok (.getfield 12, 3) := by decide +kernel
theorem dX2_workedOut_4 : decode cX2_workedOut 4 = .ok (.getfield 70, 3) := by decide +kernel
theorem dX2_workedOut_7 : decode cX2_workedOut 7 = .ok (.astore_n 3, 1) := by decide +kernel
theorem dX2_workedOut_8 : decode cX2_workedOut 8 = .ok (.iconst (-1), 1) := by decide +kernel
theorem dX2_workedOut_9 : decode cX2_workedOut 9 = .ok (.istore 4, 2) := by decide +kernel
theorem dX2_workedOut_11 : decode cX2_workedOut 11 = .ok (.iload_n 1, 1) := by decide +kernel
theorem dX2_workedOut_12 : decode cX2_workedOut 12 = .ok (.istore 5, 2) := by decide +kernel
theorem dX2_workedOut_14 : decode cX2_workedOut 14 = .ok (.iload 5, 2) := by decide +kernel
theorem dX2_workedOut_16 : decode cX2_workedOut 16 = .ok (.iload_n 2, 1) := by decide +kernel
theorem dX2_workedOut_17 : decode cX2_workedOut 17 = .ok (.if_icmp .ge 161, 3) := by decide +kernel
theorem dX2_workedOut_20 : decode cX2_workedOut 20 = .ok (.aload_n 3, 1) := by decide +kernel
theorem dX2_workedOut_21 : decode cX2_workedOut 21 = .ok (.iload 5, 2) := by decide +kernel
theorem dX2_workedOut_23 : decode cX2_workedOut 23 = .ok (.iaload, 1) := by decide +kernel
theorem dX2_workedOut_24 : decode cX2_workedOut 24 = .ok (.istore 6, 2) := by decide +kernel
theorem dX2_workedOut_26 : decode cX2_workedOut 26 = .ok (.iload 6, 2) := by decide +kernel
theorem dX2_workedOut_28 : decode cX2_workedOut 28 = .ok (.bipush (-6), 2) := by decide +kernel
theorem dX2_workedOut_30 : decode cX2_workedOut 30 = .ok (.if_icmp .lt 47, 3) := by decide +kernel
theorem dX2_workedOut_33 : decode cX2_workedOut 33 = .ok (.iinc 4 1, 3) := by decide +kernel
theorem dX2_workedOut_36 : decode cX2_workedOut 36 = .ok (.iload 4, 2) := by decide +kernel
theorem dX2_workedOut_38 : decode cX2_workedOut 38 = .ok (.aload_n 0, 1) := by decide +kernel
theorem dX2_workedOut_39 : decode cX2_workedOut 39 = .ok (.getfield 24, 3) := by decide +kernel
theorem dX2_workedOut_42 : decode cX2_workedOut 42 = .ok (.arraylength, 1) := by decide +kernel
theorem dX2_workedOut_43 : decode cX2_workedOut 43 = .ok (.if_icmp .lt 5, 3) := by decide +kernel
theorem dX2_workedOut_46 : decode cX2_workedOut 46 = .ok (.iconst 0, 1) := by decide +kernel
theorem dX2_workedOut_47 : decode cX2_workedOut 47 = .ok (.ireturn, 1) := by decide +kernel
theorem dX2_workedOut_48 : decode cX2_workedOut 48 = .ok (.aload_n 0, 1) := by decide +kernel
theorem dX2_workedOut_49 : decode cX2_workedOut 49 = .ok (.getfield 24, 3) := by decide +kernel
theorem dX2_workedOut_52 : decode cX2_workedOut 52 = .ok (.iload 4, 2) := by decide +kernel
theorem dX2_workedOut_54 : decode cX2_workedOut 54 = .ok (.iload 6, 2) := by decide +kernel
theorem dX2_workedOut_56 : decode cX2_workedOut 56 = .ok (.ifCond .lt 8, 3) := by decide +kernel
theorem dX2_workedOut_59 : decode cX2_workedOut 59 = .ok (.iload 6, 2) := by decide +kernel
theorem dX2_workedOut_61 : decode cX2_workedOut 61 = .ok (.goto 12, 3) := by decide +kernel
theorem dX2_workedOut_64 : decode cX2_workedOut 64 = .ok (.aload_n 0, 1) := by decide +kernel
theorem dX2_workedOut_65 : decode cX2_workedOut 65 = .ok (.getfield 18, 3) := by decide +kernel
theorem dX2_workedOut_68 : decode cX2_workedOut 68 = .ok (.iconst (-1), 1) := by decide +kernel
theorem dX2_workedOut_69 : decode cX2_workedOut 69 = .ok (.iload 6, 2) := by decide +kernel
theorem dX2_workedOut_71 : decode cX2_workedOut 71 = .ok (.isub, 1) := by decide +kernel
theorem dX2_workedOut_72 : decode cX2_workedOut 72 = .ok (.iaload, 1) := by decide +kernel
theorem dX2_workedOut_73 : decode cX2_workedOut 73 = .ok (.iastore, 1) := by decide +kernel
theorem dX2_workedOut_74 : decode cX2_workedOut 74 = .ok (.goto 98, 3) := by decide +kernel
theorem dX2_workedOut_77 : decode cX2_workedOut 77 = .ok (.iload 6, 2) := by decide +kernel
theorem dX2_workedOut_79 : decode cX2_workedOut 79 = .ok (.bipush (-8), 2) := by decide +kernel
theorem dX2_workedOut_81 : decode cX2_workedOut 81 = .ok (.if_icmp .lt 53, 3) := by decide +kernel
theorem dX2_workedOut_84 : decode cX2_workedOut 84 = .ok (.iload 4, 2) := by decide +kernel
theorem dX2_workedOut_86 : decode cX2_workedOut 86 = .ok (.ifCond .ge 5, 3) := by decide +kernel
theorem dX2_workedOut_89 : decode cX2_workedOut 89 = .ok (.iconst 0, 1) := by decide +kernel
theorem dX2_workedOut_90 : decode cX2_workedOut 90 = .ok (.ireturn, 1) := by decide +kernel
theorem dX2_workedOut_91 : decode cX2_workedOut 91 = .ok (.aload_n 0, 1) := by decide +kernel
theorem dX2_workedOut_92 : decode cX2_workedOut 92 = .ok (.getfield 24, 3) := by decide +kernel
theorem dX2_workedOut_95 : decode cX2_workedOut 95 = .ok (.iload 4, 2) := by decide +kernel
theorem dX2_workedOut_97 : decode cX2_workedOut 97 = .ok (.iload 6, 2) := by decide +kernel
theorem dX2_workedOut_99 : decode cX2_workedOut 99 = .ok (.bipush (-7), 2) := by decide +kernel
theorem dX2_workedOut_101 : decode cX2_workedOut 101 = .ok (.if_icmp .ne 14, 3) := by decide +kernel
theorem dX2_workedOut_104 : decode cX2_workedOut 104 = .ok (.aload_n 0, 1) := by decide +kernel
theorem dX2_workedOut_105 : decode cX2_workedOut 105 = .ok (.getfield 24, 3) := by decide +kernel
theorem dX2_workedOut_108 : decode cX2_workedOut 108 = .ok (.iload 4, 2) := by decide +kernel
theorem dX2_workedOut_110 : decode cX2_workedOut 110 = .ok (.iaload, 1) := by decide +kernel
theorem dX2_workedOut_111 : decode cX2_workedOut 111 = .ok (.ineg, 1) := by decide +kernel
theorem dX2_workedOut_112 : decode cX2_workedOut 112 = .ok (.goto 18, 3) := by decide +kernel
theorem dX2_workedOut_115 : decode cX2_workedOut 115 = .ok (.aload_n 0, 1) := by decide +kernel
theorem dX2_workedOut_116 : decode cX2_workedOut 116 = .ok (.getfield 24, 3) := by decide +kernel
theorem dX2_workedOut_119 : decode cX2_workedOut 119 = .ok (.iload 4, 2) := by decide +kernel
theorem dX2_workedOut_121 : decode cX2_workedOut 121 = .ok (.iaload, 1) := by decide +kernel
theorem dX2_workedOut_122 : decode cX2_workedOut 122 = .ok (.ifCond .ne 7, 3) := by decide +kernel
theorem dX2_workedOut_125 : decode cX2_workedOut 125 = .ok (.iconst 1, 1) := by decide +kernel
theorem dX2_workedOut_126 : decode cX2_workedOut 126 = .ok (.goto 4, 3) := by decide +kernel
theorem dX2_workedOut_129 : decode cX2_workedOut 129 = .ok (.iconst 0, 1) := by decide +kernel
theorem dX2_workedOut_130 : decode cX2_workedOut 130 = .ok (.iastore, 1) := by decide +kernel
theorem dX2_workedOut_131 : decode cX2_workedOut 131 = .ok (.goto 41, 3) := by decide +kernel
theorem dX2_workedOut_134 : decode cX2_workedOut 134 = .ok (.iinc 4 (-1), 3) := by decide +kernel
theorem dX2_workedOut_137 : decode cX2_workedOut 137 = .ok (.iload 4, 2) := by decide +kernel
theorem dX2_workedOut_139 : decode cX2_workedOut 139 = .ok (.ifCond .ge 5, 3) := by decide +kernel
theorem dX2_workedOut_142 : decode cX2_workedOut 142 = .ok (.iconst 0, 1) := by decide +kernel
theorem dX2_workedOut_143 : decode cX2_workedOut 143 = .ok (.ireturn, 1) := by decide +kernel
theorem dX2_workedOut_144 : decode cX2_workedOut 144 = .ok (.aload_n 0, 1) := by decide +kernel
theorem dX2_workedOut_145 : decode cX2_workedOut 145 = .ok (.getfield 24, 3) := by decide +kernel
theorem dX2_workedOut_148 : decode cX2_workedOut 148 = .ok (.iload 4, 2) := by decide +kernel
theorem dX2_workedOut_150 : decode cX2_workedOut 150 = .ok (.iload 6, 2) := by decide +kernel
theorem dX2_workedOut_152 : decode cX2_workedOut 152 = .ok (.aload_n 0, 1) := by decide +kernel
theorem dX2_workedOut_153 : decode cX2_workedOut 153 = .ok (.getfield 24, 3) := by decide +kernel
theorem dX2_workedOut_156 : decode cX2_workedOut 156 = .ok (.iload 4, 2) := by decide +kernel
theorem dX2_workedOut_158 : decode cX2_workedOut 158 = .ok (.iaload, 1) := by decide +kernel
theorem dX2_workedOut_159 : decode cX2_workedOut 159 = .ok (.aload_n 0, 1) := by decide +kernel
theorem dX2_workedOut_160 : decode cX2_workedOut 160 = .ok (.getfield 24, 3) := by decide +kernel
theorem dX2_workedOut_163 : decode cX2_workedOut 163 = .ok (.iload 4, 2) := by decide +kernel
theorem dX2_workedOut_165 : decode cX2_workedOut 165 = .ok (.iconst 1, 1) := by decide +kernel
theorem dX2_workedOut_166 : decode cX2_workedOut 166 = .ok (.iadd, 1) := by decide +kernel
theorem dX2_workedOut_167 : decode cX2_workedOut 167 = .ok (.iaload, 1) := by decide +kernel
theorem dX2_workedOut_168 : decode cX2_workedOut 168 = .ok (.invokestatic 73, 3) := by decide +kernel
theorem dX2_workedOut_171 : decode cX2_workedOut 171 = .ok (.iastore, 1) := by decide +kernel
theorem dX2_workedOut_172 : decode cX2_workedOut 172 = .ok (.iinc 5 1, 3) := by decide +kernel
theorem dX2_workedOut_175 : decode cX2_workedOut 175 = .ok (.goto (-161), 3) := by decide +kernel
theorem dX2_workedOut_178 : decode cX2_workedOut 178 = .ok (.iload 4, 2) := by decide +kernel
theorem dX2_workedOut_180 : decode cX2_workedOut 180 = .ok (.ifCond .ge 7, 3) := by decide +kernel
theorem dX2_workedOut_183 : decode cX2_workedOut 183 = .ok (.iconst 0, 1) := by decide +kernel
theorem dX2_workedOut_184 : decode cX2_workedOut 184 = .ok (.goto 10, 3) := by decide +kernel
theorem dX2_workedOut_187 : decode cX2_workedOut 187 = .ok (.aload_n 0, 1) := by decide +kernel
theorem dX2_workedOut_188 : decode cX2_workedOut 188 = .ok (.getfield 24, 3) := by decide +kernel
theorem dX2_workedOut_191 : decode cX2_workedOut 191 = .ok (.iload 4, 2) := by decide +kernel
theorem dX2_workedOut_193 : decode cX2_workedOut 193 = .ok (.iaload, 1) := by decide +kernel
theorem dX2_workedOut_194 : decode cX2_workedOut 194 = .ok (.ireturn, 1) := by decide +kernel
theorem dX2_joined_0 : decode cX2_joined 0 = .ok (.iload_n 0, 1) := by decide +kernel
theorem dX2_joined_1 : decode cX2_joined 1 = .ok (.tableswitch 152 (-18) (-9) #[138, 124, 113, 102, 91, 87, 83, 71, 59, 55], 55) := by decide +kernel
theorem dX2_joined_56 : decode cX2_joined 56 = .ok (.iload_n 1, 1) := by decide +kernel
theorem dX2_joined_57 : decode cX2_joined 57 = .ok (.iload_n 2, 1) := by decide +kernel
theorem dX2_joined_58 : decode cX2_joined 58 = .ok (.imul, 1) := by decide +kernel
theorem dX2_joined_59 : decode cX2_joined 59 = .ok (.ireturn, 1) := by decide +kernel
theorem dX2_joined_60 : decode cX2_joined 60 = .ok (.iload_n 2, 1) := by decide +kernel
theorem dX2_joined_61 : decode cX2_joined 61 = .ok (.ifCond .ne 7, 3) := by decide +kernel
theorem dX2_joined_64 : decode cX2_joined 64 = .ok (.iconst 0, 1) := by decide +kernel
theorem dX2_joined_65 : decode cX2_joined 65 = .ok (.goto 6, 3) := by decide +kernel
theorem dX2_joined_68 : decode cX2_joined 68 = .ok (.iload_n 1, 1) := by decide +kernel
theorem dX2_joined_69 : decode cX2_joined 69 = .ok (.iload_n 2, 1) := by decide +kernel
theorem dX2_joined_70 : decode cX2_joined 70 = .ok (.idiv, 1) := by decide +kernel
theorem dX2_joined_71 : decode cX2_joined 71 = .ok (.ireturn, 1) := by decide +kernel
theorem dX2_joined_72 : decode cX2_joined 72 = .ok (.iload_n 2, 1) := by decide +kernel
theorem dX2_joined_73 : decode cX2_joined 73 = .ok (.ifCond .ne 7, 3) := by decide +kernel
theorem dX2_joined_76 : decode cX2_joined 76 = .ok (.iconst 0, 1) := by decide +kernel
theorem dX2_joined_77 : decode cX2_joined 77 = .ok (.goto 6, 3) := by decide +kernel
theorem dX2_joined_80 : decode cX2_joined 80 = .ok (.iload_n 1, 1) := by decide +kernel
theorem dX2_joined_81 : decode cX2_joined 81 = .ok (.iload_n 2, 1) := by decide +kernel
theorem dX2_joined_82 : decode cX2_joined 82 = .ok (.irem, 1) := by decide +kernel
theorem dX2_joined_83 : decode cX2_joined 83 = .ok (.ireturn, 1) := by decide +kernel
theorem dX2_joined_84 : decode cX2_joined 84 = .ok (.iload_n 1, 1) := by decide +kernel
theorem dX2_joined_85 : decode cX2_joined 85 = .ok (.iload_n 2, 1) := by decide +kernel
theorem dX2_joined_86 : decode cX2_joined 86 = .ok (.iadd, 1) := by decide +kernel
theorem dX2_joined_87 : decode cX2_joined 87 = .ok (.ireturn, 1) := by decide +kernel
theorem dX2_joined_88 : decode cX2_joined 88 = .ok (.iload_n 1, 1) := by decide +kernel
theorem dX2_joined_89 : decode cX2_joined 89 = .ok (.iload_n 2, 1) := by decide +kernel
theorem dX2_joined_90 : decode cX2_joined 90 = .ok (.isub, 1) := by decide +kernel
theorem dX2_joined_91 : decode cX2_joined 91 = .ok (.ireturn, 1) := by decide +kernel
theorem dX2_joined_92 : decode cX2_joined 92 = .ok (.iload_n 1, 1) := by decide +kernel
theorem dX2_joined_93 : decode cX2_joined 93 = .ok (.iload_n 2, 1) := by decide +kernel
theorem dX2_joined_94 : decode cX2_joined 94 = .ok (.if_icmp .ge 7, 3) := by decide +kernel
theorem dX2_joined_97 : decode cX2_joined 97 = .ok (.iconst 1, 1) := by decide +kernel
theorem dX2_joined_98 : decode cX2_joined 98 = .ok (.goto 4, 3) := by decide +kernel
theorem dX2_joined_101 : decode cX2_joined 101 = .ok (.iconst 0, 1) := by decide +kernel
theorem dX2_joined_102 : decode cX2_joined 102 = .ok (.ireturn, 1) := by decide +kernel
theorem dX2_joined_103 : decode cX2_joined 103 = .ok (.iload_n 1, 1) := by decide +kernel
theorem dX2_joined_104 : decode cX2_joined 104 = .ok (.iload_n 2, 1) := by decide +kernel
theorem dX2_joined_105 : decode cX2_joined 105 = .ok (.if_icmp .ne 7, 3) := by decide +kernel
theorem dX2_joined_108 : decode cX2_joined 108 = .ok (.iconst 1, 1) := by decide +kernel
theorem dX2_joined_109 : decode cX2_joined 109 = .ok (.goto 4, 3) := by decide +kernel
theorem dX2_joined_112 : decode cX2_joined 112 = .ok (.iconst 0, 1) := by decide +kernel
theorem dX2_joined_113 : decode cX2_joined 113 = .ok (.ireturn, 1) := by decide +kernel
theorem dX2_joined_114 : decode cX2_joined 114 = .ok (.iload_n 1, 1) := by decide +kernel
theorem dX2_joined_115 : decode cX2_joined 115 = .ok (.iload_n 2, 1) := by decide +kernel
theorem dX2_joined_116 : decode cX2_joined 116 = .ok (.if_icmp .le 7, 3) := by decide +kernel
theorem dX2_joined_119 : decode cX2_joined 119 = .ok (.iconst 1, 1) := by decide +kernel
theorem dX2_joined_120 : decode cX2_joined 120 = .ok (.goto 4, 3) := by decide +kernel
theorem dX2_joined_123 : decode cX2_joined 123 = .ok (.iconst 0, 1) := by decide +kernel
theorem dX2_joined_124 : decode cX2_joined 124 = .ok (.ireturn, 1) := by decide +kernel
theorem dX2_joined_125 : decode cX2_joined 125 = .ok (.iload_n 1, 1) := by decide +kernel
theorem dX2_joined_126 : decode cX2_joined 126 = .ok (.ifCond .eq 11, 3) := by decide +kernel
theorem dX2_joined_129 : decode cX2_joined 129 = .ok (.iload_n 2, 1) := by decide +kernel
theorem dX2_joined_130 : decode cX2_joined 130 = .ok (.ifCond .eq 7, 3) := by decide +kernel
theorem dX2_joined_133 : decode cX2_joined 133 = .ok (.iconst 1, 1) := by decide +kernel
theorem dX2_joined_134 : decode cX2_joined 134 = .ok (.goto 4, 3) := by decide +kernel
theorem dX2_joined_137 : decode cX2_joined 137 = .ok (.iconst 0, 1) := by decide +kernel
theorem dX2_joined_138 : decode cX2_joined 138 = .ok (.ireturn, 1) := by decide +kernel
theorem dX2_joined_139 : decode cX2_joined 139 = .ok (.iload_n 1, 1) := by decide +kernel
theorem dX2_joined_140 : decode cX2_joined 140 = .ok (.ifCond .ne 7, 3) := by decide +kernel
theorem dX2_joined_143 : decode cX2_joined 143 = .ok (.iload_n 2, 1) := by decide +kernel
theorem dX2_joined_144 : decode cX2_joined 144 = .ok (.ifCond .eq 7, 3) := by decide +kernel
theorem dX2_joined_147 : decode cX2_joined 147 = .ok (.iconst 1, 1) := by decide +kernel
theorem dX2_joined_148 : decode cX2_joined 148 = .ok (.goto 4, 3) := by decide +kernel
theorem dX2_joined_151 : decode cX2_joined 151 = .ok (.iconst 0, 1) := by decide +kernel
theorem dX2_joined_152 : decode cX2_joined 152 = .ok (.ireturn, 1) := by decide +kernel
theorem dX2_joined_153 : decode cX2_joined 153 = .ok (.iconst 0, 1) := by decide +kernel
theorem dX2_joined_154 : decode cX2_joined 154 = .ok (.ireturn, 1) := by decide +kernel
theorem dX3_init_0 : decode cX3_init 0 = .ok (.aload_n 0, 1) := by decide +kernel
theorem dX3_init_1 : decode cX3_init 1 = .ok (.invokespecial 3, 3) := by decide +kernel
theorem dX3_init_4 : decode cX3_init 4 = .ok (.aload_n 0, 1) := by decide +kernel
theorem dX3_init_5 : decode cX3_init 5 = .ok (.bipush 28, 2) := by decide +kernel
theorem dX3_init_7 : decode cX3_init 7 = .ok (.newarray .int, 2) := by decide +kernel
theorem dX3_init_9 : decode cX3_init 9 = .ok (.putfield 9, 3) := by decide +kernel
theorem dX3_init_12 : decode cX3_init 12 = .ok (.bipush 8, 2) := by decide +kernel
theorem dX3_init_14 : decode cX3_init 14 = .ok (.istore_n 1, 1) := by decide +kernel
theorem dX3_init_15 : decode cX3_init 15 = .ok (.iload_n 1, 1) := by decide +kernel
theorem dX3_init_16 : decode cX3_init 16 = .ok (.bipush 11, 2) := by decide +kernel
theorem dX3_init_18 : decode cX3_init 18 = .ok (.if_icmp .gt 23, 3) := by decide +kernel
theorem dX3_init_21 : decode cX3_init 21 = .ok (.aload_n 0, 1) := by decide +kernel
theorem dX3_init_22 : decode cX3_init 22 = .ok (.getfield 9, 3) := by decide +kernel
theorem dX3_init_25 : decode cX3_init 25 = .ok (.iload_n 1, 1) := by decide +kernel
theorem dX3_init_26 : decode cX3_init 26 = .ok (.invokestatic 15, 3) := by decide +kernel
theorem dX3_init_29 : decode cX3_init 29 = .ok (.getstatic 19, 3) := by decide +kernel
theorem dX3_init_32 : decode cX3_init 32 = .ok (.iload_n 1, 1) := by decide +kernel
theorem dX3_init_33 : decode cX3_init 33 = .ok (.iaload, 1) := by decide +kernel
theorem dX3_init_34 : decode cX3_init 34 = .ok (.iastore, 1) := by decide +kernel
theorem dX3_init_35 : decode cX3_init 35 = .ok (.iinc 1 1, 3) := by decide +kernel
theorem dX3_init_38 : decode cX3_init 38 = .ok (.goto (-23), 3) := by decide +kernel
theorem dX3_init_41 : decode cX3_init 41 = .ok (.return_, 1) := by decide +kernel
theorem dX3_fits_0 : decode cX3_fits 0 = .ok (.iload_n 0, 1) := by decide +kernel
theorem dX3_fits_1 : decode cX3_fits 1 = .ok (.ifCond .lt 31, 3) := by decide +kernel
theorem dX3_fits_4 : decode cX3_fits 4 = .ok (.iload_n 0, 1) := by decide +kernel
theorem dX3_fits_5 : decode cX3_fits 5 = .ok (.bipush 11, 2) := by decide +kernel
theorem dX3_fits_7 : decode cX3_fits 7 = .ok (.if_icmp .gt 25, 3) := by decide +kernel
theorem dX3_fits_10 : decode cX3_fits 10 = .ok (.iload_n 1, 1) := by decide +kernel
theorem dX3_fits_11 : decode cX3_fits 11 = .ok (.getstatic 22, 3) := by decide +kernel
theorem dX3_fits_14 : decode cX3_fits 14 = .ok (.iload_n 0, 1) := by decide +kernel
theorem dX3_fits_15 : decode cX3_fits 15 = .ok (.iaload, 1) := by decide +kernel
theorem dX3_fits_16 : decode cX3_fits 16 = .ok (.if_icmp .lt 16, 3) := by decide +kernel
theorem dX3_fits_19 : decode cX3_fits 19 = .ok (.iload_n 1, 1) := by decide +kernel
theorem dX3_fits_20 : decode cX3_fits 20 = .ok (.getstatic 25, 3) := by decide +kernel
theorem dX3_fits_23 : decode cX3_fits 23 = .ok (.iload_n 0, 1) := by decide +kernel
theorem dX3_fits_24 : decode cX3_fits 24 = .ok (.iaload, 1) := by decide +kernel
theorem dX3_fits_25 : decode cX3_fits 25 = .ok (.if_icmp .gt 7, 3) := by decide +kernel
theorem dX3_fits_28 : decode cX3_fits 28 = .ok (.iconst 1, 1) := by decide +kernel
theorem dX3_fits_29 : decode cX3_fits 29 = .ok (.goto 4, 3) := by decide +kernel
theorem dX3_fits_32 : decode cX3_fits 32 = .ok (.iconst 0, 1) := by decide +kernel
theorem dX3_fits_33 : decode cX3_fits 33 = .ok (.ireturn, 1) := by decide +kernel
theorem dX3_add_0 : decode cX3_add 0 = .ok (.aload_n 0, 1) := by decide +kernel
theorem dX3_add_1 : decode cX3_add 1 = .ok (.getfield 28, 3) := by decide +kernel
theorem dX3_add_4 : decode cX3_add 4 = .ok (.iconst 3, 1) := by decide +kernel
theorem dX3_add_5 : decode cX3_add 5 = .ok (.if_icmp .lt 6, 3) := by decide +kernel
theorem dX3_add_8 : decode cX3_add 8 = .ok (.bipush (-3), 2) := by decide +kernel
theorem dX3_add_10 : decode cX3_add 10 = .ok (.ireturn, 1) := by decide +kernel
theorem dX3_add_11 : decode cX3_add 11 = .ok (.aload_n 0, 1) := by decide +kernel
theorem dX3_add_12 : decode cX3_add 12 = .ok (.getfield 28, 3) := by decide +kernel
theorem dX3_add_15 : decode cX3_add 15 = .ok (.bipush 8, 2) := by decide +kernel
theorem dX3_add_17 : decode cX3_add 17 = .ok (.imul, 1) := by decide +kernel
theorem dX3_add_18 : decode cX3_add 18 = .ok (.istore 4, 2) := by decide +kernel
theorem dX3_add_20 : decode cX3_add 20 = .ok (.getstatic 19, 3) := by decide +kernel
theorem dX3_add_23 : decode cX3_add 23 = .ok (.iconst 0, 1) := by decide +kernel
theorem dX3_add_24 : decode cX3_add 24 = .ok (.aload_n 0, 1) := by decide +kernel
theorem dX3_add_25 : decode cX3_add 25 = .ok (.getfield 9, 3) := by decide +kernel
theorem dX3_add_28 : decode cX3_add 28 = .ok (.iload 4, 2) := by decide +kernel
theorem dX3_add_30 : decode cX3_add 30 = .ok (.bipush 8, 2) := by decide +kernel
theorem dX3_add_32 : decode cX3_add 32 = .ok (.invokestatic 32, 3) := by decide +kernel
theorem dX3_add_35 : decode cX3_add 35 = .ok (.aload_n 0, 1) := by decide +kernel
theorem dX3_add_36 : decode cX3_add 36 = .ok (.getfield 9, 3) := by decide +kernel
theorem dX3_add_39 : decode cX3_add 39 = .ok (.iload 4, 2) := by decide +kernel
theorem dX3_add_41 : decode cX3_add 41 = .ok (.iconst 0, 1) := by decide +kernel
theorem dX3_add_42 : decode cX3_add 42 = .ok (.iadd, 1) := by decide +kernel
theorem dX3_add_43 : decode cX3_add 43 = .ok (.iload_n 1, 1) := by decide +kernel
theorem dX3_add_44 : decode cX3_add 44 = .ok (.iastore, 1) := by decide +kernel
theorem dX3_add_45 : decode cX3_add 45 = .ok (.aload_n 0, 1) := by decide +kernel
theorem dX3_add_46 : decode cX3_add 46 = .ok (.getfield 9, 3) := by decide +kernel
theorem dX3_add_49 : decode cX3_add 49 = .ok (.iload 4, 2) := by decide +kernel
theorem dX3_add_51 : decode cX3_add 51 = .ok (.iconst 1, 1) := by decide +kernel
theorem dX3_add_52 : decode cX3_add 52 = .ok (.iadd, 1) := by decide +kernel
theorem dX3_add_53 : decode cX3_add 53 = .ok (.iload_n 2, 1) := by decide +kernel
theorem dX3_add_54 : decode cX3_add 54 = .ok (.iastore, 1) := by decide +kernel
theorem dX3_add_55 : decode cX3_add 55 = .ok (.aload_n 0, 1) := by decide +kernel
theorem dX3_add_56 : decode cX3_add 56 = .ok (.getfield 9, 3) := by decide +kernel
theorem dX3_add_59 : decode cX3_add 59 = .ok (.iload 4, 2) := by decide +kernel
theorem dX3_add_61 : decode cX3_add 61 = .ok (.iconst 2, 1) := by decide +kernel
theorem dX3_add_62 : decode cX3_add 62 = .ok (.iadd, 1) := by decide +kernel
theorem dX3_add_63 : decode cX3_add 63 = .ok (.iload_n 3, 1) := by decide +kernel
theorem dX3_add_64 : decode cX3_add 64 = .ok (.iastore, 1) := by decide +kernel
theorem dX3_add_65 : decode cX3_add 65 = .ok (.aload_n 0, 1) := by decide +kernel
theorem dX3_add_66 : decode cX3_add 66 = .ok (.dup, 1) := by decide +kernel
theorem dX3_add_67 : decode cX3_add 67 = .ok (.getfield 28, 3) := by decide +kernel
theorem dX3_add_70 : decode cX3_add 70 = .ok (.iconst 1, 1) := by decide +kernel
theorem dX3_add_71 : decode cX3_add 71 = .ok (.iadd, 1) := by decide +kernel
theorem dX3_add_72 : decode cX3_add 72 = .ok (.putfield 28, 3) := by decide +kernel
theorem dX3_add_75 : decode cX3_add 75 = .ok (.aload_n 0, 1) := by decide +kernel
theorem dX3_add_76 : decode cX3_add 76 = .ok (.getfield 28, 3) := by decide +kernel
theorem dX3_add_79 : decode cX3_add 79 = .ok (.iconst 1, 1) := by decide +kernel
theorem dX3_add_80 : decode cX3_add 80 = .ok (.isub, 1) := by decide +kernel
theorem dX3_add_81 : decode cX3_add 81 = .ok (.ireturn, 1) := by decide +kernel
theorem dX3_place_0 : decode cX3_place 0 = .ok (.iload_n 2, 1) := by decide +kernel
theorem dX3_place_1 : decode cX3_place 1 = .ok (.ifCond .lt 9, 3) := by decide +kernel
theorem dX3_place_4 : decode cX3_place 4 = .ok (.iload_n 2, 1) := by decide +kernel
theorem dX3_place_5 : decode cX3_place 5 = .ok (.bipush 11, 2) := by decide +kernel
theorem dX3_place_7 : decode cX3_place 7 = .ok (.if_icmp .le 5, 3) := by decide +kernel
theorem dX3_place_10 : decode cX3_place 10 = .ok (.iconst (-1), 1) := by decide +kernel
theorem dX3_place_11 : decode cX3_place 11 = .ok (.ireturn, 1) := by decide +kernel
theorem dX3_place_12 : decode cX3_place 12 = .ok (.iload_n 2, 1) := by decide +kernel
theorem dX3_place_13 : decode cX3_place 13 = .ok (.bipush 8, 2) := by decide +kernel
theorem dX3_place_15 : decode cX3_place 15 = .ok (.if_icmp .lt 16, 3) := by decide +kernel
theorem dX3_place_18 : decode cX3_place 18 = .ok (.iload_n 1, 1) := by decide +kernel
theorem dX3_place_19 : decode cX3_place 19 = .ok (.ifCond .ne 10, 3) := by decide +kernel
theorem dX3_place_22 : decode cX3_place 22 = .ok (.iload_n 2, 1) := by decide +kernel
theorem dX3_place_23 : decode cX3_place 23 = .ok (.invokestatic 15, 3) := by decide +kernel
theorem dX3_place_26 : decode cX3_place 26 = .ok (.goto 4, 3) := by decide +kernel
theorem dX3_place_29 : decode cX3_place 29 = .ok (.iconst (-1), 1) := by decide +kernel
theorem dX3_place_30 : decode cX3_place 30 = .ok (.ireturn, 1) := by decide +kernel
theorem dX3_place_31 : decode cX3_place 31 = .ok (.iload_n 1, 1) := by decide +kernel
theorem dX3_place_32 : decode cX3_place 32 = .ok (.ifCond .lt 20, 3) := by decide +kernel
theorem dX3_place_35 : decode cX3_place 35 = .ok (.iload_n 1, 1) := by decide +kernel
theorem dX3_place_36 : decode cX3_place 36 = .ok (.aload_n 0, 1) := by decide +kernel
theorem dX3_place_37 : decode cX3_place 37 = .ok (.getfield 28, 3) := by decide +kernel
theorem dX3_place_40 : decode cX3_place 40 = .ok (.if_icmp .ge 12, 3) := by decide +kernel
theorem dX3_place_43 : decode cX3_place 43 = .ok (.iload_n 1, 1) := by decide +kernel
theorem dX3_place_44 : decode cX3_place 44 = .ok (.bipush 8, 2) := by decide +kernel
theorem dX3_place_46 : decode cX3_place 46 = .ok (.imul, 1) := by decide +kernel
theorem dX3_place_47 : decode cX3_place 47 = .ok (.iload_n 2, 1) := by decide +kernel
theorem dX3_place_48 : decode cX3_place 48 = .ok (.iadd, 1) := by decide +kernel
theorem dX3_place_49 : decode cX3_place 49 = .ok (.goto 4, 3) := by decide +kernel
theorem dX3_place_52 : decode cX3_place 52 = .ok (.iconst (-1), 1) := by decide +kernel
theorem dX3_place_53 : decode cX3_place 53 = .ok (.ireturn, 1) := by decide +kernel
theorem dX3_ofStraw_0 : decode cX3_ofStraw 0 = .ok (.aload_n 0, 1) := by decide +kernel
theorem dX3_ofStraw_1 : decode cX3_ofStraw 1 = .ok (.getfield 9, 3) := by decide +kernel
theorem dX3_ofStraw_4 : decode cX3_ofStraw 4 = .ok (.iload_n 1, 1) := by decide +kernel
theorem dX3_ofStraw_5 : decode cX3_ofStraw 5 = .ok (.bipush 8, 2) := by decide +kernel
theorem dX3_ofStraw_7 : decode cX3_ofStraw 7 = .ok (.imul, 1) := by decide +kernel
theorem dX3_ofStraw_8 : decode cX3_ofStraw 8 = .ok (.iload_n 2, 1) := by decide +kernel
theorem dX3_ofStraw_9 : decode cX3_ofStraw 9 = .ok (.iadd, 1) := by decide +kernel
theorem dX3_ofStraw_10 : decode cX3_ofStraw 10 = .ok (.iaload, 1) := by decide +kernel
theorem dX3_ofStraw_11 : decode cX3_ofStraw 11 = .ok (.ireturn, 1) := by decide +kernel
theorem dX3_ofGlass_0 : decode cX3_ofGlass 0 = .ok (.aload_n 0, 1) := by decide +kernel
theorem dX3_ofGlass_1 : decode cX3_ofGlass 1 = .ok (.getfield 9, 3) := by decide +kernel
theorem dX3_ofGlass_4 : decode cX3_ofGlass 4 = .ok (.iload_n 1, 1) := by decide +kernel
theorem dX3_ofGlass_5 : decode cX3_ofGlass 5 = .ok (.invokestatic 15, 3) := by decide +kernel
theorem dX3_ofGlass_8 : decode cX3_ofGlass 8 = .ok (.iaload, 1) := by decide +kernel
theorem dX3_ofGlass_9 : decode cX3_ofGlass 9 = .ok (.ireturn, 1) := by decide +kernel
theorem dX3_glassPlace_0 : decode cX3_glassPlace 0 = .ok (.bipush 24, 2) := by decide +kernel
theorem dX3_glassPlace_2 : decode cX3_glassPlace 2 = .ok (.iload_n 0, 1) := by decide +kernel
theorem dX3_glassPlace_3 : decode cX3_glassPlace 3 = .ok (.iadd, 1) := by decide +kernel
theorem dX3_glassPlace_4 : decode cX3_glassPlace 4 = .ok (.bipush 8, 2) := by decide +kernel
theorem dX3_glassPlace_6 : decode cX3_glassPlace 6 = .ok (.isub, 1) := by decide +kernel
theorem dX3_glassPlace_7 : decode cX3_glassPlace 7 = .ok (.ireturn, 1) := by decide +kernel
theorem dX3_isDrawing_0 : decode cX3_isDrawing 0 = .ok (.iload_n 1, 1) := by decide +kernel
theorem dX3_isDrawing_1 : decode cX3_isDrawing 1 = .ok (.bipush 8, 2) := by decide +kernel
theorem dX3_isDrawing_3 : decode cX3_isDrawing 3 = .ok (.imul, 1) := by decide +kernel
theorem dX3_isDrawing_4 : decode cX3_isDrawing 4 = .ok (.istore 4, 2) := by decide +kernel
theorem dX3_isDrawing_6 : decode cX3_isDrawing 6 = .ok (.iload_n 3, 1) := by decide +kernel
theorem dX3_isDrawing_7 : decode cX3_isDrawing 7 = .ok (.ifCond .ne 19, 3) := by decide +kernel
theorem dX3_isDrawing_10 : decode cX3_isDrawing 10 = .ok (.iload_n 2, 1) := by decide +kernel
theorem dX3_isDrawing_11 : decode cX3_isDrawing 11 = .ok (.aload_n 0, 1) := by decide +kernel
theorem dX3_isDrawing_12 : decode cX3_isDrawing 12 = .ok (.getfield 9, 3) := by decide +kernel
theorem dX3_isDrawing_15 : decode cX3_isDrawing 15 = .ok (.iload 4, 2) := by decide +kernel
theorem dX3_isDrawing_17 : decode cX3_isDrawing 17 = .ok (.bipush 7, 2) := by decide +kernel
theorem dX3_isDrawing_19 : decode cX3_isDrawing 19 = .ok (.iadd, 1) := by decide +kernel
theorem dX3_isDrawing_20 : decode cX3_isDrawing 20 = .ok (.iaload, 1) := by decide +kernel
theorem dX3_isDrawing_21 : decode cX3_isDrawing 21 = .ok (.if_icmp .lt 5, 3) := by decide +kernel
theorem dX3_isDrawing_24 : decode cX3_isDrawing 24 = .ok (.iconst 0, 1) := by decide +kernel
theorem dX3_isDrawing_25 : decode cX3_isDrawing 25 = .ok (.ireturn, 1) := by decide +kernel
theorem dX3_isDrawing_26 : decode cX3_isDrawing 26 = .ok (.aload_n 0, 1) := by decide +kernel
theorem dX3_isDrawing_27 : decode cX3_isDrawing 27 = .ok (.getfield 9, 3) := by decide +kernel
theorem dX3_isDrawing_30 : decode cX3_isDrawing 30 = .ok (.iload 4, 2) := by decide +kernel
theorem dX3_isDrawing_32 : decode cX3_isDrawing 32 = .ok (.iconst 4, 1) := by decide +kernel
theorem dX3_isDrawing_33 : decode cX3_isDrawing 33 = .ok (.iadd, 1) := by decide +kernel
theorem dX3_isDrawing_34 : decode cX3_isDrawing 34 = .ok (.iaload, 1) := by decide +kernel
theorem dX3_isDrawing_35 : decode cX3_isDrawing 35 = .ok (.istore 5, 2) := by decide +kernel
theorem dX3_isDrawing_37 : decode cX3_isDrawing 37 = .ok (.iload 5, 2) := by decide +kernel
theorem dX3_isDrawing_39 : decode cX3_isDrawing 39 = .ok (.aload_n 0, 1) := by decide +kernel
theorem dX3_isDrawing_40 : decode cX3_isDrawing 40 = .ok (.getfield 9, 3) := by decide +kernel
theorem dX3_isDrawing_43 : decode cX3_isDrawing 43 = .ok (.iload 4, 2) := by decide +kernel
theorem dX3_isDrawing_45 : decode cX3_isDrawing 45 = .ok (.iconst 5, 1) := by decide +kernel
theorem dX3_isDrawing_46 : decode cX3_isDrawing 46 = .ok (.iadd, 1) := by decide +kernel
theorem dX3_isDrawing_47 : decode cX3_isDrawing 47 = .ok (.iaload, 1) := by decide +kernel
theorem dX3_isDrawing_48 : decode cX3_isDrawing 48 = .ok (.iadd, 1) := by decide +kernel
theorem dX3_isDrawing_49 : decode cX3_isDrawing 49 = .ok (.istore 6, 2) := by decide +kernel
theorem dX3_isDrawing_51 : decode cX3_isDrawing 51 = .ok (.iload 6, 2) := by decide +kernel
theorem dX3_isDrawing_53 : decode cX3_isDrawing 53 = .ok (.ifCond .le 16, 3) := by decide +kernel
theorem dX3_isDrawing_56 : decode cX3_isDrawing 56 = .ok (.iload_n 2, 1) := by decide +kernel
theorem dX3_isDrawing_57 : decode cX3_isDrawing 57 = .ok (.iload 6, 2) := by decide +kernel
theorem dX3_isDrawing_59 : decode cX3_isDrawing 59 = .ok (.irem, 1) := by decide +kernel
theorem dX3_isDrawing_60 : decode cX3_isDrawing 60 = .ok (.iload 5, 2) := by decide +kernel
theorem dX3_isDrawing_62 : decode cX3_isDrawing 62 = .ok (.if_icmp .ge 7, 3) := by decide +kernel
theorem dX3_isDrawing_65 : decode cX3_isDrawing 65 = .ok (.iconst 1, 1) := by decide +kernel
theorem dX3_isDrawing_66 : decode cX3_isDrawing 66 = .ok (.goto 4, 3) := by decide +kernel
theorem dX3_isDrawing_69 : decode cX3_isDrawing 69 = .ok (.iconst 0, 1) := by decide +kernel
theorem dX3_isDrawing_70 : decode cX3_isDrawing 70 = .ok (.ireturn, 1) := by decide +kernel
theorem dX3_sweetness_0 : decode cX3_sweetness 0 = .ok (.aload_n 0, 1) := by decide +kernel
theorem dX3_sweetness_1 : decode cX3_sweetness 1 = .ok (.iload_n 1, 1) := by decide +kernel
theorem dX3_sweetness_2 : decode cX3_sweetness 2 = .ok (.iconst 2, 1) := by decide +kernel
theorem dX3_sweetness_3 : decode cX3_sweetness 3 = .ok (.invokevirtual 38, 3) := by decide +kernel
theorem dX3_sweetness_6 : decode cX3_sweetness 6 = .ok (.aload_n 0, 1) := by decide +kernel
theorem dX3_sweetness_7 : decode cX3_sweetness 7 = .ok (.bipush 9, 2) := by decide +kernel
theorem dX3_sweetness_9 : decode cX3_sweetness 9 = .ok (.invokevirtual 42, 3) := by decide +kernel
theorem dX3_sweetness_12 : decode cX3_sweetness 12 = .ok (.if_icmp .ge 14, 3) := by decide +kernel
theorem dX3_sweetness_15 : decode cX3_sweetness 15 = .ok (.iconst 1, 1) := by decide +kernel
theorem dX3_sweetness_16 : decode cX3_sweetness 16 = .ok (.aload_n 0, 1) := by decide +kernel
theorem dX3_sweetness_17 : decode cX3_sweetness 17 = .ok (.bipush 10, 2) := by decide +kernel
theorem dX3_sweetness_19 : decode cX3_sweetness 19 = .ok (.invokevirtual 42, 3) := by decide +kernel
theorem dX3_sweetness_22 : decode cX3_sweetness 22 = .ok (.iadd, 1) := by decide +kernel
theorem dX3_sweetness_23 : decode cX3_sweetness 23 = .ok (.goto 4, 3) := by decide +kernel
theorem dX3_sweetness_26 : decode cX3_sweetness 26 = .ok (.iconst 1, 1) := by decide +kernel
theorem dX3_sweetness_27 : decode cX3_sweetness 27 = .ok (.ireturn, 1) := by decide +kernel
theorem dX3_lowestReach_0 : decode cX3_lowestReach 0 = .ok (.sipush 999, 3) := by decide +kernel
theorem dX3_lowestReach_3 : decode cX3_lowestReach 3 = .ok (.istore_n 1, 1) := by decide +kernel
theorem dX3_lowestReach_4 : decode cX3_lowestReach 4 = .ok (.iconst 0, 1) := by decide +kernel
theorem dX3_lowestReach_5 : decode cX3_lowestReach 5 = .ok (.istore_n 2, 1) := by decide +kernel
theorem dX3_lowestReach_6 : decode cX3_lowestReach 6 = .ok (.iload_n 2, 1) := by decide +kernel
theorem dX3_lowestReach_7 : decode cX3_lowestReach 7 = .ok (.aload_n 0, 1) := by decide +kernel
theorem dX3_lowestReach_8 : decode cX3_lowestReach 8 = .ok (.getfield 28, 3) := by decide +kernel
theorem dX3_lowestReach_11 : decode cX3_lowestReach 11 = .ok (.if_icmp .ge 20, 3) := by decide +kernel
theorem dX3_lowestReach_14 : decode cX3_lowestReach 14 = .ok (.iload_n 1, 1) := by decide +kernel
theorem dX3_lowestReach_15 : decode cX3_lowestReach 15 = .ok (.aload_n 0, 1) := by decide +kernel
theorem dX3_lowestReach_16 : decode cX3_lowestReach 16 = .ok (.iload_n 2, 1) := by decide +kernel
theorem dX3_lowestReach_17 : decode cX3_lowestReach 17 = .ok (.iconst 2, 1) := by decide +kernel
theorem dX3_lowestReach_18 : decode cX3_lowestReach 18 = .ok (.invokevirtual 38, 3) := by decide +kernel
theorem dX3_lowestReach_21 : decode cX3_lowestReach 21 = .ok (.invokestatic 45, 3) := by decide +kernel
theorem dX3_lowestReach_24 : decode cX3_lowestReach 24 = .ok (.istore_n 1, 1) := by decide +kernel
theorem dX3_lowestReach_25 : decode cX3_lowestReach 25 = .ok (.iinc 2 1, 3) := by decide +kernel
theorem dX3_lowestReach_28 : decode cX3_lowestReach 28 = .ok (.goto (-22), 3) := by decide +kernel
theorem dX3_lowestReach_31 : decode cX3_lowestReach 31 = .ok (.iload_n 1, 1) := by decide +kernel
theorem dX3_lowestReach_32 : decode cX3_lowestReach 32 = .ok (.ireturn, 1) := by decide +kernel
theorem dX4_init_0 : decode cX4_init 0 = .ok (.aload_n 0, 1) := by decide +kernel
theorem dX4_init_1 : decode cX4_init 1 = .ok (.invokespecial 3, 3) := by decide +kernel
theorem dX4_init_4 : decode cX4_init 4 = .ok (.aload_n 0, 1) := by decide +kernel
theorem dX4_init_5 : decode cX4_init 5 = .ok (.bipush (-2), 2) := by decide +kernel
theorem dX4_init_7 : decode cX4_init 7 = .ok (.putfield 9, 3) := by decide +kernel
theorem dX4_init_10 : decode cX4_init 10 = .ok (.aload_n 0, 1) := by decide +kernel
theorem dX4_init_11 : decode cX4_init 11 = .ok (.bipush 60, 2) := by decide +kernel
theorem dX4_init_13 : decode cX4_init 13 = .ok (.newarray .long, 2) := by decide +kernel
theorem dX4_init_15 : decode cX4_init 15 = .ok (.putfield 15, 3) := by decide +kernel
theorem dX4_init_18 : decode cX4_init 18 = .ok (.return_, 1) := by decide +kernel
theorem dX4_clear_0 : decode cX4_clear 0 = .ok (.aload_n 0, 1) := by decide +kernel
theorem dX4_clear_1 : decode cX4_clear 1 = .ok (.bipush (-2), 2) := by decide +kernel
theorem dX4_clear_3 : decode cX4_clear 3 = .ok (.putfield 9, 3) := by decide +kernel
theorem dX4_clear_6 : decode cX4_clear 6 = .ok (.aload_n 0, 1) := by decide +kernel
theorem dX4_clear_7 : decode cX4_clear 7 = .ok (.iconst 0, 1) := by decide +kernel
theorem dX4_clear_8 : decode cX4_clear 8 = .ok (.putfield 19, 3) := by decide +kernel
theorem dX4_clear_11 : decode cX4_clear 11 = .ok (.return_, 1) := by decide +kernel
theorem dX4_holdSip_0 : decode cX4_holdSip 0 = .ok (.aload_n 0, 1) := by decide +kernel
theorem dX4_holdSip_1 : decode cX4_holdSip 1 = .ok (.iconst (-1), 1) := by decide +kernel
theorem dX4_holdSip_2 : decode cX4_holdSip 2 = .ok (.putfield 9, 3) := by decide +kernel
theorem dX4_holdSip_5 : decode cX4_holdSip 5 = .ok (.aload_n 0, 1) := by decide +kernel
theorem dX4_holdSip_6 : decode cX4_holdSip 6 = .ok (.iconst 0, 1) := by decide +kernel
theorem dX4_holdSip_7 : decode cX4_holdSip 7 = .ok (.putfield 19, 3) := by decide +kernel
theorem dX4_holdSip_10 : decode cX4_holdSip 10 = .ok (.aload_n 0, 1) := by decide +kernel
theorem dX4_holdSip_11 : decode cX4_holdSip 11 = .ok (.iload_n 1, 1) := by decide +kernel
theorem dX4_holdSip_12 : decode cX4_holdSip 12 = .ok (.putfield 22, 3) := by decide +kernel
theorem dX4_holdSip_15 : decode cX4_holdSip 15 = .ok (.return_, 1) := by decide +kernel
theorem dX4_holdRow_0 : decode cX4_holdRow 0 = .ok (.aload_n 0, 1) := by decide +kernel
theorem dX4_holdRow_1 : decode cX4_holdRow 1 = .ok (.iload_n 1, 1) := by decide +kernel
theorem dX4_holdRow_2 : decode cX4_holdRow 2 = .ok (.putfield 9, 3) := by decide +kernel
theorem dX4_holdRow_5 : decode cX4_holdRow 5 = .ok (.aload_n 0, 1) := by decide +kernel
theorem dX4_holdRow_6 : decode cX4_holdRow 6 = .ok (.iload_n 2, 1) := by decide +kernel
theorem dX4_holdRow_7 : decode cX4_holdRow 7 = .ok (.putfield 19, 3) := by decide +kernel
theorem dX4_holdRow_10 : decode cX4_holdRow 10 = .ok (.iconst 0, 1) := by decide +kernel
theorem dX4_holdRow_11 : decode cX4_holdRow 11 = .ok (.istore_n 3, 1) := by decide +kernel
theorem dX4_holdRow_12 : decode cX4_holdRow 12 = .ok (.iload_n 3, 1) := by decide +kernel
theorem dX4_holdRow_13 : decode cX4_holdRow 13 = .ok (.bipush 60, 2) := by decide +kernel
theorem dX4_holdRow_15 : decode cX4_holdRow 15 = .ok (.if_icmp .ge 16, 3) := by decide +kernel
theorem dX4_holdRow_18 : decode cX4_holdRow 18 = .ok (.aload_n 0, 1) := by decide +kernel
theorem dX4_holdRow_19 : decode cX4_holdRow 19 = .ok (.getfield 15, 3) := by decide +kernel
theorem dX4_holdRow_22 : decode cX4_holdRow 22 = .ok (.iload_n 3, 1) := by decide +kernel
theorem dX4_holdRow_23 : decode cX4_holdRow 23 = .ok (.lconst 0, 1) := by decide +kernel
theorem dX4_holdRow_24 : decode cX4_holdRow 24 = .ok (.lastore, 1) := by decide +kernel
theorem dX4_holdRow_25 : decode cX4_holdRow 25 = .ok (.iinc 3 1, 3) := by decide +kernel
theorem dX4_holdRow_28 : decode cX4_holdRow 28 = .ok (.goto (-16), 3) := by decide +kernel
theorem dX4_holdRow_31 : decode cX4_holdRow 31 = .ok (.return_, 1) := by decide +kernel
theorem dX4_hasPlaces_0 : decode cX4_hasPlaces 0 = .ok (.iload_n 1, 1) := by decide +kernel
theorem dX4_hasPlaces_1 : decode cX4_hasPlaces 1 = .ok (.ifCond .lt 29, 3) := by decide +kernel
theorem dX4_hasPlaces_4 : decode cX4_hasPlaces 4 = .ok (.iload_n 2, 1) := by decide +kernel
theorem dX4_hasPlaces_5 : decode cX4_hasPlaces 5 = .ok (.ifCond .lt 25, 3) := by decide +kernel
theorem dX4_hasPlaces_8 : decode cX4_hasPlaces 8 = .ok (.iload_n 1, 1) := by decide +kernel
theorem dX4_hasPlaces_9 : decode cX4_hasPlaces 9 = .ok (.aload_n 0, 1) := by decide +kernel
theorem dX4_hasPlaces_10 : decode cX4_hasPlaces 10 = .ok (.getfield 19, 3) := by decide +kernel
theorem dX4_hasPlaces_13 : decode cX4_hasPlaces 13 = .ok (.if_icmp .gt 17, 3) := by decide +kernel
theorem dX4_hasPlaces_16 : decode cX4_hasPlaces 16 = .ok (.iload_n 2, 1) := by decide +kernel
theorem dX4_hasPlaces_17 : decode cX4_hasPlaces 17 = .ok (.aload_n 0, 1) := by decide +kernel
theorem dX4_hasPlaces_18 : decode cX4_hasPlaces 18 = .ok (.getfield 19, 3) := by decide +kernel
theorem dX4_hasPlaces_21 : decode cX4_hasPlaces 21 = .ok (.iload_n 1, 1) := by decide +kernel
theorem dX4_hasPlaces_22 : decode cX4_hasPlaces 22 = .ok (.isub, 1) := by decide +kernel
theorem dX4_hasPlaces_23 : decode cX4_hasPlaces 23 = .ok (.if_icmp .gt 7, 3) := by decide +kernel
theorem dX4_hasPlaces_26 : decode cX4_hasPlaces 26 = .ok (.iconst 1, 1) := by decide +kernel
theorem dX4_hasPlaces_27 : decode cX4_hasPlaces 27 = .ok (.goto 4, 3) := by decide +kernel
theorem dX4_hasPlaces_30 : decode cX4_hasPlaces 30 = .ok (.iconst 0, 1) := by decide +kernel
theorem dX4_hasPlaces_31 : decode cX4_hasPlaces 31 = .ok (.ireturn, 1) := by decide +kernel
theorem dX4_cut_0 : decode cX4_cut 0 = .ok (.iload_n 0, 1) := by decide +kernel
theorem dX4_cut_1 : decode cX4_cut 1 = .ok (.tableswitch 61 0 4 #[35, 40, 45, 61, 49], 35) := by decide +kernel
theorem dX4_cut_36 : decode cX4_cut 36 = .ok (.lload_n 1, 1) := by decide +kernel
theorem dX4_cut_37 : decode cX4_cut 37 = .ok (.l2i, 1) := by decide +kernel
theorem dX4_cut_38 : decode cX4_cut 38 = .ok (.i2b, 1) := by decide +kernel
theorem dX4_cut_39 : decode cX4_cut 39 = .ok (.i2l, 1) := by decide +kernel
theorem dX4_cut_40 : decode cX4_cut 40 = .ok (.lreturn, 1) := by decide +kernel
theorem dX4_cut_41 : decode cX4_cut 41 = .ok (.lload_n 1, 1) := by decide +kernel
theorem dX4_cut_42 : decode cX4_cut 42 = .ok (.l2i, 1) := by decide +kernel
theorem dX4_cut_43 : decode cX4_cut 43 = .ok (.i2s, 1) := by decide +kernel
theorem dX4_cut_44 : decode cX4_cut 44 = .ok (.i2l, 1) := by decide +kernel
theorem dX4_cut_45 : decode cX4_cut 45 = .ok (.lreturn, 1) := by decide +kernel
theorem dX4_cut_46 : decode cX4_cut 46 = .ok (.lload_n 1, 1) := by decide +kernel
theorem dX4_cut_47 : decode cX4_cut 47 = .ok (.l2i, 1) := by decide +kernel
theorem dX4_cut_48 : decode cX4_cut 48 = .ok (.i2l, 1) := by decide +kernel
theorem dX4_cut_49 : decode cX4_cut 49 = .ok (.lreturn, 1) := by decide +kernel
theorem dX4_cut_50 : decode cX4_cut 50 = .ok (.lload_n 1, 1) := by decide +kernel
theorem dX4_cut_51 : decode cX4_cut 51 = .ok (.lconst 0, 1) := by decide +kernel
theorem dX4_cut_52 : decode cX4_cut 52 = .ok (.lcmp, 1) := by decide +kernel
theorem dX4_cut_53 : decode cX4_cut 53 = .ok (.ifCond .eq 7, 3) := by decide +kernel
theorem dX4_cut_56 : decode cX4_cut 56 = .ok (.lconst 1, 1) := by decide +kernel
theorem dX4_cut_57 : decode cX4_cut 57 = .ok (.goto 4, 3) := by decide +kernel
theorem dX4_cut_60 : decode cX4_cut 60 = .ok (.lconst 0, 1) := by decide +kernel
theorem dX4_cut_61 : decode cX4_cut 61 = .ok (.lreturn, 1) := by decide +kernel
theorem dX4_cut_62 : decode cX4_cut 62 = .ok (.lload_n 1, 1) := by decide +kernel
theorem dX4_cut_63 : decode cX4_cut 63 = .ok (.lreturn, 1) := by decide +kernel
theorem dX5_init_0 : decode cX5_init 0 = .ok (.aload_n 0, 1) := by decide +kernel
theorem dX5_init_1 : decode cX5_init 1 = .ok (.invokespecial 3, 3) := by decide +kernel
theorem dX5_init_4 : decode cX5_init 4 = .ok (.aload_n 0, 1) := by decide +kernel
theorem dX5_init_5 : decode cX5_init 5 = .ok (.bipush 50, 2) := by decide +kernel
theorem dX5_init_7 : decode cX5_init 7 = .ok (.newarray .int, 2) := by decide +kernel
theorem dX5_init_9 : decode cX5_init 9 = .ok (.putfield 11, 3) := by decide +kernel
theorem dX5_init_12 : decode cX5_init 12 = .ok (.aload_n 0, 1) := by decide +kernel
theorem dX5_init_13 : decode cX5_init 13 = .ok (.bipush 24, 2) := by decide +kernel
theorem dX5_init_15 : decode cX5_init 15 = .ok (.newarray .int, 2) := by decide +kernel
theorem dX5_init_17 : decode cX5_init 17 = .ok (.putfield 15, 3) := by decide +kernel
theorem dX5_init_20 : decode cX5_init 20 = .ok (.return_, 1) := by decide +kernel
theorem dX5_add_0 : decode cX5_add 0 = .ok (.aload_n 0, 1) := by decide +kernel
theorem dX5_add_1 : decode cX5_add 1 = .ok (.getfield 18, 3) := by decide +kernel
theorem dX5_add_4 : decode cX5_add 4 = .ok (.bipush 50, 2) := by decide +kernel
theorem dX5_add_6 : decode cX5_add 6 = .ok (.if_icmp .lt 6, 3) := by decide +kernel
theorem dX5_add_9 : decode cX5_add 9 = .ok (.bipush (-3), 2) := by decide +kernel
theorem dX5_add_11 : decode cX5_add 11 = .ok (.ireturn, 1) := by decide +kernel
theorem dX5_add_12 : decode cX5_add 12 = .ok (.aload_n 0, 1) := by decide +kernel
theorem dX5_add_13 : decode cX5_add 13 = .ok (.getfield 11, 3) := by decide +kernel
theorem dX5_add_16 : decode cX5_add 16 = .ok (.aload_n 0, 1) := by decide +kernel
theorem dX5_add_17 : decode cX5_add 17 = .ok (.getfield 18, 3) := by decide +kernel
theorem dX5_add_20 : decode cX5_add 20 = .ok (.iload_n 1, 1) := by decide +kernel
theorem dX5_add_21 : decode cX5_add 21 = .ok (.iastore, 1) := by decide +kernel
theorem dX5_add_22 : decode cX5_add 22 = .ok (.aload_n 0, 1) := by decide +kernel
theorem dX5_add_23 : decode cX5_add 23 = .ok (.dup, 1) := by decide +kernel
theorem dX5_add_24 : decode cX5_add 24 = .ok (.getfield 18, 3) := by decide +kernel
theorem dX5_add_27 : decode cX5_add 27 = .ok (.iconst 1, 1) := by decide +kernel
theorem dX5_add_28 : decode cX5_add 28 = .ok (.iadd, 1) := by decide +kernel
theorem dX5_add_29 : decode cX5_add 29 = .ok (.putfield 18, 3) := by decide +kernel
theorem dX5_add_32 : decode cX5_add 32 = .ok (.aload_n 0, 1) := by decide +kernel
theorem dX5_add_33 : decode cX5_add 33 = .ok (.getfield 18, 3) := by decide +kernel
theorem dX5_add_36 : decode cX5_add 36 = .ok (.iconst 1, 1) := by decide +kernel
theorem dX5_add_37 : decode cX5_add 37 = .ok (.isub, 1) := by decide +kernel
theorem dX5_add_38 : decode cX5_add 38 = .ok (.ireturn, 1) := by decide +kernel
theorem dX5_has_0 : decode cX5_has 0 = .ok (.iload_n 1, 1) := by decide +kernel
theorem dX5_has_1 : decode cX5_has 1 = .ok (.ifCond .lt 15, 3) := by decide +kernel
theorem dX5_has_4 : decode cX5_has 4 = .ok (.iload_n 1, 1) := by decide +kernel
theorem dX5_has_5 : decode cX5_has 5 = .ok (.aload_n 0, 1) := by decide +kernel
theorem dX5_has_6 : decode cX5_has 6 = .ok (.getfield 18, 3) := by decide +kernel
theorem dX5_has_9 : decode cX5_has 9 = .ok (.if_icmp .ge 7, 3) := by decide +kernel
theorem dX5_has_12 : decode cX5_has 12 = .ok (.iconst 1, 1) := by decide +kernel
theorem dX5_has_13 : decode cX5_has 13 = .ok (.goto 4, 3) := by decide +kernel
theorem dX5_has_16 : decode cX5_has 16 = .ok (.iconst 0, 1) := by decide +kernel
theorem dX5_has_17 : decode cX5_has 17 = .ok (.ireturn, 1) := by decide +kernel
theorem dX5_kindOf_0 : decode cX5_kindOf 0 = .ok (.aload_n 0, 1) := by decide +kernel
theorem dX5_kindOf_1 : decode cX5_kindOf 1 = .ok (.iload_n 1, 1) := by decide +kernel
theorem dX5_kindOf_2 : decode cX5_kindOf 2 = .ok (.invokevirtual 22, 3) := by decide +kernel
theorem dX5_kindOf_5 : decode cX5_kindOf 5 = .ok (.ifCond .eq 12, 3) := by decide +kernel
theorem dX5_kindOf_8 : decode cX5_kindOf 8 = .ok (.aload_n 0, 1) := by decide +kernel
theorem dX5_kindOf_9 : decode cX5_kindOf 9 = .ok (.getfield 11, 3) := by decide +kernel
theorem dX5_kindOf_12 : decode cX5_kindOf 12 = .ok (.iload_n 1, 1) := by decide +kernel
theorem dX5_kindOf_13 : decode cX5_kindOf 13 = .ok (.iaload, 1) := by decide +kernel
theorem dX5_kindOf_14 : decode cX5_kindOf 14 = .ok (.goto 4, 3) := by decide +kernel
theorem dX5_kindOf_17 : decode cX5_kindOf 17 = .ok (.iconst 0, 1) := by decide +kernel
theorem dX5_kindOf_18 : decode cX5_kindOf 18 = .ok (.ireturn, 1) := by decide +kernel
theorem dX5_isUnder_0 : decode cX5_isUnder 0 = .ok (.iload_n 0, 1) := by decide +kernel
theorem dX5_isUnder_1 : decode cX5_isUnder 1 = .ok (.istore_n 2, 1) := by decide +kernel
theorem dX5_isUnder_2 : decode cX5_isUnder 2 = .ok (.iconst 0, 1) := by decide +kernel
theorem dX5_isUnder_3 : decode cX5_isUnder 3 = .ok (.istore_n 3, 1) := by decide +kernel
theorem dX5_isUnder_4 : decode cX5_isUnder 4 = .ok (.iload_n 3, 1) := by decide +kernel
theorem dX5_isUnder_5 : decode cX5_isUnder 5 = .ok (.bipush 8, 2) := by decide +kernel
theorem dX5_isUnder_7 : decode cX5_isUnder 7 = .ok (.if_icmp .ge 32, 3) := by decide +kernel
theorem dX5_isUnder_10 : decode cX5_isUnder 10 = .ok (.iload_n 2, 1) := by decide +kernel
theorem dX5_isUnder_11 : decode cX5_isUnder 11 = .ok (.ifCond .lt 28, 3) := by decide +kernel
theorem dX5_isUnder_14 : decode cX5_isUnder 14 = .ok (.iload_n 2, 1) := by decide +kernel
theorem dX5_isUnder_15 : decode cX5_isUnder 15 = .ok (.bipush 8, 2) := by decide +kernel
theorem dX5_isUnder_17 : decode cX5_isUnder 17 = .ok (.if_icmp .ge 22, 3) := by decide +kernel
theorem dX5_isUnder_20 : decode cX5_isUnder 20 = .ok (.iload_n 2, 1) := by decide +kernel
theorem dX5_isUnder_21 : decode cX5_isUnder 21 = .ok (.iload_n 1, 1) := by decide +kernel
theorem dX5_isUnder_22 : decode cX5_isUnder 22 = .ok (.if_icmp .ne 5, 3) := by decide +kernel
theorem dX5_isUnder_25 : decode cX5_isUnder 25 = .ok (.iconst 1, 1) := by decide +kernel
theorem dX5_isUnder_26 : decode cX5_isUnder 26 = .ok (.ireturn, 1) := by decide +kernel
theorem dX5_isUnder_27 : decode cX5_isUnder 27 = .ok (.getstatic 26, 3) := by decide +kernel
theorem dX5_isUnder_30 : decode cX5_isUnder 30 = .ok (.iload_n 2, 1) := by decide +kernel
theorem dX5_isUnder_31 : decode cX5_isUnder 31 = .ok (.iaload, 1) := by decide +kernel
theorem dX5_isUnder_32 : decode cX5_isUnder 32 = .ok (.istore_n 2, 1) := by decide +kernel
theorem dX5_isUnder_33 : decode cX5_isUnder 33 = .ok (.iinc 3 1, 3) := by decide +kernel
theorem dX5_isUnder_36 : decode cX5_isUnder 36 = .ok (.goto (-32), 3) := by decide +kernel
theorem dX5_isUnder_39 : decode cX5_isUnder 39 = .ok (.iconst 0, 1) := by decide +kernel
theorem dX5_isUnder_40 : decode cX5_isUnder 40 = .ok (.ireturn, 1) := by decide +kernel
theorem dX5_traced_0 : decode cX5_traced 0 = .ok (.iload_n 1, 1) := by decide +kernel
theorem dX5_traced_1 : decode cX5_traced 1 = .ok (.ifCond .lt 26, 3) := by decide +kernel
theorem dX5_traced_4 : decode cX5_traced 4 = .ok (.iload_n 1, 1) := by decide +kernel
theorem dX5_traced_5 : decode cX5_traced 5 = .ok (.aload_n 0, 1) := by decide +kernel
theorem dX5_traced_6 : decode cX5_traced 6 = .ok (.getfield 29, 3) := by decide +kernel
theorem dX5_traced_9 : decode cX5_traced 9 = .ok (.if_icmp .ge 18, 3) := by decide +kernel
theorem dX5_traced_12 : decode cX5_traced 12 = .ok (.iload_n 1, 1) := by decide +kernel
theorem dX5_traced_13 : decode cX5_traced 13 = .ok (.bipush 24, 2) := by decide +kernel
theorem dX5_traced_15 : decode cX5_traced 15 = .ok (.if_icmp .ge 12, 3) := by decide +kernel
theorem dX5_traced_18 : decode cX5_traced 18 = .ok (.aload_n 0, 1) := by decide +kernel
theorem dX5_traced_19 : decode cX5_traced 19 = .ok (.getfield 15, 3) := by decide +kernel
theorem dX5_traced_22 : decode cX5_traced 22 = .ok (.iload_n 1, 1) := by decide +kernel
theorem dX5_traced_23 : decode cX5_traced 23 = .ok (.iaload, 1) := by decide +kernel
theorem dX5_traced_24 : decode cX5_traced 24 = .ok (.goto 4, 3) := by decide +kernel
theorem dX5_traced_27 : decode cX5_traced 27 = .ok (.iconst (-1), 1) := by decide +kernel
theorem dX5_traced_28 : decode cX5_traced 28 = .ok (.ireturn, 1) := by decide +kernel
theorem dX5_begin_0 : decode cX5_begin 0 = .ok (.aload_n 0, 1) := by decide +kernel
theorem dX5_begin_1 : decode cX5_begin 1 = .ok (.iconst 0, 1) := by decide +kernel
theorem dX5_begin_2 : decode cX5_begin 2 = .ok (.putfield 29, 3) := by decide +kernel
theorem dX5_begin_5 : decode cX5_begin 5 = .ok (.aload_n 0, 1) := by decide +kernel
theorem dX5_begin_6 : decode cX5_begin 6 = .ok (.iload_n 1, 1) := by decide +kernel
theorem dX5_begin_7 : decode cX5_begin 7 = .ok (.invokevirtual 22, 3) := by decide +kernel
theorem dX5_begin_10 : decode cX5_begin 10 = .ok (.ifCond .eq 12, 3) := by decide +kernel
theorem dX5_begin_13 : decode cX5_begin 13 = .ok (.iload_n 2, 1) := by decide +kernel
theorem dX5_begin_14 : decode cX5_begin 14 = .ok (.ifCond .lt 8, 3) := by decide +kernel
theorem dX5_begin_17 : decode cX5_begin 17 = .ok (.iload_n 2, 1) := by decide +kernel
theorem dX5_begin_18 : decode cX5_begin 18 = .ok (.iconst 4, 1) := by decide +kernel
theorem dX5_begin_19 : decode cX5_begin 19 = .ok (.if_icmp .lt 5, 3) := by decide +kernel
theorem dX5_begin_22 : decode cX5_begin 22 = .ok (.iconst 0, 1) := by decide +kernel
theorem dX5_begin_23 : decode cX5_begin 23 = .ok (.ireturn, 1) := by decide +kernel
theorem dX5_begin_24 : decode cX5_begin 24 = .ok (.aload_n 0, 1) := by decide +kernel
theorem dX5_begin_25 : decode cX5_begin 25 = .ok (.iload_n 1, 1) := by decide +kernel
theorem dX5_begin_26 : decode cX5_begin 26 = .ok (.aload_n 0, 1) := by decide +kernel
theorem dX5_begin_27 : decode cX5_begin 27 = .ok (.getfield 11, 3) := by decide +kernel
theorem dX5_begin_30 : decode cX5_begin 30 = .ok (.iload_n 1, 1) := by decide +kernel
theorem dX5_begin_31 : decode cX5_begin 31 = .ok (.iaload, 1) := by decide +kernel
theorem dX5_begin_32 : decode cX5_begin 32 = .ok (.iload_n 2, 1) := by decide +kernel
theorem dX5_begin_33 : decode cX5_begin 33 = .ok (.iload_n 3, 1) := by decide +kernel
theorem dX5_begin_34 : decode cX5_begin 34 = .ok (.iconst 0, 1) := by decide +kernel
theorem dX5_begin_35 : decode cX5_begin 35 = .ok (.invokevirtual 32, 3) := by decide +kernel
theorem dX5_begin_38 : decode cX5_begin 38 = .ok (.ireturn, 1) := by decide +kernel
theorem dX5_run_0 : decode cX5_run 0 = .ok (.iload_n 2, 1) := by decide +kernel
theorem dX5_run_1 : decode cX5_run 1 = .ok (.iload_n 3, 1) := by decide +kernel
theorem dX5_run_2 : decode cX5_run 2 = .ok (.invokestatic 36, 3) := by decide +kernel
theorem dX5_run_5 : decode cX5_run 5 = .ok (.istore 6, 2) := by decide +kernel
theorem dX5_run_7 : decode cX5_run 7 = .ok (.iload 6, 2) := by decide +kernel
theorem dX5_run_9 : decode cX5_run 9 = .ok (.ifCond .lt 10, 3) := by decide +kernel
theorem dX5_run_12 : decode cX5_run 12 = .ok (.iload 5, 2) := by decide +kernel
theorem dX5_run_14 : decode cX5_run 14 = .ok (.bipush 40, 2) := by decide +kernel
theorem dX5_run_16 : decode cX5_run 16 = .ok (.if_icmp .le 5, 3) := by decide +kernel
theorem dX5_run_19 : decode cX5_run 19 = .ok (.iconst 0, 1) := by decide +kernel
theorem dX5_run_20 : decode cX5_run 20 = .ok (.ireturn, 1) := by decide +kernel
theorem dX5_run_21 : decode cX5_run 21 = .ok (.getstatic 40, 3) := by decide +kernel
theorem dX5_run_24 : decode cX5_run 24 = .ok (.iload 6, 2) := by decide +kernel
theorem dX5_run_26 : decode cX5_run 26 = .ok (.iconst 4, 1) := by decide +kernel
theorem dX5_run_27 : decode cX5_run 27 = .ok (.imul, 1) := by decide +kernel
theorem dX5_run_28 : decode cX5_run 28 = .ok (.iload_n 3, 1) := by decide +kernel
theorem dX5_run_29 : decode cX5_run 29 = .ok (.iadd, 1) := by decide +kernel
theorem dX5_run_30 : decode cX5_run 30 = .ok (.iaload, 1) := by decide +kernel
theorem dX5_run_31 : decode cX5_run 31 = .ok (.istore 7, 2) := by decide +kernel
theorem dX5_run_33 : decode cX5_run 33 = .ok (.aload_n 0, 1) := by decide +kernel
theorem dX5_run_34 : decode cX5_run 34 = .ok (.iload 7, 2) := by decide +kernel
theorem dX5_run_36 : decode cX5_run 36 = .ok (.invokevirtual 43, 3) := by decide +kernel
theorem dX5_run_39 : decode cX5_run 39 = .ok (.aload_n 0, 1) := by decide +kernel
theorem dX5_run_40 : decode cX5_run 40 = .ok (.getfield 11, 3) := by decide +kernel
theorem dX5_run_43 : decode cX5_run 43 = .ok (.iload_n 1, 1) := by decide +kernel
theorem dX5_run_44 : decode cX5_run 44 = .ok (.iaload, 1) := by decide +kernel
theorem dX5_run_45 : decode cX5_run 45 = .ok (.istore 8, 2) := by decide +kernel
theorem dX5_run_47 : decode cX5_run 47 = .ok (.getstatic 26, 3) := by decide +kernel
theorem dX5_run_50 : decode cX5_run 50 = .ok (.iload 6, 2) := by decide +kernel
theorem dX5_run_52 : decode cX5_run 52 = .ok (.iaload, 1) := by decide +kernel
theorem dX5_run_53 : decode cX5_run 53 = .ok (.istore 9, 2) := by decide +kernel
theorem dX5_run_55 : decode cX5_run 55 = .ok (.iload 5, 2) := by decide +kernel
theorem dX5_run_57 : decode cX5_run 57 = .ok (.iconst 1, 1) := by decide +kernel
theorem dX5_run_58 : decode cX5_run 58 = .ok (.iadd, 1) := by decide +kernel
theorem dX5_run_59 : decode cX5_run 59 = .ok (.istore 10, 2) := by decide +kernel
theorem dX5_run_61 : decode cX5_run 61 = .ok (.iload 7, 2) := by decide +kernel
theorem dX5_run_63 : decode cX5_run 63 = .ok (.lookupswitch 317 #[(1, 113), (2, 118), (10, 143), (11, 158), (20, 163), (30, 178), (40, 192), (41, 207), (50, 222), (60, 247), (70, 262), (80, 277), (81, 302)], 113) := by decide +kernel
theorem dX5_run_176 : decode cX5_run 176 = .ok (.iload 4, 2) := by decide +kernel
theorem dX5_run_178 : decode cX5_run 178 = .ok (.iload_n 1, 1) := by decide +kernel
theorem dX5_run_179 : decode cX5_run 179 = .ok (.iadd, 1) := by decide +kernel
theorem dX5_run_180 : decode cX5_run 180 = .ok (.ireturn, 1) := by decide +kernel
theorem dX5_run_181 : decode cX5_run 181 = .ok (.aload_n 0, 1) := by decide +kernel
theorem dX5_run_182 : decode cX5_run 182 = .ok (.iload_n 1, 1) := by decide +kernel
theorem dX5_run_183 : decode cX5_run 183 = .ok (.iload 8, 2) := by decide +kernel
theorem dX5_run_185 : decode cX5_run 185 = .ok (.iconst 1, 1) := by decide +kernel
theorem dX5_run_186 : decode cX5_run 186 = .ok (.iload 4, 2) := by decide +kernel
theorem dX5_run_188 : decode cX5_run 188 = .ok (.iload 10, 2) := by decide +kernel
theorem dX5_run_190 : decode cX5_run 190 = .ok (.invokevirtual 32, 3) := by decide +kernel
theorem dX5_run_193 : decode cX5_run 193 = .ok (.aload_n 0, 1) := by decide +kernel
theorem dX5_run_194 : decode cX5_run 194 = .ok (.iload_n 1, 1) := by decide +kernel
theorem dX5_run_195 : decode cX5_run 195 = .ok (.iload 8, 2) := by decide +kernel
theorem dX5_run_197 : decode cX5_run 197 = .ok (.iconst 2, 1) := by decide +kernel
theorem dX5_run_198 : decode cX5_run 198 = .ok (.iconst 1, 1) := by decide +kernel
theorem dX5_run_199 : decode cX5_run 199 = .ok (.iload 10, 2) := by decide +kernel
theorem dX5_run_201 : decode cX5_run 201 = .ok (.invokevirtual 32, 3) := by decide +kernel
theorem dX5_run_204 : decode cX5_run 204 = .ok (.isub, 1) := by decide +kernel
theorem dX5_run_205 : decode cX5_run 205 = .ok (.ireturn, 1) := by decide +kernel
theorem dX5_run_206 : decode cX5_run 206 = .ok (.aload_n 0, 1) := by decide +kernel
theorem dX5_run_207 : decode cX5_run 207 = .ok (.iload_n 1, 1) := by decide +kernel
theorem dX5_run_208 : decode cX5_run 208 = .ok (.iload 8, 2) := by decide +kernel
theorem dX5_run_210 : decode cX5_run 210 = .ok (.iconst 0, 1) := by decide +kernel
theorem dX5_run_211 : decode cX5_run 211 = .ok (.iload 4, 2) := by decide +kernel
theorem dX5_run_213 : decode cX5_run 213 = .ok (.iload 10, 2) := by decide +kernel
theorem dX5_run_215 : decode cX5_run 215 = .ok (.invokevirtual 32, 3) := by decide +kernel
theorem dX5_run_218 : decode cX5_run 218 = .ok (.iconst 2, 1) := by decide +kernel
theorem dX5_run_219 : decode cX5_run 219 = .ok (.imul, 1) := by decide +kernel
theorem dX5_run_220 : decode cX5_run 220 = .ok (.ireturn, 1) := by decide +kernel
theorem dX5_run_221 : decode cX5_run 221 = .ok (.iload 4, 2) := by decide +kernel
theorem dX5_run_223 : decode cX5_run 223 = .ok (.iload_n 1, 1) := by decide +kernel
theorem dX5_run_224 : decode cX5_run 224 = .ok (.ixor, 1) := by decide +kernel
theorem dX5_run_225 : decode cX5_run 225 = .ok (.ireturn, 1) := by decide +kernel
theorem dX5_run_226 : decode cX5_run 226 = .ok (.aload_n 0, 1) := by decide +kernel
theorem dX5_run_227 : decode cX5_run 227 = .ok (.iload_n 1, 1) := by decide +kernel
theorem dX5_run_228 : decode cX5_run 228 = .ok (.iload 9, 2) := by decide +kernel
theorem dX5_run_230 : decode cX5_run 230 = .ok (.iconst 0, 1) := by decide +kernel
theorem dX5_run_231 : decode cX5_run 231 = .ok (.iload 4, 2) := by decide +kernel
theorem dX5_run_233 : decode cX5_run 233 = .ok (.iload 10, 2) := by decide +kernel
theorem dX5_run_235 : decode cX5_run 235 = .ok (.invokevirtual 32, 3) := by decide +kernel
theorem dX5_run_238 : decode cX5_run 238 = .ok (.iconst 3, 1) := by decide +kernel
theorem dX5_run_239 : decode cX5_run 239 = .ok (.iadd, 1) := by decide +kernel
theorem dX5_run_240 : decode cX5_run 240 = .ok (.ireturn, 1) := by decide +kernel
theorem dX5_run_241 : decode cX5_run 241 = .ok (.aload_n 0, 1) := by decide +kernel
theorem dX5_run_242 : decode cX5_run 242 = .ok (.iload_n 1, 1) := by decide +kernel
theorem dX5_run_243 : decode cX5_run 243 = .ok (.iload 9, 2) := by decide +kernel
theorem dX5_run_245 : decode cX5_run 245 = .ok (.iconst 1, 1) := by decide +kernel
theorem dX5_run_246 : decode cX5_run 246 = .ok (.iload 4, 2) := by decide +kernel
theorem dX5_run_248 : decode cX5_run 248 = .ok (.iload 10, 2) := by decide +kernel
theorem dX5_run_250 : decode cX5_run 250 = .ok (.invokevirtual 32, 3) := by decide +kernel
theorem dX5_run_253 : decode cX5_run 253 = .ok (.ineg, 1) := by decide +kernel
theorem dX5_run_254 : decode cX5_run 254 = .ok (.ireturn, 1) := by decide +kernel
theorem dX5_run_255 : decode cX5_run 255 = .ok (.aload_n 0, 1) := by decide +kernel
theorem dX5_run_256 : decode cX5_run 256 = .ok (.iload_n 1, 1) := by decide +kernel
theorem dX5_run_257 : decode cX5_run 257 = .ok (.iload 9, 2) := by decide +kernel
theorem dX5_run_259 : decode cX5_run 259 = .ok (.iconst 2, 1) := by decide +kernel
theorem dX5_run_260 : decode cX5_run 260 = .ok (.iload 4, 2) := by decide +kernel
theorem dX5_run_262 : decode cX5_run 262 = .ok (.iload 10, 2) := by decide +kernel
theorem dX5_run_264 : decode cX5_run 264 = .ok (.invokevirtual 32, 3) := by decide +kernel
theorem dX5_run_267 : decode cX5_run 267 = .ok (.iconst 3, 1) := by decide +kernel
theorem dX5_run_268 : decode cX5_run 268 = .ok (.imul, 1) := by decide +kernel
theorem dX5_run_269 : decode cX5_run 269 = .ok (.ireturn, 1) := by decide +kernel
theorem dX5_run_270 : decode cX5_run 270 = .ok (.aload_n 0, 1) := by decide +kernel
theorem dX5_run_271 : decode cX5_run 271 = .ok (.iload_n 1, 1) := by decide +kernel
theorem dX5_run_272 : decode cX5_run 272 = .ok (.iload 9, 2) := by decide +kernel
theorem dX5_run_274 : decode cX5_run 274 = .ok (.iconst 1, 1) := by decide +kernel
theorem dX5_run_275 : decode cX5_run 275 = .ok (.iload 4, 2) := by decide +kernel
theorem dX5_run_277 : decode cX5_run 277 = .ok (.iconst 1, 1) := by decide +kernel
theorem dX5_run_278 : decode cX5_run 278 = .ok (.iadd, 1) := by decide +kernel
theorem dX5_run_279 : decode cX5_run 279 = .ok (.iload 10, 2) := by decide +kernel
theorem dX5_run_281 : decode cX5_run 281 = .ok (.invokevirtual 32, 3) := by decide +kernel
theorem dX5_run_284 : decode cX5_run 284 = .ok (.ireturn, 1) := by decide +kernel
theorem dX5_run_285 : decode cX5_run 285 = .ok (.aload_n 0, 1) := by decide +kernel
theorem dX5_run_286 : decode cX5_run 286 = .ok (.iload_n 1, 1) := by decide +kernel
theorem dX5_run_287 : decode cX5_run 287 = .ok (.iload 9, 2) := by decide +kernel
theorem dX5_run_289 : decode cX5_run 289 = .ok (.iconst 2, 1) := by decide +kernel
theorem dX5_run_290 : decode cX5_run 290 = .ok (.iload 4, 2) := by decide +kernel
theorem dX5_run_292 : decode cX5_run 292 = .ok (.iload 10, 2) := by decide +kernel
theorem dX5_run_294 : decode cX5_run 294 = .ok (.invokevirtual 32, 3) := by decide +kernel
theorem dX5_run_297 : decode cX5_run 297 = .ok (.aload_n 0, 1) := by decide +kernel
theorem dX5_run_298 : decode cX5_run 298 = .ok (.iload_n 1, 1) := by decide +kernel
theorem dX5_run_299 : decode cX5_run 299 = .ok (.iload 8, 2) := by decide +kernel
theorem dX5_run_301 : decode cX5_run 301 = .ok (.iconst 0, 1) := by decide +kernel
theorem dX5_run_302 : decode cX5_run 302 = .ok (.iconst 2, 1) := by decide +kernel
theorem dX5_run_303 : decode cX5_run 303 = .ok (.iload 10, 2) := by decide +kernel
theorem dX5_run_305 : decode cX5_run 305 = .ok (.invokevirtual 32, 3) := by decide +kernel
theorem dX5_run_308 : decode cX5_run 308 = .ok (.isub, 1) := by decide +kernel
theorem dX5_run_309 : decode cX5_run 309 = .ok (.ireturn, 1) := by decide +kernel
theorem dX5_run_310 : decode cX5_run 310 = .ok (.aload_n 0, 1) := by decide +kernel
theorem dX5_run_311 : decode cX5_run 311 = .ok (.iload_n 1, 1) := by decide +kernel
theorem dX5_run_312 : decode cX5_run 312 = .ok (.iload 9, 2) := by decide +kernel
theorem dX5_run_314 : decode cX5_run 314 = .ok (.iconst 3, 1) := by decide +kernel
theorem dX5_run_315 : decode cX5_run 315 = .ok (.iload 4, 2) := by decide +kernel
theorem dX5_run_317 : decode cX5_run 317 = .ok (.iload 10, 2) := by decide +kernel
theorem dX5_run_319 : decode cX5_run 319 = .ok (.invokevirtual 32, 3) := by decide +kernel
theorem dX5_run_322 : decode cX5_run 322 = .ok (.iconst 5, 1) := by decide +kernel
theorem dX5_run_323 : decode cX5_run 323 = .ok (.ixor, 1) := by decide +kernel
theorem dX5_run_324 : decode cX5_run 324 = .ok (.ireturn, 1) := by decide +kernel
theorem dX5_run_325 : decode cX5_run 325 = .ok (.aload_n 0, 1) := by decide +kernel
theorem dX5_run_326 : decode cX5_run 326 = .ok (.iload_n 1, 1) := by decide +kernel
theorem dX5_run_327 : decode cX5_run 327 = .ok (.iload 9, 2) := by decide +kernel
theorem dX5_run_329 : decode cX5_run 329 = .ok (.iconst 0, 1) := by decide +kernel
theorem dX5_run_330 : decode cX5_run 330 = .ok (.iload 4, 2) := by decide +kernel
theorem dX5_run_332 : decode cX5_run 332 = .ok (.iload 10, 2) := by decide +kernel
theorem dX5_run_334 : decode cX5_run 334 = .ok (.invokevirtual 32, 3) := by decide +kernel
theorem dX5_run_337 : decode cX5_run 337 = .ok (.iconst 2, 1) := by decide +kernel
theorem dX5_run_338 : decode cX5_run 338 = .ok (.imul, 1) := by decide +kernel
theorem dX5_run_339 : decode cX5_run 339 = .ok (.ireturn, 1) := by decide +kernel
theorem dX5_run_340 : decode cX5_run 340 = .ok (.aload_n 0, 1) := by decide +kernel
theorem dX5_run_341 : decode cX5_run 341 = .ok (.iload_n 1, 1) := by decide +kernel
theorem dX5_run_342 : decode cX5_run 342 = .ok (.iload 9, 2) := by decide +kernel
theorem dX5_run_344 : decode cX5_run 344 = .ok (.iconst 1, 1) := by decide +kernel
theorem dX5_run_345 : decode cX5_run 345 = .ok (.iload 4, 2) := by decide +kernel
theorem dX5_run_347 : decode cX5_run 347 = .ok (.iload 10, 2) := by decide +kernel
theorem dX5_run_349 : decode cX5_run 349 = .ok (.invokevirtual 32, 3) := by decide +kernel
theorem dX5_run_352 : decode cX5_run 352 = .ok (.aload_n 0, 1) := by decide +kernel
theorem dX5_run_353 : decode cX5_run 353 = .ok (.iload_n 1, 1) := by decide +kernel
theorem dX5_run_354 : decode cX5_run 354 = .ok (.iload 8, 2) := by decide +kernel
theorem dX5_run_356 : decode cX5_run 356 = .ok (.iconst 2, 1) := by decide +kernel
theorem dX5_run_357 : decode cX5_run 357 = .ok (.iconst 2, 1) := by decide +kernel
theorem dX5_run_358 : decode cX5_run 358 = .ok (.iload 10, 2) := by decide +kernel
theorem dX5_run_360 : decode cX5_run 360 = .ok (.invokevirtual 32, 3) := by decide +kernel
theorem dX5_run_363 : decode cX5_run 363 = .ok (.iadd, 1) := by decide +kernel
theorem dX5_run_364 : decode cX5_run 364 = .ok (.ireturn, 1) := by decide +kernel
theorem dX5_run_365 : decode cX5_run 365 = .ok (.aload_n 0, 1) := by decide +kernel
theorem dX5_run_366 : decode cX5_run 366 = .ok (.iload_n 1, 1) := by decide +kernel
theorem dX5_run_367 : decode cX5_run 367 = .ok (.iload 9, 2) := by decide +kernel
theorem dX5_run_369 : decode cX5_run 369 = .ok (.iconst 3, 1) := by decide +kernel
theorem dX5_run_370 : decode cX5_run 370 = .ok (.iload 4, 2) := by decide +kernel
theorem dX5_run_372 : decode cX5_run 372 = .ok (.iload 10, 2) := by decide +kernel
theorem dX5_run_374 : decode cX5_run 374 = .ok (.invokevirtual 32, 3) := by decide +kernel
theorem dX5_run_377 : decode cX5_run 377 = .ok (.iconst 1, 1) := by decide +kernel
theorem dX5_run_378 : decode cX5_run 378 = .ok (.isub, 1) := by decide +kernel
theorem dX5_run_379 : decode cX5_run 379 = .ok (.ireturn, 1) := by decide +kernel
theorem dX5_run_380 : decode cX5_run 380 = .ok (.iconst 0, 1) := by decide +kernel
theorem dX5_run_381 : decode cX5_run 381 = .ok (.ireturn, 1) := by decide +kernel
theorem dX5_ownerOf_0 : decode cX5_ownerOf 0 = .ok (.iload_n 0, 1) := by decide +kernel
theorem dX5_ownerOf_1 : decode cX5_ownerOf 1 = .ok (.istore_n 2, 1) := by decide +kernel
theorem dX5_ownerOf_2 : decode cX5_ownerOf 2 = .ok (.iconst 0, 1) := by decide +kernel
theorem dX5_ownerOf_3 : decode cX5_ownerOf 3 = .ok (.istore_n 3, 1) := by decide +kernel
theorem dX5_ownerOf_4 : decode cX5_ownerOf 4 = .ok (.iload_n 3, 1) := by decide +kernel
theorem dX5_ownerOf_5 : decode cX5_ownerOf 5 = .ok (.bipush 8, 2) := by decide +kernel
theorem dX5_ownerOf_7 : decode cX5_ownerOf 7 = .ok (.if_icmp .ge 39, 3) := by decide +kernel
theorem dX5_ownerOf_10 : decode cX5_ownerOf 10 = .ok (.iload_n 2, 1) := by decide +kernel
theorem dX5_ownerOf_11 : decode cX5_ownerOf 11 = .ok (.ifCond .lt 35, 3) := by decide +kernel
theorem dX5_ownerOf_14 : decode cX5_ownerOf 14 = .ok (.iload_n 2, 1) := by decide +kernel
theorem dX5_ownerOf_15 : decode cX5_ownerOf 15 = .ok (.bipush 8, 2) := by decide +kernel
theorem dX5_ownerOf_17 : decode cX5_ownerOf 17 = .ok (.if_icmp .ge 29, 3) := by decide +kernel
theorem dX5_ownerOf_20 : decode cX5_ownerOf 20 = .ok (.getstatic 40, 3) := by decide +kernel
theorem dX5_ownerOf_23 : decode cX5_ownerOf 23 = .ok (.iload_n 2, 1) := by decide +kernel
theorem dX5_ownerOf_24 : decode cX5_ownerOf 24 = .ok (.iconst 4, 1) := by decide +kernel
theorem dX5_ownerOf_25 : decode cX5_ownerOf 25 = .ok (.imul, 1) := by decide +kernel
theorem dX5_ownerOf_26 : decode cX5_ownerOf 26 = .ok (.iload_n 1, 1) := by decide +kernel
theorem dX5_ownerOf_27 : decode cX5_ownerOf 27 = .ok (.iadd, 1) := by decide +kernel
theorem dX5_ownerOf_28 : decode cX5_ownerOf 28 = .ok (.iaload, 1) := by decide +kernel
theorem dX5_ownerOf_29 : decode cX5_ownerOf 29 = .ok (.ifCond .eq 5, 3) := by decide +kernel
theorem dX5_ownerOf_32 : decode cX5_ownerOf 32 = .ok (.iload_n 2, 1) := by decide +kernel
theorem dX5_ownerOf_33 : decode cX5_ownerOf 33 = .ok (.ireturn, 1) := by decide +kernel
theorem dX5_ownerOf_34 : decode cX5_ownerOf 34 = .ok (.getstatic 26, 3) := by decide +kernel
theorem dX5_ownerOf_37 : decode cX5_ownerOf 37 = .ok (.iload_n 2, 1) := by decide +kernel
theorem dX5_ownerOf_38 : decode cX5_ownerOf 38 = .ok (.iaload, 1) := by decide +kernel
theorem dX5_ownerOf_39 : decode cX5_ownerOf 39 = .ok (.istore_n 2, 1) := by decide +kernel
theorem dX5_ownerOf_40 : decode cX5_ownerOf 40 = .ok (.iinc 3 1, 3) := by decide +kernel
theorem dX5_ownerOf_43 : decode cX5_ownerOf 43 = .ok (.goto (-39), 3) := by decide +kernel
theorem dX5_ownerOf_46 : decode cX5_ownerOf 46 = .ok (.iconst (-1), 1) := by decide +kernel
theorem dX5_ownerOf_47 : decode cX5_ownerOf 47 = .ok (.ireturn, 1) := by decide +kernel
theorem dX5_note_0 : decode cX5_note 0 = .ok (.aload_n 0, 1) := by decide +kernel
theorem dX5_note_1 : decode cX5_note 1 = .ok (.getfield 29, 3) := by decide +kernel
theorem dX5_note_4 : decode cX5_note 4 = .ok (.bipush 24, 2) := by decide +kernel
theorem dX5_note_6 : decode cX5_note 6 = .ok (.if_icmp .ge 13, 3) := by decide +kernel
theorem dX5_note_9 : decode cX5_note 9 = .ok (.aload_n 0, 1) := by decide +kernel
theorem dX5_note_10 : decode cX5_note 10 = .ok (.getfield 15, 3) := by decide +kernel
theorem dX5_note_13 : decode cX5_note 13 = .ok (.aload_n 0, 1) := by decide +kernel
theorem dX5_note_14 : decode cX5_note 14 = .ok (.getfield 29, 3) := by decide +kernel
theorem dX5_note_17 : decode cX5_note 17 = .ok (.iload_n 1, 1) := by decide +kernel
theorem dX5_note_18 : decode cX5_note 18 = .ok (.iastore, 1) := by decide +kernel
theorem dX5_note_19 : decode cX5_note 19 = .ok (.aload_n 0, 1) := by decide +kernel
theorem dX5_note_20 : decode cX5_note 20 = .ok (.dup, 1) := by decide +kernel
theorem dX5_note_21 : decode cX5_note 21 = .ok (.getfield 29, 3) := by decide +kernel
theorem dX5_note_24 : decode cX5_note 24 = .ok (.iconst 1, 1) := by decide +kernel
theorem dX5_note_25 : decode cX5_note 25 = .ok (.iadd, 1) := by decide +kernel
theorem dX5_note_26 : decode cX5_note 26 = .ok (.putfield 29, 3) := by decide +kernel
theorem dX5_note_29 : decode cX5_note 29 = .ok (.return_, 1) := by decide +kernel
theorem dX6_init_0 : decode cX6_init 0 = .ok (.aload_n 0, 1) := by decide +kernel
theorem dX6_init_1 : decode cX6_init 1 = .ok (.invokespecial 1, 3) := by decide +kernel
theorem dX6_init_4 : decode cX6_init 4 = .ok (.aload_n 0, 1) := by decide +kernel
theorem dX6_init_5 : decode cX6_init 5 = .ok (.bipush 120, 2) := by decide +kernel
theorem dX6_init_7 : decode cX6_init 7 = .ok (.newarray .int, 2) := by decide +kernel
theorem dX6_init_9 : decode cX6_init 9 = .ok (.putfield 9, 3) := by decide +kernel
theorem dX6_init_12 : decode cX6_init 12 = .ok (.aload_n 0, 1) := by decide +kernel
theorem dX6_init_13 : decode cX6_init 13 = .ok (.new 13, 3) := by decide +kernel
theorem dX6_init_16 : decode cX6_init 16 = .ok (.dup, 1) := by decide +kernel
theorem dX6_init_17 : decode cX6_init 17 = .ok (.invokespecial 15, 3) := by decide +kernel
theorem dX6_init_20 : decode cX6_init 20 = .ok (.putfield 16, 3) := by decide +kernel
theorem dX6_init_23 : decode cX6_init 23 = .ok (.return_, 1) := by decide +kernel
theorem dX6_add_0 : decode cX6_add 0 = .ok (.aload_n 0, 1) := by decide +kernel
theorem dX6_add_1 : decode cX6_add 1 = .ok (.getfield 20, 3) := by decide +kernel
theorem dX6_add_4 : decode cX6_add 4 = .ok (.bipush 120, 2) := by decide +kernel
theorem dX6_add_6 : decode cX6_add 6 = .ok (.if_icmp .lt 5, 3) := by decide +kernel
theorem dX6_add_9 : decode cX6_add 9 = .ok (.iconst 0, 1) := by decide +kernel
theorem dX6_add_10 : decode cX6_add 10 = .ok (.ireturn, 1) := by decide +kernel
theorem dX6_add_11 : decode cX6_add 11 = .ok (.aload_n 0, 1) := by decide +kernel
theorem dX6_add_12 : decode cX6_add 12 = .ok (.getfield 9, 3) := by decide +kernel
theorem dX6_add_15 : decode cX6_add 15 = .ok (.aload_n 0, 1) := by decide +kernel
theorem dX6_add_16 : decode cX6_add 16 = .ok (.getfield 20, 3) := by decide +kernel
theorem dX6_add_19 : decode cX6_add 19 = .ok (.iload_n 1, 1) := by decide +kernel
theorem dX6_add_20 : decode cX6_add 20 = .ok (.iastore, 1) := by decide +kernel
theorem dX6_add_21 : decode cX6_add 21 = .ok (.aload_n 0, 1) := by decide +kernel
theorem dX6_add_22 : decode cX6_add 22 = .ok (.dup, 1) := by decide +kernel
theorem dX6_add_23 : decode cX6_add 23 = .ok (.getfield 20, 3) := by decide +kernel
theorem dX6_add_26 : decode cX6_add 26 = .ok (.iconst 1, 1) := by decide +kernel
theorem dX6_add_27 : decode cX6_add 27 = .ok (.iadd, 1) := by decide +kernel
theorem dX6_add_28 : decode cX6_add 28 = .ok (.putfield 20, 3) := by decide +kernel
theorem dX6_add_31 : decode cX6_add 31 = .ok (.iconst 1, 1) := by decide +kernel
theorem dX6_add_32 : decode cX6_add 32 = .ok (.ireturn, 1) := by decide +kernel
theorem dX6_read_0 : decode cX6_read 0 = .ok (.aload_n 0, 1) := by decide +kernel
theorem dX6_read_1 : decode cX6_read 1 = .ok (.iconst 0, 1) := by decide +kernel
theorem dX6_read_2 : decode cX6_read 2 = .ok (.putfield 24, 3) := by decide +kernel
theorem dX6_read_5 : decode cX6_read 5 = .ok (.aload_n 0, 1) := by decide +kernel
theorem dX6_read_6 : decode cX6_read 6 = .ok (.getfield 16, 3) := by decide +kernel
theorem dX6_read_9 : decode cX6_read 9 = .ok (.invokevirtual 27, 3) := by decide +kernel
theorem dX6_read_12 : decode cX6_read 12 = .ok (.iconst 0, 1) := by decide +kernel
theorem dX6_read_13 : decode cX6_read 13 = .ok (.istore_n 1, 1) := by decide +kernel
theorem dX6_read_14 : decode cX6_read 14 = .ok (.iload_n 1, 1) := by decide +kernel
theorem dX6_read_15 : decode cX6_read 15 = .ok (.bipush 120, 2) := by decide +kernel
theorem dX6_read_17 : decode cX6_read 17 = .ok (.if_icmp .gt 48, 3) := by decide +kernel
theorem dX6_read_20 : decode cX6_read 20 = .ok (.aload_n 0, 1) := by decide +kernel
theorem dX6_read_21 : decode cX6_read 21 = .ok (.invokevirtual 30, 3) := by decide +kernel
theorem dX6_read_24 : decode cX6_read 24 = .ok (.ifCond .ne 8, 3) := by decide +kernel
theorem dX6_read_27 : decode cX6_read 27 = .ok (.aload_n 0, 1) := by decide +kernel
theorem dX6_read_28 : decode cX6_read 28 = .ok (.getfield 24, 3) := by decide +kernel
theorem dX6_read_31 : decode cX6_read 31 = .ok (.ireturn, 1) := by decide +kernel
theorem dX6_read_32 : decode cX6_read 32 = .ok (.aload_n 0, 1) := by decide +kernel
theorem dX6_read_33 : decode cX6_read 33 = .ok (.getfield 24, 3) := by decide +kernel
theorem dX6_read_36 : decode cX6_read 36 = .ok (.aload_n 0, 1) := by decide +kernel
theorem dX6_read_37 : decode cX6_read 37 = .ok (.getfield 20, 3) := by decide +kernel
theorem dX6_read_40 : decode cX6_read 40 = .ok (.if_icmp .lt 5, 3) := by decide +kernel
theorem dX6_read_43 : decode cX6_read 43 = .ok (.iconst (-1), 1) := by decide +kernel
theorem dX6_read_44 : decode cX6_read 44 = .ok (.ireturn, 1) := by decide +kernel
theorem dX6_read_45 : decode cX6_read 45 = .ok (.aload_n 0, 1) := by decide +kernel
theorem dX6_read_46 : decode cX6_read 46 = .ok (.bipush 59, 2) := by decide +kernel
theorem dX6_read_48 : decode cX6_read 48 = .ok (.invokevirtual 34, 3) := by decide +kernel
theorem dX6_read_51 : decode cX6_read 51 = .ok (.ifCond .ne 8, 3) := by decide +kernel
theorem dX6_read_54 : decode cX6_read 54 = .ok (.aload_n 0, 1) := by decide +kernel
theorem dX6_read_55 : decode cX6_read 55 = .ok (.getfield 24, 3) := by decide +kernel
theorem dX6_read_58 : decode cX6_read 58 = .ok (.ireturn, 1) := by decide +kernel
theorem dX6_read_59 : decode cX6_read 59 = .ok (.iinc 1 1, 3) := by decide +kernel
theorem dX6_read_62 : decode cX6_read 62 = .ok (.goto (-48), 3) := by decide +kernel
theorem dX6_read_65 : decode cX6_read 65 = .ok (.aload_n 0, 1) := by decide +kernel
theorem dX6_read_66 : decode cX6_read 66 = .ok (.getfield 24, 3) := by decide +kernel
theorem dX6_read_69 : decode cX6_read 69 = .ok (.ireturn, 1) := by decide +kernel
theorem dX6_next_0 : decode cX6_next 0 = .ok (.aload_n 0, 1) := by decide +kernel
theorem dX6_next_1 : decode cX6_next 1 = .ok (.getfield 24, 3) := by decide +kernel
theorem dX6_next_4 : decode cX6_next 4 = .ok (.aload_n 0, 1) := by decide +kernel
theorem dX6_next_5 : decode cX6_next 5 = .ok (.getfield 20, 3) := by decide +kernel
theorem dX6_next_8 : decode cX6_next 8 = .ok (.if_icmp .ge 15, 3) := by decide +kernel
theorem dX6_next_11 : decode cX6_next 11 = .ok (.aload_n 0, 1) := by decide +kernel
theorem dX6_next_12 : decode cX6_next 12 = .ok (.getfield 9, 3) := by decide +kernel
theorem dX6_next_15 : decode cX6_next 15 = .ok (.aload_n 0, 1) := by decide +kernel
theorem dX6_next_16 : decode cX6_next 16 = .ok (.getfield 24, 3) := by decide +kernel
theorem dX6_next_19 : decode cX6_next 19 = .ok (.iaload, 1) := by decide +kernel
theorem dX6_next_20 : decode cX6_next 20 = .ok (.goto 4, 3) := by decide +kernel
theorem dX6_next_23 : decode cX6_next 23 = .ok (.iconst (-1), 1) := by decide +kernel
theorem dX6_next_24 : decode cX6_next 24 = .ok (.ireturn, 1) := by decide +kernel
theorem dX6_passes_0 : decode cX6_passes 0 = .ok (.aload_n 0, 1) := by decide +kernel
theorem dX6_passes_1 : decode cX6_passes 1 = .ok (.invokevirtual 38, 3) := by decide +kernel
theorem dX6_passes_4 : decode cX6_passes 4 = .ok (.iload_n 1, 1) := by decide +kernel
theorem dX6_passes_5 : decode cX6_passes 5 = .ok (.if_icmp .eq 5, 3) := by decide +kernel
theorem dX6_passes_8 : decode cX6_passes 8 = .ok (.iconst 0, 1) := by decide +kernel
theorem dX6_passes_9 : decode cX6_passes 9 = .ok (.ireturn, 1) := by decide +kernel
theorem dX6_passes_10 : decode cX6_passes 10 = .ok (.aload_n 0, 1) := by decide +kernel
theorem dX6_passes_11 : decode cX6_passes 11 = .ok (.dup, 1) := by decide +kernel
theorem dX6_passes_12 : decode cX6_passes 12 = .ok (.getfield 24, 3) := by decide +kernel
theorem dX6_passes_15 : decode cX6_passes 15 = .ok (.iconst 1, 1) := by decide +kernel
theorem dX6_passes_16 : decode cX6_passes 16 = .ok (.iadd, 1) := by decide +kernel
theorem dX6_passes_17 : decode cX6_passes 17 = .ok (.putfield 24, 3) := by decide +kernel
theorem dX6_passes_20 : decode cX6_passes 20 = .ok (.iconst 1, 1) := by decide +kernel
theorem dX6_passes_21 : decode cX6_passes 21 = .ok (.ireturn, 1) := by decide +kernel
theorem dX6_readLine_0 : decode cX6_readLine 0 = .ok (.aload_n 0, 1) := by decide +kernel
theorem dX6_readLine_1 : decode cX6_readLine 1 = .ok (.iconst 0, 1) := by decide +kernel
theorem dX6_readLine_2 : decode cX6_readLine 2 = .ok (.iconst 0, 1) := by decide +kernel
theorem dX6_readLine_3 : decode cX6_readLine 3 = .ok (.invokevirtual 42, 3) := by decide +kernel
theorem dX6_readLine_6 : decode cX6_readLine 6 = .ok (.ifCond .ne 5, 3) := by decide +kernel
theorem dX6_readLine_9 : decode cX6_readLine 9 = .ok (.iconst 0, 1) := by decide +kernel
theorem dX6_readLine_10 : decode cX6_readLine 10 = .ok (.ireturn, 1) := by decide +kernel
theorem dX6_readLine_11 : decode cX6_readLine 11 = .ok (.aload_n 0, 1) := by decide +kernel
theorem dX6_readLine_12 : decode cX6_readLine 12 = .ok (.bipush 63, 2) := by decide +kernel
theorem dX6_readLine_14 : decode cX6_readLine 14 = .ok (.invokevirtual 34, 3) := by decide +kernel
theorem dX6_readLine_17 : decode cX6_readLine 17 = .ok (.ifCond .ne 13, 3) := by decide +kernel
theorem dX6_readLine_20 : decode cX6_readLine 20 = .ok (.aload_n 0, 1) := by decide +kernel
theorem dX6_readLine_21 : decode cX6_readLine 21 = .ok (.getfield 16, 3) := by decide +kernel
theorem dX6_readLine_24 : decode cX6_readLine 24 = .ok (.iconst 0, 1) := by decide +kernel
theorem dX6_readLine_25 : decode cX6_readLine 25 = .ok (.invokevirtual 46, 3) := by decide +kernel
theorem dX6_readLine_28 : decode cX6_readLine 28 = .ok (.iconst 1, 1) := by decide +kernel
theorem dX6_readLine_29 : decode cX6_readLine 29 = .ok (.ireturn, 1) := by decide +kernel
theorem dX6_readLine_30 : decode cX6_readLine 30 = .ok (.aload_n 0, 1) := by decide +kernel
theorem dX6_readLine_31 : decode cX6_readLine 31 = .ok (.getfield 16, 3) := by decide +kernel
theorem dX6_readLine_34 : decode cX6_readLine 34 = .ok (.iconst 1, 1) := by decide +kernel
theorem dX6_readLine_35 : decode cX6_readLine 35 = .ok (.invokevirtual 46, 3) := by decide +kernel
theorem dX6_readLine_38 : decode cX6_readLine 38 = .ok (.aload_n 0, 1) := by decide +kernel
theorem dX6_readLine_39 : decode cX6_readLine 39 = .ok (.iconst 0, 1) := by decide +kernel
theorem dX6_readLine_40 : decode cX6_readLine 40 = .ok (.iconst 0, 1) := by decide +kernel
theorem dX6_readLine_41 : decode cX6_readLine 41 = .ok (.invokevirtual 42, 3) := by decide +kernel
theorem dX6_readLine_44 : decode cX6_readLine 44 = .ok (.ifCond .ne 5, 3) := by decide +kernel
theorem dX6_readLine_47 : decode cX6_readLine 47 = .ok (.iconst 0, 1) := by decide +kernel
theorem dX6_readLine_48 : decode cX6_readLine 48 = .ok (.ireturn, 1) := by decide +kernel
theorem dX6_readLine_49 : decode cX6_readLine 49 = .ok (.aload_n 0, 1) := by decide +kernel
theorem dX6_readLine_50 : decode cX6_readLine 50 = .ok (.getfield 16, 3) := by decide +kernel
theorem dX6_readLine_53 : decode cX6_readLine 53 = .ok (.iconst 0, 1) := by decide +kernel
theorem dX6_readLine_54 : decode cX6_readLine 54 = .ok (.invokevirtual 46, 3) := by decide +kernel
theorem dX6_readLine_57 : decode cX6_readLine 57 = .ok (.iconst 1, 1) := by decide +kernel
theorem dX6_readLine_58 : decode cX6_readLine 58 = .ok (.ireturn, 1) := by decide +kernel
theorem dX6_readJoined_0 : decode cX6_readJoined 0 = .ok (.iload_n 1, 1) := by decide +kernel
theorem dX6_readJoined_1 : decode cX6_readJoined 1 = .ok (.iconst 5, 1) := by decide +kernel
theorem dX6_readJoined_2 : decode cX6_readJoined 2 = .ok (.if_icmp .lt 9, 3) := by decide +kernel
theorem dX6_readJoined_5 : decode cX6_readJoined 5 = .ok (.aload_n 0, 1) := by decide +kernel
theorem dX6_readJoined_6 : decode cX6_readJoined 6 = .ok (.iload_n 2, 1) := by decide +kernel
theorem dX6_readJoined_7 : decode cX6_readJoined 7 = .ok (.invokevirtual 50, 3) := by decide +kernel
theorem dX6_readJoined_10 : decode cX6_readJoined 10 = .ok (.ireturn, 1) := by decide +kernel
theorem dX6_readJoined_11 : decode cX6_readJoined 11 = .ok (.aload_n 0, 1) := by decide +kernel
theorem dX6_readJoined_12 : decode cX6_readJoined 12 = .ok (.iload_n 1, 1) := by decide +kernel
theorem dX6_readJoined_13 : decode cX6_readJoined 13 = .ok (.iconst 1, 1) := by decide +kernel
theorem dX6_readJoined_14 : decode cX6_readJoined 14 = .ok (.iadd, 1) := by decide +kernel
theorem dX6_readJoined_15 : decode cX6_readJoined 15 = .ok (.iload_n 2, 1) := by decide +kernel
theorem dX6_readJoined_16 : decode cX6_readJoined 16 = .ok (.invokevirtual 42, 3) := by decide +kernel
theorem dX6_readJoined_19 : decode cX6_readJoined 19 = .ok (.istore_n 3, 1) := by decide +kernel
theorem dX6_readJoined_20 : decode cX6_readJoined 20 = .ok (.iload_n 1, 1) := by decide +kernel
theorem dX6_readJoined_21 : decode cX6_readJoined 21 = .ok (.iconst 2, 1) := by decide +kernel
theorem dX6_readJoined_22 : decode cX6_readJoined 22 = .ok (.if_icmp .ne 7, 3) := by decide +kernel
theorem dX6_readJoined_25 : decode cX6_readJoined 25 = .ok (.iconst 1, 1) := by decide +kernel
theorem dX6_readJoined_26 : decode cX6_readJoined 26 = .ok (.goto 5, 3) := by decide +kernel
theorem dX6_readJoined_29 : decode cX6_readJoined 29 = .ok (.bipush 120, 2) := by decide +kernel
theorem dX6_readJoined_31 : decode cX6_readJoined 31 = .ok (.istore 4, 2) := by decide +kernel
theorem dX6_readJoined_33 : decode cX6_readJoined 33 = .ok (.iconst 0, 1) := by decide +kernel
theorem dX6_readJoined_34 : decode cX6_readJoined 34 = .ok (.istore 5, 2) := by decide +kernel
theorem dX6_readJoined_36 : decode cX6_readJoined 36 = .ok (.iload 5, 2) := by decide +kernel
theorem dX6_readJoined_38 : decode cX6_readJoined 38 = .ok (.iload 4, 2) := by decide +kernel
theorem dX6_readJoined_40 : decode cX6_readJoined 40 = .ok (.if_icmp .ge 58, 3) := by decide +kernel
theorem dX6_readJoined_43 : decode cX6_readJoined 43 = .ok (.iload_n 3, 1) := by decide +kernel
theorem dX6_readJoined_44 : decode cX6_readJoined 44 = .ok (.ifCond .eq 54, 3) := by decide +kernel
theorem dX6_readJoined_47 : decode cX6_readJoined 47 = .ok (.aload_n 0, 1) := by decide +kernel
theorem dX6_readJoined_48 : decode cX6_readJoined 48 = .ok (.invokevirtual 38, 3) := by decide +kernel
theorem dX6_readJoined_51 : decode cX6_readJoined 51 = .ok (.iload_n 1, 1) := by decide +kernel
theorem dX6_readJoined_52 : decode cX6_readJoined 52 = .ok (.invokestatic 53, 3) := by decide +kernel
theorem dX6_readJoined_55 : decode cX6_readJoined 55 = .ok (.istore 6, 2) := by decide +kernel
theorem dX6_readJoined_57 : decode cX6_readJoined 57 = .ok (.iload 6, 2) := by decide +kernel
theorem dX6_readJoined_59 : decode cX6_readJoined 59 = .ok (.ifCond .ne 5, 3) := by decide +kernel
theorem dX6_readJoined_62 : decode cX6_readJoined 62 = .ok (.iconst 1, 1) := by decide +kernel
theorem dX6_readJoined_63 : decode cX6_readJoined 63 = .ok (.ireturn, 1) := by decide +kernel
theorem dX6_readJoined_64 : decode cX6_readJoined 64 = .ok (.aload_n 0, 1) := by decide +kernel
theorem dX6_readJoined_65 : decode cX6_readJoined 65 = .ok (.dup, 1) := by decide +kernel
theorem dX6_readJoined_66 : decode cX6_readJoined 66 = .ok (.getfield 24, 3) := by decide +kernel
theorem dX6_readJoined_69 : decode cX6_readJoined 69 = .ok (.iconst 1, 1) := by decide +kernel
theorem dX6_readJoined_70 : decode cX6_readJoined 70 = .ok (.iadd, 1) := by decide +kernel
theorem dX6_readJoined_71 : decode cX6_readJoined 71 = .ok (.putfield 24, 3) := by decide +kernel
theorem dX6_readJoined_74 : decode cX6_readJoined 74 = .ok (.aload_n 0, 1) := by decide +kernel
theorem dX6_readJoined_75 : decode cX6_readJoined 75 = .ok (.iload_n 1, 1) := by decide +kernel
theorem dX6_readJoined_76 : decode cX6_readJoined 76 = .ok (.iconst 1, 1) := by decide +kernel
theorem dX6_readJoined_77 : decode cX6_readJoined 77 = .ok (.iadd, 1) := by decide +kernel
theorem dX6_readJoined_78 : decode cX6_readJoined 78 = .ok (.iload_n 2, 1) := by decide +kernel
theorem dX6_readJoined_79 : decode cX6_readJoined 79 = .ok (.invokevirtual 42, 3) := by decide +kernel
theorem dX6_readJoined_82 : decode cX6_readJoined 82 = .ok (.istore_n 3, 1) := by decide +kernel
theorem dX6_readJoined_83 : decode cX6_readJoined 83 = .ok (.aload_n 0, 1) := by decide +kernel
theorem dX6_readJoined_84 : decode cX6_readJoined 84 = .ok (.getfield 16, 3) := by decide +kernel
theorem dX6_readJoined_87 : decode cX6_readJoined 87 = .ok (.iload 6, 2) := by decide +kernel
theorem dX6_readJoined_89 : decode cX6_readJoined 89 = .ok (.invokevirtual 57, 3) := by decide +kernel
theorem dX6_readJoined_92 : decode cX6_readJoined 92 = .ok (.iinc 5 1, 3) := by decide +kernel
theorem dX6_readJoined_95 : decode cX6_readJoined 95 = .ok (.goto (-59), 3) := by decide +kernel
theorem dX6_readJoined_98 : decode cX6_readJoined 98 = .ok (.iload_n 3, 1) := by decide +kernel
theorem dX6_readJoined_99 : decode cX6_readJoined 99 = .ok (.ireturn, 1) := by decide +kernel
theorem dX6_readOne_0 : decode cX6_readOne 0 = .ok (.aload_n 0, 1) := by decide +kernel
theorem dX6_readOne_1 : decode cX6_readOne 1 = .ok (.invokevirtual 38, 3) := by decide +kernel
theorem dX6_readOne_4 : decode cX6_readOne 4 = .ok (.istore_n 2, 1) := by decide +kernel
theorem dX6_readOne_5 : decode cX6_readOne 5 = .ok (.iload_n 2, 1) := by decide +kernel
theorem dX6_readOne_6 : decode cX6_readOne 6 = .ok (.invokestatic 61, 3) := by decide +kernel
theorem dX6_readOne_9 : decode cX6_readOne 9 = .ok (.ifCond .eq 9, 3) := by decide +kernel
theorem dX6_readOne_12 : decode cX6_readOne 12 = .ok (.aload_n 0, 1) := by decide +kernel
theorem dX6_readOne_13 : decode cX6_readOne 13 = .ok (.invokevirtual 64, 3) := by decide +kernel
theorem dX6_readOne_16 : decode cX6_readOne 16 = .ok (.iconst 1, 1) := by decide +kernel
theorem dX6_readOne_17 : decode cX6_readOne 17 = .ok (.ireturn, 1) := by decide +kernel
theorem dX6_readOne_18 : decode cX6_readOne 18 = .ok (.iload_n 2, 1) := by decide +kernel
theorem dX6_readOne_19 : decode cX6_readOne 19 = .ok (.invokestatic 67, 3) := by decide +kernel
theorem dX6_readOne_22 : decode cX6_readOne 22 = .ok (.istore_n 3, 1) := by decide +kernel
theorem dX6_readOne_23 : decode cX6_readOne 23 = .ok (.iload_n 3, 1) := by decide +kernel
theorem dX6_readOne_24 : decode cX6_readOne 24 = .ok (.ifCond .lt 25, 3) := by decide +kernel
theorem dX6_readOne_27 : decode cX6_readOne 27 = .ok (.aload_n 0, 1) := by decide +kernel
theorem dX6_readOne_28 : decode cX6_readOne 28 = .ok (.dup, 1) := by decide +kernel
theorem dX6_readOne_29 : decode cX6_readOne 29 = .ok (.getfield 24, 3) := by decide +kernel
theorem dX6_readOne_32 : decode cX6_readOne 32 = .ok (.iconst 1, 1) := by decide +kernel
theorem dX6_readOne_33 : decode cX6_readOne 33 = .ok (.iadd, 1) := by decide +kernel
theorem dX6_readOne_34 : decode cX6_readOne 34 = .ok (.putfield 24, 3) := by decide +kernel
theorem dX6_readOne_37 : decode cX6_readOne 37 = .ok (.aload_n 0, 1) := by decide +kernel
theorem dX6_readOne_38 : decode cX6_readOne 38 = .ok (.getfield 16, 3) := by decide +kernel
theorem dX6_readOne_41 : decode cX6_readOne 41 = .ok (.iconst (-1), 1) := by decide +kernel
theorem dX6_readOne_42 : decode cX6_readOne 42 = .ok (.iload_n 3, 1) := by decide +kernel
theorem dX6_readOne_43 : decode cX6_readOne 43 = .ok (.isub, 1) := by decide +kernel
theorem dX6_readOne_44 : decode cX6_readOne 44 = .ok (.invokevirtual 57, 3) := by decide +kernel
theorem dX6_readOne_47 : decode cX6_readOne 47 = .ok (.iconst 1, 1) := by decide +kernel
theorem dX6_readOne_48 : decode cX6_readOne 48 = .ok (.ireturn, 1) := by decide +kernel
theorem dX6_readOne_49 : decode cX6_readOne 49 = .ok (.iload_n 2, 1) := by decide +kernel
theorem dX6_readOne_50 : decode cX6_readOne 50 = .ok (.bipush 40, 2) := by decide +kernel
theorem dX6_readOne_52 : decode cX6_readOne 52 = .ok (.if_icmp .eq 15, 3) := by decide +kernel
theorem dX6_readOne_55 : decode cX6_readOne 55 = .ok (.iload_n 2, 1) := by decide +kernel
theorem dX6_readOne_56 : decode cX6_readOne 56 = .ok (.bipush 33, 2) := by decide +kernel
theorem dX6_readOne_58 : decode cX6_readOne 58 = .ok (.if_icmp .eq 9, 3) := by decide +kernel
theorem dX6_readOne_61 : decode cX6_readOne 61 = .ok (.iload_n 2, 1) := by decide +kernel
theorem dX6_readOne_62 : decode cX6_readOne 62 = .ok (.bipush 45, 2) := by decide +kernel
theorem dX6_readOne_64 : decode cX6_readOne 64 = .ok (.if_icmp .ne 9, 3) := by decide +kernel
theorem dX6_readOne_67 : decode cX6_readOne 67 = .ok (.iload_n 1, 1) := by decide +kernel
theorem dX6_readOne_68 : decode cX6_readOne 68 = .ok (.bipush 6, 2) := by decide +kernel
theorem dX6_readOne_70 : decode cX6_readOne 70 = .ok (.if_icmp .lt 5, 3) := by decide +kernel
theorem dX6_readOne_73 : decode cX6_readOne 73 = .ok (.iconst 0, 1) := by decide +kernel
theorem dX6_readOne_74 : decode cX6_readOne 74 = .ok (.ireturn, 1) := by decide +kernel
theorem dX6_readOne_75 : decode cX6_readOne 75 = .ok (.aload_n 0, 1) := by decide +kernel
theorem dX6_readOne_76 : decode cX6_readOne 76 = .ok (.dup, 1) := by decide +kernel
theorem dX6_readOne_77 : decode cX6_readOne 77 = .ok (.getfield 24, 3) := by decide +kernel
theorem dX6_readOne_80 : decode cX6_readOne 80 = .ok (.iconst 1, 1) := by decide +kernel
theorem dX6_readOne_81 : decode cX6_readOne 81 = .ok (.iadd, 1) := by decide +kernel
theorem dX6_readOne_82 : decode cX6_readOne 82 = .ok (.putfield 24, 3) := by decide +kernel
theorem dX6_readOne_85 : decode cX6_readOne 85 = .ok (.iload_n 2, 1) := by decide +kernel
theorem dX6_readOne_86 : decode cX6_readOne 86 = .ok (.bipush 40, 2) := by decide +kernel
theorem dX6_readOne_88 : decode cX6_readOne 88 = .ok (.if_icmp .ne 29, 3) := by decide +kernel
theorem dX6_readOne_91 : decode cX6_readOne 91 = .ok (.aload_n 0, 1) := by decide +kernel
theorem dX6_readOne_92 : decode cX6_readOne 92 = .ok (.iconst 0, 1) := by decide +kernel
theorem dX6_readOne_93 : decode cX6_readOne 93 = .ok (.iload_n 1, 1) := by decide +kernel
theorem dX6_readOne_94 : decode cX6_readOne 94 = .ok (.iconst 1, 1) := by decide +kernel
theorem dX6_readOne_95 : decode cX6_readOne 95 = .ok (.iadd, 1) := by decide +kernel
theorem dX6_readOne_96 : decode cX6_readOne 96 = .ok (.invokevirtual 42, 3) := by decide +kernel
theorem dX6_readOne_99 : decode cX6_readOne 99 = .ok (.ifCond .eq 16, 3) := by decide +kernel
theorem dX6_readOne_102 : decode cX6_readOne 102 = .ok (.aload_n 0, 1) := by decide +kernel
theorem dX6_readOne_103 : decode cX6_readOne 103 = .ok (.bipush 41, 2) := by decide +kernel
theorem dX6_readOne_105 : decode cX6_readOne 105 = .ok (.invokevirtual 34, 3) := by decide +kernel
theorem dX6_readOne_108 : decode cX6_readOne 108 = .ok (.ifCond .eq 7, 3) := by decide +kernel
theorem dX6_readOne_111 : decode cX6_readOne 111 = .ok (.iconst 1, 1) := by decide +kernel
theorem dX6_readOne_112 : decode cX6_readOne 112 = .ok (.goto 4, 3) := by decide +kernel
theorem dX6_readOne_115 : decode cX6_readOne 115 = .ok (.iconst 0, 1) := by decide +kernel
theorem dX6_readOne_116 : decode cX6_readOne 116 = .ok (.ireturn, 1) := by decide +kernel
theorem dX6_readOne_117 : decode cX6_readOne 117 = .ok (.aload_n 0, 1) := by decide +kernel
theorem dX6_readOne_118 : decode cX6_readOne 118 = .ok (.iload_n 1, 1) := by decide +kernel
theorem dX6_readOne_119 : decode cX6_readOne 119 = .ok (.iconst 1, 1) := by decide +kernel
theorem dX6_readOne_120 : decode cX6_readOne 120 = .ok (.iadd, 1) := by decide +kernel
theorem dX6_readOne_121 : decode cX6_readOne 121 = .ok (.invokevirtual 50, 3) := by decide +kernel
theorem dX6_readOne_124 : decode cX6_readOne 124 = .ok (.istore 4, 2) := by decide +kernel
theorem dX6_readOne_126 : decode cX6_readOne 126 = .ok (.aload_n 0, 1) := by decide +kernel
theorem dX6_readOne_127 : decode cX6_readOne 127 = .ok (.getfield 16, 3) := by decide +kernel
theorem dX6_readOne_130 : decode cX6_readOne 130 = .ok (.iload_n 2, 1) := by decide +kernel
theorem dX6_readOne_131 : decode cX6_readOne 131 = .ok (.bipush 33, 2) := by decide +kernel
theorem dX6_readOne_133 : decode cX6_readOne 133 = .ok (.if_icmp .ne 8, 3) := by decide +kernel
theorem dX6_readOne_136 : decode cX6_readOne 136 = .ok (.bipush (-8), 2) := by decide +kernel
theorem dX6_readOne_138 : decode cX6_readOne 138 = .ok (.goto 5, 3) := by decide +kernel
theorem dX6_readOne_141 : decode cX6_readOne 141 = .ok (.bipush (-7), 2) := by decide +kernel
theorem dX6_readOne_143 : decode cX6_readOne 143 = .ok (.invokevirtual 57, 3) := by decide +kernel
theorem dX6_readOne_146 : decode cX6_readOne 146 = .ok (.iload 4, 2) := by decide +kernel
theorem dX6_readOne_148 : decode cX6_readOne 148 = .ok (.ireturn, 1) := by decide +kernel
theorem dX6_readNumber_0 : decode cX6_readNumber 0 = .ok (.iconst 0, 1) := by decide +kernel
theorem dX6_readNumber_1 : decode cX6_readNumber 1 = .ok (.istore_n 1, 1) := by decide +kernel
theorem dX6_readNumber_2 : decode cX6_readNumber 2 = .ok (.iconst 0, 1) := by decide +kernel
theorem dX6_readNumber_3 : decode cX6_readNumber 3 = .ok (.istore_n 2, 1) := by decide +kernel
theorem dX6_readNumber_4 : decode cX6_readNumber 4 = .ok (.iload_n 2, 1) := by decide +kernel
theorem dX6_readNumber_5 : decode cX6_readNumber 5 = .ok (.iconst 4, 1) := by decide +kernel
theorem dX6_readNumber_6 : decode cX6_readNumber 6 = .ok (.if_icmp .ge 42, 3) := by decide +kernel
theorem dX6_readNumber_9 : decode cX6_readNumber 9 = .ok (.aload_n 0, 1) := by decide +kernel
theorem dX6_readNumber_10 : decode cX6_readNumber 10 = .ok (.invokevirtual 38, 3) := by decide +kernel
theorem dX6_readNumber_13 : decode cX6_readNumber 13 = .ok (.invokestatic 61, 3) := by decide +kernel
theorem dX6_readNumber_16 : decode cX6_readNumber 16 = .ok (.ifCond .eq 32, 3) := by decide +kernel
theorem dX6_readNumber_19 : decode cX6_readNumber 19 = .ok (.iload_n 1, 1) := by decide +kernel
theorem dX6_readNumber_20 : decode cX6_readNumber 20 = .ok (.bipush 10, 2) := by decide +kernel
theorem dX6_readNumber_22 : decode cX6_readNumber 22 = .ok (.imul, 1) := by decide +kernel
theorem dX6_readNumber_23 : decode cX6_readNumber 23 = .ok (.aload_n 0, 1) := by decide +kernel
theorem dX6_readNumber_24 : decode cX6_readNumber 24 = .ok (.invokevirtual 38, 3) := by decide +kernel
theorem dX6_readNumber_27 : decode cX6_readNumber 27 = .ok (.iadd, 1) := by decide +kernel
theorem dX6_readNumber_28 : decode cX6_readNumber 28 = .ok (.bipush 48, 2) := by decide +kernel
theorem dX6_readNumber_30 : decode cX6_readNumber 30 = .ok (.isub, 1) := by decide +kernel
theorem dX6_readNumber_31 : decode cX6_readNumber 31 = .ok (.istore_n 1, 1) := by decide +kernel
theorem dX6_readNumber_32 : decode cX6_readNumber 32 = .ok (.aload_n 0, 1) := by decide +kernel
theorem dX6_readNumber_33 : decode cX6_readNumber 33 = .ok (.dup, 1) := by decide +kernel
theorem dX6_readNumber_34 : decode cX6_readNumber 34 = .ok (.getfield 24, 3) := by decide +kernel
theorem dX6_readNumber_37 : decode cX6_readNumber 37 = .ok (.iconst 1, 1) := by decide +kernel
theorem dX6_readNumber_38 : decode cX6_readNumber 38 = .ok (.iadd, 1) := by decide +kernel
theorem dX6_readNumber_39 : decode cX6_readNumber 39 = .ok (.putfield 24, 3) := by decide +kernel
theorem dX6_readNumber_42 : decode cX6_readNumber 42 = .ok (.iinc 2 1, 3) := by decide +kernel
theorem dX6_readNumber_45 : decode cX6_readNumber 45 = .ok (.goto (-41), 3) := by decide +kernel
theorem dX6_readNumber_48 : decode cX6_readNumber 48 = .ok (.aload_n 0, 1) := by decide +kernel
theorem dX6_readNumber_49 : decode cX6_readNumber 49 = .ok (.getfield 16, 3) := by decide +kernel
theorem dX6_readNumber_52 : decode cX6_readNumber 52 = .ok (.iload_n 1, 1) := by decide +kernel
theorem dX6_readNumber_53 : decode cX6_readNumber 53 = .ok (.invokevirtual 57, 3) := by decide +kernel
theorem dX6_readNumber_56 : decode cX6_readNumber 56 = .ok (.return_, 1) := by decide +kernel
theorem dX6_isDigit_0 : decode cX6_isDigit 0 = .ok (.iload_n 0, 1) := by decide +kernel
theorem dX6_isDigit_1 : decode cX6_isDigit 1 = .ok (.bipush 48, 2) := by decide +kernel
theorem dX6_isDigit_3 : decode cX6_isDigit 3 = .ok (.if_icmp .lt 13, 3) := by decide +kernel
theorem dX6_isDigit_6 : decode cX6_isDigit 6 = .ok (.iload_n 0, 1) := by decide +kernel
theorem dX6_isDigit_7 : decode cX6_isDigit 7 = .ok (.bipush 57, 2) := by decide +kernel
theorem dX6_isDigit_9 : decode cX6_isDigit 9 = .ok (.if_icmp .gt 7, 3) := by decide +kernel
theorem dX6_isDigit_12 : decode cX6_isDigit 12 = .ok (.iconst 1, 1) := by decide +kernel
theorem dX6_isDigit_13 : decode cX6_isDigit 13 = .ok (.goto 4, 3) := by decide +kernel
theorem dX6_isDigit_16 : decode cX6_isDigit 16 = .ok (.iconst 0, 1) := by decide +kernel
theorem dX6_isDigit_17 : decode cX6_isDigit 17 = .ok (.ireturn, 1) := by decide +kernel
theorem dX6_naming_0 : decode cX6_naming 0 = .ok (.iload_n 0, 1) := by decide +kernel
theorem dX6_naming_1 : decode cX6_naming 1 = .ok (.tableswitch 107 100 119 #[103, 107, 107, 107, 107, 107, 107, 105, 101, 107, 107, 107, 95, 107, 107, 107, 99, 107, 107, 97], 95) := by decide +kernel
theorem dX6_naming_96 : decode cX6_naming 96 = .ok (.iconst 0, 1) := by decide +kernel
theorem dX6_naming_97 : decode cX6_naming 97 = .ok (.ireturn, 1) := by decide +kernel
theorem dX6_naming_98 : decode cX6_naming 98 = .ok (.iconst 1, 1) := by decide +kernel
theorem dX6_naming_99 : decode cX6_naming 99 = .ok (.ireturn, 1) := by decide +kernel
theorem dX6_naming_100 : decode cX6_naming 100 = .ok (.iconst 2, 1) := by decide +kernel
theorem dX6_naming_101 : decode cX6_naming 101 = .ok (.ireturn, 1) := by decide +kernel
theorem dX6_naming_102 : decode cX6_naming 102 = .ok (.iconst 3, 1) := by decide +kernel
theorem dX6_naming_103 : decode cX6_naming 103 = .ok (.ireturn, 1) := by decide +kernel
theorem dX6_naming_104 : decode cX6_naming 104 = .ok (.iconst 4, 1) := by decide +kernel
theorem dX6_naming_105 : decode cX6_naming 105 = .ok (.ireturn, 1) := by decide +kernel
theorem dX6_naming_106 : decode cX6_naming 106 = .ok (.iconst 5, 1) := by decide +kernel
theorem dX6_naming_107 : decode cX6_naming 107 = .ok (.ireturn, 1) := by decide +kernel
theorem dX6_naming_108 : decode cX6_naming 108 = .ok (.iconst (-1), 1) := by decide +kernel
theorem dX6_naming_109 : decode cX6_naming 109 = .ok (.ireturn, 1) := by decide +kernel
theorem dX6_joining_0 : decode cX6_joining 0 = .ok (.iload_n 1, 1) := by decide +kernel
theorem dX6_joining_1 : decode cX6_joining 1 = .ok (.tableswitch 116 0 3 #[31, 44, 57, 92], 31) := by decide +kernel
theorem dX6_joining_32 : decode cX6_joining 32 = .ok (.iload_n 0, 1) := by decide +kernel
theorem dX6_joining_33 : decode cX6_joining 33 = .ok (.bipush 124, 2) := by decide +kernel
theorem dX6_joining_35 : decode cX6_joining 35 = .ok (.if_icmp .ne 8, 3) := by decide +kernel
theorem dX6_joining_38 : decode cX6_joining 38 = .ok (.bipush (-18), 2) := by decide +kernel
theorem dX6_joining_40 : decode cX6_joining 40 = .ok (.goto 4, 3) := by decide +kernel
theorem dX6_joining_43 : decode cX6_joining 43 = .ok (.iconst 0, 1) := by decide +kernel
theorem dX6_joining_44 : decode cX6_joining 44 = .ok (.ireturn, 1) := by decide +kernel
theorem dX6_joining_45 : decode cX6_joining 45 = .ok (.iload_n 0, 1) := by decide +kernel
theorem dX6_joining_46 : decode cX6_joining 46 = .ok (.bipush 38, 2) := by decide +kernel
theorem dX6_joining_48 : decode cX6_joining 48 = .ok (.if_icmp .ne 8, 3) := by decide +kernel
theorem dX6_joining_51 : decode cX6_joining 51 = .ok (.bipush (-17), 2) := by decide +kernel
theorem dX6_joining_53 : decode cX6_joining 53 = .ok (.goto 4, 3) := by decide +kernel
theorem dX6_joining_56 : decode cX6_joining 56 = .ok (.iconst 0, 1) := by decide +kernel
theorem dX6_joining_57 : decode cX6_joining 57 = .ok (.ireturn, 1) := by decide +kernel
theorem dX6_joining_58 : decode cX6_joining 58 = .ok (.iload_n 0, 1) := by decide +kernel
theorem dX6_joining_59 : decode cX6_joining 59 = .ok (.bipush 60, 2) := by decide +kernel
theorem dX6_joining_61 : decode cX6_joining 61 = .ok (.if_icmp .ne 8, 3) := by decide +kernel
theorem dX6_joining_64 : decode cX6_joining 64 = .ok (.bipush (-14), 2) := by decide +kernel
theorem dX6_joining_66 : decode cX6_joining 66 = .ok (.goto 26, 3) := by decide +kernel
theorem dX6_joining_69 : decode cX6_joining 69 = .ok (.iload_n 0, 1) := by decide +kernel
theorem dX6_joining_70 : decode cX6_joining 70 = .ok (.bipush 61, 2) := by decide +kernel
theorem dX6_joining_72 : decode cX6_joining 72 = .ok (.if_icmp .ne 8, 3) := by decide +kernel
theorem dX6_joining_75 : decode cX6_joining 75 = .ok (.bipush (-15), 2) := by decide +kernel
theorem dX6_joining_77 : decode cX6_joining 77 = .ok (.goto 15, 3) := by decide +kernel
theorem dX6_joining_80 : decode cX6_joining 80 = .ok (.iload_n 0, 1) := by decide +kernel
theorem dX6_joining_81 : decode cX6_joining 81 = .ok (.bipush 62, 2) := by decide +kernel
theorem dX6_joining_83 : decode cX6_joining 83 = .ok (.if_icmp .ne 8, 3) := by decide +kernel
theorem dX6_joining_86 : decode cX6_joining 86 = .ok (.bipush (-16), 2) := by decide +kernel
theorem dX6_joining_88 : decode cX6_joining 88 = .ok (.goto 4, 3) := by decide +kernel
theorem dX6_joining_91 : decode cX6_joining 91 = .ok (.iconst 0, 1) := by decide +kernel
theorem dX6_joining_92 : decode cX6_joining 92 = .ok (.ireturn, 1) := by decide +kernel
theorem dX6_joining_93 : decode cX6_joining 93 = .ok (.iload_n 0, 1) := by decide +kernel
theorem dX6_joining_94 : decode cX6_joining 94 = .ok (.bipush 43, 2) := by decide +kernel
theorem dX6_joining_96 : decode cX6_joining 96 = .ok (.if_icmp .ne 8, 3) := by decide +kernel
theorem dX6_joining_99 : decode cX6_joining 99 = .ok (.bipush (-12), 2) := by decide +kernel
theorem dX6_joining_101 : decode cX6_joining 101 = .ok (.goto 15, 3) := by decide +kernel
theorem dX6_joining_104 : decode cX6_joining 104 = .ok (.iload_n 0, 1) := by decide +kernel
theorem dX6_joining_105 : decode cX6_joining 105 = .ok (.bipush 45, 2) := by decide +kernel
theorem dX6_joining_107 : decode cX6_joining 107 = .ok (.if_icmp .ne 8, 3) := by decide +kernel
theorem dX6_joining_110 : decode cX6_joining 110 = .ok (.bipush (-13), 2) := by decide +kernel
theorem dX6_joining_112 : decode cX6_joining 112 = .ok (.goto 4, 3) := by decide +kernel
theorem dX6_joining_115 : decode cX6_joining 115 = .ok (.iconst 0, 1) := by decide +kernel
theorem dX6_joining_116 : decode cX6_joining 116 = .ok (.ireturn, 1) := by decide +kernel
theorem dX6_joining_117 : decode cX6_joining 117 = .ok (.iload_n 0, 1) := by decide +kernel
theorem dX6_joining_118 : decode cX6_joining 118 = .ok (.bipush 42, 2) := by decide +kernel
theorem dX6_joining_120 : decode cX6_joining 120 = .ok (.if_icmp .ne 8, 3) := by decide +kernel
theorem dX6_joining_123 : decode cX6_joining 123 = .ok (.bipush (-9), 2) := by decide +kernel
theorem dX6_joining_125 : decode cX6_joining 125 = .ok (.goto 26, 3) := by decide +kernel
theorem dX6_joining_128 : decode cX6_joining 128 = .ok (.iload_n 0, 1) := by decide +kernel
theorem dX6_joining_129 : decode cX6_joining 129 = .ok (.bipush 47, 2) := by decide +kernel
theorem dX6_joining_131 : decode cX6_joining 131 = .ok (.if_icmp .ne 8, 3) := by decide +kernel
theorem dX6_joining_134 : decode cX6_joining 134 = .ok (.bipush (-10), 2) := by decide +kernel
theorem dX6_joining_136 : decode cX6_joining 136 = .ok (.goto 15, 3) := by decide +kernel
theorem dX6_joining_139 : decode cX6_joining 139 = .ok (.iload_n 0, 1) := by decide +kernel
theorem dX6_joining_140 : decode cX6_joining 140 = .ok (.bipush 37, 2) := by decide +kernel
theorem dX6_joining_142 : decode cX6_joining 142 = .ok (.if_icmp .ne 8, 3) := by decide +kernel
theorem dX6_joining_145 : decode cX6_joining 145 = .ok (.bipush (-11), 2) := by decide +kernel
theorem dX6_joining_147 : decode cX6_joining 147 = .ok (.goto 4, 3) := by decide +kernel
theorem dX6_joining_150 : decode cX6_joining 150 = .ok (.iconst 0, 1) := by decide +kernel
theorem dX6_joining_151 : decode cX6_joining 151 = .ok (.ireturn, 1) := by decide +kernel
theorem dX7_init_0 : decode cX7_init 0 = .ok (.aload_n 0, 1) := by decide +kernel
theorem dX7_init_1 : decode cX7_init 1 = .ok (.invokespecial 1, 3) := by decide +kernel
theorem dX7_init_4 : decode cX7_init 4 = .ok (.aload_n 0, 1) := by decide +kernel
theorem dX7_init_5 : decode cX7_init 5 = .ok (.bipush 120, 2) := by decide +kernel
theorem dX7_init_7 : decode cX7_init 7 = .ok (.newarray .int, 2) := by decide +kernel
theorem dX7_init_9 : decode cX7_init 9 = .ok (.putfield 9, 3) := by decide +kernel
theorem dX7_init_12 : decode cX7_init 12 = .ok (.aload_n 0, 1) := by decide +kernel
theorem dX7_init_13 : decode cX7_init 13 = .ok (.bipush 120, 2) := by decide +kernel
theorem dX7_init_15 : decode cX7_init 15 = .ok (.newarray .int, 2) := by decide +kernel
theorem dX7_init_17 : decode cX7_init 17 = .ok (.putfield 15, 3) := by decide +kernel
theorem dX7_init_20 : decode cX7_init 20 = .ok (.aload_n 0, 1) := by decide +kernel
theorem dX7_init_21 : decode cX7_init 21 = .ok (.bipush 120, 2) := by decide +kernel
theorem dX7_init_23 : decode cX7_init 23 = .ok (.newarray .boolean, 2) := by decide +kernel
theorem dX7_init_25 : decode cX7_init 25 = .ok (.putfield 18, 3) := by decide +kernel
theorem dX7_init_28 : decode cX7_init 28 = .ok (.return_, 1) := by decide +kernel
theorem dX7_clear_0 : decode cX7_clear 0 = .ok (.aload_n 0, 1) := by decide +kernel
theorem dX7_clear_1 : decode cX7_clear 1 = .ok (.iconst 0, 1) := by decide +kernel
theorem dX7_clear_2 : decode cX7_clear 2 = .ok (.putfield 22, 3) := by decide +kernel
theorem dX7_clear_5 : decode cX7_clear 5 = .ok (.aload_n 0, 1) := by decide +kernel
theorem dX7_clear_6 : decode cX7_clear 6 = .ok (.iconst 0, 1) := by decide +kernel
theorem dX7_clear_7 : decode cX7_clear 7 = .ok (.putfield 26, 3) := by decide +kernel
theorem dX7_clear_10 : decode cX7_clear 10 = .ok (.return_, 1) := by decide +kernel
theorem dX7_add_0 : decode cX7_add 0 = .ok (.aload_n 0, 1) := by decide +kernel
theorem dX7_add_1 : decode cX7_add 1 = .ok (.getfield 22, 3) := by decide +kernel
theorem dX7_add_4 : decode cX7_add 4 = .ok (.aload_n 0, 1) := by decide +kernel
theorem dX7_add_5 : decode cX7_add 5 = .ok (.getfield 9, 3) := by decide +kernel
theorem dX7_add_8 : decode cX7_add 8 = .ok (.arraylength, 1) := by decide +kernel
theorem dX7_add_9 : decode cX7_add 9 = .ok (.if_icmp .ge 23, 3) := by decide +kernel
theorem dX7_add_12 : decode cX7_add 12 = .ok (.aload_n 0, 1) := by decide +kernel
theorem dX7_add_13 : decode cX7_add 13 = .ok (.getfield 9, 3) := by decide +kernel
theorem dX7_add_16 : decode cX7_add 16 = .ok (.aload_n 0, 1) := by decide +kernel
theorem dX7_add_17 : decode cX7_add 17 = .ok (.getfield 22, 3) := by decide +kernel
theorem dX7_add_20 : decode cX7_add 20 = .ok (.iload_n 1, 1) := by decide +kernel
theorem dX7_add_21 : decode cX7_add 21 = .ok (.iastore, 1) := by decide +kernel
theorem dX7_add_22 : decode cX7_add 22 = .ok (.aload_n 0, 1) := by decide +kernel
theorem dX7_add_23 : decode cX7_add 23 = .ok (.dup, 1) := by decide +kernel
theorem dX7_add_24 : decode cX7_add 24 = .ok (.getfield 22, 3) := by decide +kernel
theorem dX7_add_27 : decode cX7_add 27 = .ok (.iconst 1, 1) := by decide +kernel
theorem dX7_add_28 : decode cX7_add 28 = .ok (.iadd, 1) := by decide +kernel
theorem dX7_add_29 : decode cX7_add 29 = .ok (.putfield 22, 3) := by decide +kernel
theorem dX7_add_32 : decode cX7_add 32 = .ok (.return_, 1) := by decide +kernel
theorem dX7_endPart_0 : decode cX7_endPart 0 = .ok (.aload_n 0, 1) := by decide +kernel
theorem dX7_endPart_1 : decode cX7_endPart 1 = .ok (.getfield 26, 3) := by decide +kernel
theorem dX7_endPart_4 : decode cX7_endPart 4 = .ok (.aload_n 0, 1) := by decide +kernel
theorem dX7_endPart_5 : decode cX7_endPart 5 = .ok (.getfield 15, 3) := by decide +kernel
theorem dX7_endPart_8 : decode cX7_endPart 8 = .ok (.arraylength, 1) := by decide +kernel
theorem dX7_endPart_9 : decode cX7_endPart 9 = .ok (.if_icmp .ge 36, 3) := by decide +kernel
theorem dX7_endPart_12 : decode cX7_endPart 12 = .ok (.aload_n 0, 1) := by decide +kernel
theorem dX7_endPart_13 : decode cX7_endPart 13 = .ok (.getfield 15, 3) := by decide +kernel
theorem dX7_endPart_16 : decode cX7_endPart 16 = .ok (.aload_n 0, 1) := by decide +kernel
theorem dX7_endPart_17 : decode cX7_endPart 17 = .ok (.getfield 26, 3) := by decide +kernel
theorem dX7_endPart_20 : decode cX7_endPart 20 = .ok (.aload_n 0, 1) := by decide +kernel
theorem dX7_endPart_21 : decode cX7_endPart 21 = .ok (.getfield 22, 3) := by decide +kernel
theorem dX7_endPart_24 : decode cX7_endPart 24 = .ok (.iastore, 1) := by decide +kernel
theorem dX7_endPart_25 : decode cX7_endPart 25 = .ok (.aload_n 0, 1) := by decide +kernel
theorem dX7_endPart_26 : decode cX7_endPart 26 = .ok (.getfield 18, 3) := by decide +kernel
theorem dX7_endPart_29 : decode cX7_endPart 29 = .ok (.aload_n 0, 1) := by decide +kernel
theorem dX7_endPart_30 : decode cX7_endPart 30 = .ok (.getfield 26, 3) := by decide +kernel
theorem dX7_endPart_33 : decode cX7_endPart 33 = .ok (.iload_n 1, 1) := by decide +kernel
theorem dX7_endPart_34 : decode cX7_endPart 34 = .ok (.bastore, 1) := by decide +kernel
theorem dX7_endPart_35 : decode cX7_endPart 35 = .ok (.aload_n 0, 1) := by decide +kernel
theorem dX7_endPart_36 : decode cX7_endPart 36 = .ok (.dup, 1) := by decide +kernel
theorem dX7_endPart_37 : decode cX7_endPart 37 = .ok (.getfield 26, 3) := by decide +kernel
theorem dX7_endPart_40 : decode cX7_endPart 40 = .ok (.iconst 1, 1) := by decide +kernel
theorem dX7_endPart_41 : decode cX7_endPart 41 = .ok (.iadd, 1) := by decide +kernel
theorem dX7_endPart_42 : decode cX7_endPart 42 = .ok (.putfield 26, 3) := by decide +kernel
theorem dX7_endPart_45 : decode cX7_endPart 45 = .ok (.return_, 1) := by decide +kernel
theorem dX8_init_0 : decode cX8_init 0 = .ok (.aload_n 0, 1) := by decide +kernel
theorem dX8_init_1 : decode cX8_init 1 = .ok (.invokespecial 3, 3) := by decide +kernel
theorem dX8_init_4 : decode cX8_init 4 = .ok (.aload_n 0, 1) := by decide +kernel
theorem dX8_init_5 : decode cX8_init 5 = .ok (.sipush 1000, 3) := by decide +kernel
theorem dX8_init_8 : decode cX8_init 8 = .ok (.newarray .int, 2) := by decide +kernel
theorem dX8_init_10 : decode cX8_init 10 = .ok (.putfield 9, 3) := by decide +kernel
theorem dX8_init_13 : decode cX8_init 13 = .ok (.aload_n 0, 1) := by decide +kernel
theorem dX8_init_14 : decode cX8_init 14 = .ok (.sipush 441, 3) := by decide +kernel
theorem dX8_init_17 : decode cX8_init 17 = .ok (.newarray .int, 2) := by decide +kernel
theorem dX8_init_19 : decode cX8_init 19 = .ok (.putfield 15, 3) := by decide +kernel
theorem dX8_init_22 : decode cX8_init 22 = .ok (.aload_n 0, 1) := by decide +kernel
theorem dX8_init_23 : decode cX8_init 23 = .ok (.sipush 441, 3) := by decide +kernel
theorem dX8_init_26 : decode cX8_init 26 = .ok (.newarray .int, 2) := by decide +kernel
theorem dX8_init_28 : decode cX8_init 28 = .ok (.putfield 18, 3) := by decide +kernel
theorem dX8_init_31 : decode cX8_init 31 = .ok (.aload_n 0, 1) := by decide +kernel
theorem dX8_init_32 : decode cX8_init 32 = .ok (.aload_n 1, 1) := by decide +kernel
theorem dX8_init_33 : decode cX8_init 33 = .ok (.putfield 21, 3) := by decide +kernel
theorem dX8_init_36 : decode cX8_init 36 = .ok (.aload_n 0, 1) := by decide +kernel
theorem dX8_init_37 : decode cX8_init 37 = .ok (.aload_n 3, 1) := by decide +kernel
theorem dX8_init_38 : decode cX8_init 38 = .ok (.putfield 25, 3) := by decide +kernel
theorem dX8_init_41 : decode cX8_init 41 = .ok (.aload_n 0, 1) := by decide +kernel
theorem dX8_init_42 : decode cX8_init 42 = .ok (.new 29, 3) := by decide +kernel
theorem dX8_init_45 : decode cX8_init 45 = .ok (.dup, 1) := by decide +kernel
theorem dX8_init_46 : decode cX8_init 46 = .ok (.aload_n 1, 1) := by decide +kernel
theorem dX8_init_47 : decode cX8_init 47 = .ok (.aload_n 2, 1) := by decide +kernel
theorem dX8_init_48 : decode cX8_init 48 = .ok (.invokespecial 31, 3) := by decide +kernel
theorem dX8_init_51 : decode cX8_init 51 = .ok (.putfield 34, 3) := by decide +kernel
theorem dX8_init_54 : decode cX8_init 54 = .ok (.aload_n 0, 1) := by decide +kernel
theorem dX8_init_55 : decode cX8_init 55 = .ok (.new 29, 3) := by decide +kernel
theorem dX8_init_58 : decode cX8_init 58 = .ok (.dup, 1) := by decide +kernel
theorem dX8_init_59 : decode cX8_init 59 = .ok (.aload_n 1, 1) := by decide +kernel
theorem dX8_init_60 : decode cX8_init 60 = .ok (.aload_n 2, 1) := by decide +kernel
theorem dX8_init_61 : decode cX8_init 61 = .ok (.invokespecial 31, 3) := by decide +kernel
theorem dX8_init_64 : decode cX8_init 64 = .ok (.putfield 37, 3) := by decide +kernel
theorem dX8_init_67 : decode cX8_init 67 = .ok (.return_, 1) := by decide +kernel
theorem dX8_after_0 : decode cX8_after 0 = .ok (.aload_n 0, 1) := by decide +kernel
theorem dX8_after_1 : decode cX8_after 1 = .ok (.getfield 34, 3) := by decide +kernel
theorem dX8_after_4 : decode cX8_after 4 = .ok (.aload_n 0, 1) := by decide +kernel
theorem dX8_after_5 : decode cX8_after 5 = .ok (.getfield 25, 3) := by decide +kernel
theorem dX8_after_8 : decode cX8_after 8 = .ok (.invokevirtual 40, 3) := by decide +kernel
theorem dX8_after_11 : decode cX8_after 11 = .ok (.iconst 0, 1) := by decide +kernel
theorem dX8_after_12 : decode cX8_after 12 = .ok (.istore_n 2, 1) := by decide +kernel
theorem dX8_after_13 : decode cX8_after 13 = .ok (.iload_n 2, 1) := by decide +kernel
theorem dX8_after_14 : decode cX8_after 14 = .ok (.iload_n 1, 1) := by decide +kernel
theorem dX8_after_15 : decode cX8_after 15 = .ok (.if_icmp .ge 20, 3) := by decide +kernel
theorem dX8_after_18 : decode cX8_after 18 = .ok (.aload_n 0, 1) := by decide +kernel
theorem dX8_after_19 : decode cX8_after 19 = .ok (.getfield 34, 3) := by decide +kernel
theorem dX8_after_22 : decode cX8_after 22 = .ok (.bipush 7, 2) := by decide +kernel
theorem dX8_after_24 : decode cX8_after 24 = .ok (.iconst 0, 1) := by decide +kernel
theorem dX8_after_25 : decode cX8_after 25 = .ok (.iconst 0, 1) := by decide +kernel
theorem dX8_after_26 : decode cX8_after 26 = .ok (.invokevirtual 44, 3) := by decide +kernel
theorem dX8_after_29 : decode cX8_after 29 = .ok (.iinc 2 1, 3) := by decide +kernel
theorem dX8_after_32 : decode cX8_after 32 = .ok (.goto (-19), 3) := by decide +kernel
theorem dX8_after_35 : decode cX8_after 35 = .ok (.aload_n 0, 1) := by decide +kernel
theorem dX8_after_36 : decode cX8_after 36 = .ok (.getfield 34, 3) := by decide +kernel
theorem dX8_after_39 : decode cX8_after 39 = .ok (.areturn, 1) := by decide +kernel
theorem dX8_drunk_0 : decode cX8_drunk 0 = .ok (.aload_n 0, 1) := by decide +kernel
theorem dX8_drunk_1 : decode cX8_drunk 1 = .ok (.getfield 21, 3) := by decide +kernel
theorem dX8_drunk_4 : decode cX8_drunk 4 = .ok (.invokevirtual 48, 3) := by decide +kernel
theorem dX8_drunk_7 : decode cX8_drunk 7 = .ok (.istore_n 2, 1) := by decide +kernel
theorem dX8_drunk_8 : decode cX8_drunk 8 = .ok (.aload_n 0, 1) := by decide +kernel
theorem dX8_drunk_9 : decode cX8_drunk 9 = .ok (.getfield 34, 3) := by decide +kernel
theorem dX8_drunk_12 : decode cX8_drunk 12 = .ok (.aload_n 0, 1) := by decide +kernel
theorem dX8_drunk_13 : decode cX8_drunk 13 = .ok (.getfield 25, 3) := by decide +kernel
theorem dX8_drunk_16 : decode cX8_drunk 16 = .ok (.invokevirtual 40, 3) := by decide +kernel
theorem dX8_drunk_19 : decode cX8_drunk 19 = .ok (.iconst 0, 1) := by decide +kernel
theorem dX8_drunk_20 : decode cX8_drunk 20 = .ok (.istore_n 3, 1) := by decide +kernel
theorem dX8_drunk_21 : decode cX8_drunk 21 = .ok (.iload_n 3, 1) := by decide +kernel
theorem dX8_drunk_22 : decode cX8_drunk 22 = .ok (.iload_n 1, 1) := by decide +kernel
theorem dX8_drunk_23 : decode cX8_drunk 23 = .ok (.if_icmp .ge 41, 3) := by decide +kernel
theorem dX8_drunk_26 : decode cX8_drunk 26 = .ok (.aload_n 0, 1) := by decide +kernel
theorem dX8_drunk_27 : decode cX8_drunk 27 = .ok (.getfield 34, 3) := by decide +kernel
theorem dX8_drunk_30 : decode cX8_drunk 30 = .ok (.getfield 54, 3) := by decide +kernel
theorem dX8_drunk_33 : decode cX8_drunk 33 = .ok (.ifCond .gt 14, 3) := by decide +kernel
theorem dX8_drunk_36 : decode cX8_drunk 36 = .ok (.aload_n 0, 1) := by decide +kernel
theorem dX8_drunk_37 : decode cX8_drunk 37 = .ok (.getfield 34, 3) := by decide +kernel
theorem dX8_drunk_40 : decode cX8_drunk 40 = .ok (.getfield 58, 3) := by decide +kernel
theorem dX8_drunk_43 : decode cX8_drunk 43 = .ok (.iload_n 2, 1) := by decide +kernel
theorem dX8_drunk_44 : decode cX8_drunk 44 = .ok (.if_icmp .le 20, 3) := by decide +kernel
theorem dX8_drunk_47 : decode cX8_drunk 47 = .ok (.aload_n 0, 1) := by decide +kernel
theorem dX8_drunk_48 : decode cX8_drunk 48 = .ok (.getfield 34, 3) := by decide +kernel
theorem dX8_drunk_51 : decode cX8_drunk 51 = .ok (.bipush 7, 2) := by decide +kernel
theorem dX8_drunk_53 : decode cX8_drunk 53 = .ok (.iconst 0, 1) := by decide +kernel
theorem dX8_drunk_54 : decode cX8_drunk 54 = .ok (.iconst 0, 1) := by decide +kernel
theorem dX8_drunk_55 : decode cX8_drunk 55 = .ok (.invokevirtual 44, 3) := by decide +kernel
theorem dX8_drunk_58 : decode cX8_drunk 58 = .ok (.iinc 3 1, 3) := by decide +kernel
theorem dX8_drunk_61 : decode cX8_drunk 61 = .ok (.goto (-40), 3) := by decide +kernel
theorem dX8_drunk_64 : decode cX8_drunk 64 = .ok (.aload_n 0, 1) := by decide +kernel
theorem dX8_drunk_65 : decode cX8_drunk 65 = .ok (.getfield 34, 3) := by decide +kernel
theorem dX8_drunk_68 : decode cX8_drunk 68 = .ok (.areturn, 1) := by decide +kernel
theorem dX8_emptyBehind_0 : decode cX8_emptyBehind 0 = .ok (.aload_n 0, 1) := by decide +kernel
theorem dX8_emptyBehind_1 : decode cX8_emptyBehind 1 = .ok (.getfield 34, 3) := by decide +kernel
theorem dX8_emptyBehind_4 : decode cX8_emptyBehind 4 = .ok (.aload_n 0, 1) := by decide +kernel
theorem dX8_emptyBehind_5 : decode cX8_emptyBehind 5 = .ok (.getfield 25, 3) := by decide +kernel
theorem dX8_emptyBehind_8 : decode cX8_emptyBehind 8 = .ok (.invokevirtual 40, 3) := by decide +kernel
theorem dX8_emptyBehind_11 : decode cX8_emptyBehind 11 = .ok (.iconst 0, 1) := by decide +kernel
theorem dX8_emptyBehind_12 : decode cX8_emptyBehind 12 = .ok (.istore_n 1, 1) := by decide +kernel
theorem dX8_emptyBehind_13 : decode cX8_emptyBehind 13 = .ok (.iload_n 1, 1) := by decide +kernel
theorem dX8_emptyBehind_14 : decode cX8_emptyBehind 14 = .ok (.sipush 999, 3) := by decide +kernel
theorem dX8_emptyBehind_17 : decode cX8_emptyBehind 17 = .ok (.if_icmp .ge 32, 3) := by decide +kernel
theorem dX8_emptyBehind_20 : decode cX8_emptyBehind 20 = .ok (.aload_n 0, 1) := by decide +kernel
theorem dX8_emptyBehind_21 : decode cX8_emptyBehind 21 = .ok (.getfield 34, 3) := by decide +kernel
theorem dX8_emptyBehind_24 : decode cX8_emptyBehind 24 = .ok (.invokevirtual 61, 3) := by decide +kernel
theorem dX8_emptyBehind_27 : decode cX8_emptyBehind 27 = .ok (.ifCond .eq 5, 3) := by decide +kernel
theorem dX8_emptyBehind_30 : decode cX8_emptyBehind 30 = .ok (.iload_n 1, 1) := by decide +kernel
theorem dX8_emptyBehind_31 : decode cX8_emptyBehind 31 = .ok (.ireturn, 1) := by decide +kernel
theorem dX8_emptyBehind_32 : decode cX8_emptyBehind 32 = .ok (.aload_n 0, 1) := by decide +kernel
theorem dX8_emptyBehind_33 : decode cX8_emptyBehind 33 = .ok (.getfield 34, 3) := by decide +kernel
theorem dX8_emptyBehind_36 : decode cX8_emptyBehind 36 = .ok (.bipush 7, 2) := by decide +kernel
theorem dX8_emptyBehind_38 : decode cX8_emptyBehind 38 = .ok (.iconst 0, 1) := by decide +kernel
theorem dX8_emptyBehind_39 : decode cX8_emptyBehind 39 = .ok (.iconst 0, 1) := by decide +kernel
theorem dX8_emptyBehind_40 : decode cX8_emptyBehind 40 = .ok (.invokevirtual 44, 3) := by decide +kernel
theorem dX8_emptyBehind_43 : decode cX8_emptyBehind 43 = .ok (.iinc 1 1, 3) := by decide +kernel
theorem dX8_emptyBehind_46 : decode cX8_emptyBehind 46 = .ok (.goto (-33), 3) := by decide +kernel
theorem dX8_emptyBehind_49 : decode cX8_emptyBehind 49 = .ok (.aload_n 0, 1) := by decide +kernel
theorem dX8_emptyBehind_50 : decode cX8_emptyBehind 50 = .ok (.getfield 34, 3) := by decide +kernel
theorem dX8_emptyBehind_53 : decode cX8_emptyBehind 53 = .ok (.invokevirtual 61, 3) := by decide +kernel
theorem dX8_emptyBehind_56 : decode cX8_emptyBehind 56 = .ok (.ifCond .eq 9, 3) := by decide +kernel
theorem dX8_emptyBehind_59 : decode cX8_emptyBehind 59 = .ok (.sipush 999, 3) := by decide +kernel
theorem dX8_emptyBehind_62 : decode cX8_emptyBehind 62 = .ok (.goto 5, 3) := by decide +kernel
theorem dX8_emptyBehind_65 : decode cX8_emptyBehind 65 = .ok (.bipush (-2), 2) := by decide +kernel
theorem dX8_emptyBehind_67 : decode cX8_emptyBehind 67 = .ok (.ireturn, 1) := by decide +kernel
theorem dX8_byTurns_0 : decode cX8_byTurns 0 = .ok (.aload_n 0, 1) := by decide +kernel
theorem dX8_byTurns_1 : decode cX8_byTurns 1 = .ok (.getfield 34, 3) := by decide +kernel
theorem dX8_byTurns_4 : decode cX8_byTurns 4 = .ok (.aload_n 0, 1) := by decide +kernel
theorem dX8_byTurns_5 : decode cX8_byTurns 5 = .ok (.getfield 25, 3) := by decide +kernel
theorem dX8_byTurns_8 : decode cX8_byTurns 8 = .ok (.invokevirtual 40, 3) := by decide +kernel
theorem dX8_byTurns_11 : decode cX8_byTurns 11 = .ok (.aload_n 0, 1) := by decide +kernel
theorem dX8_byTurns_12 : decode cX8_byTurns 12 = .ok (.getfield 21, 3) := by decide +kernel
theorem dX8_byTurns_15 : decode cX8_byTurns 15 = .ok (.getfield 65, 3) := by decide +kernel
theorem dX8_byTurns_18 : decode cX8_byTurns 18 = .ok (.istore 4, 2) := by decide +kernel
theorem dX8_byTurns_20 : decode cX8_byTurns 20 = .ok (.iload_n 2, 1) := by decide +kernel
theorem dX8_byTurns_21 : decode cX8_byTurns 21 = .ok (.ifCond .le 48, 3) := by decide +kernel
theorem dX8_byTurns_24 : decode cX8_byTurns 24 = .ok (.iload 4, 2) := by decide +kernel
theorem dX8_byTurns_26 : decode cX8_byTurns 26 = .ok (.ifCond .le 43, 3) := by decide +kernel
theorem dX8_byTurns_29 : decode cX8_byTurns 29 = .ok (.iconst 0, 1) := by decide +kernel
theorem dX8_byTurns_30 : decode cX8_byTurns 30 = .ok (.istore 5, 2) := by decide +kernel
theorem dX8_byTurns_32 : decode cX8_byTurns 32 = .ok (.iload 5, 2) := by decide +kernel
theorem dX8_byTurns_34 : decode cX8_byTurns 34 = .ok (.iload_n 1, 1) := by decide +kernel
theorem dX8_byTurns_35 : decode cX8_byTurns 35 = .ok (.if_icmp .ge 34, 3) := by decide +kernel
theorem dX8_byTurns_38 : decode cX8_byTurns 38 = .ok (.iconst 1, 1) := by decide +kernel
theorem dX8_byTurns_39 : decode cX8_byTurns 39 = .ok (.iload_n 3, 1) := by decide +kernel
theorem dX8_byTurns_40 : decode cX8_byTurns 40 = .ok (.iload 5, 2) := by decide +kernel
theorem dX8_byTurns_42 : decode cX8_byTurns 42 = .ok (.iload_n 2, 1) := by decide +kernel
theorem dX8_byTurns_43 : decode cX8_byTurns 43 = .ok (.idiv, 1) := by decide +kernel
theorem dX8_byTurns_44 : decode cX8_byTurns 44 = .ok (.iadd, 1) := by decide +kernel
theorem dX8_byTurns_45 : decode cX8_byTurns 45 = .ok (.iload 4, 2) := by decide +kernel
theorem dX8_byTurns_47 : decode cX8_byTurns 47 = .ok (.irem, 1) := by decide +kernel
theorem dX8_byTurns_48 : decode cX8_byTurns 48 = .ok (.ishl, 1) := by decide +kernel
theorem dX8_byTurns_49 : decode cX8_byTurns 49 = .ok (.istore 6, 2) := by decide +kernel
theorem dX8_byTurns_51 : decode cX8_byTurns 51 = .ok (.aload_n 0, 1) := by decide +kernel
theorem dX8_byTurns_52 : decode cX8_byTurns 52 = .ok (.getfield 34, 3) := by decide +kernel
theorem dX8_byTurns_55 : decode cX8_byTurns 55 = .ok (.iload 6, 2) := by decide +kernel
theorem dX8_byTurns_57 : decode cX8_byTurns 57 = .ok (.iload 6, 2) := by decide +kernel
theorem dX8_byTurns_59 : decode cX8_byTurns 59 = .ok (.iconst 0, 1) := by decide +kernel
theorem dX8_byTurns_60 : decode cX8_byTurns 60 = .ok (.invokevirtual 44, 3) := by decide +kernel
theorem dX8_byTurns_63 : decode cX8_byTurns 63 = .ok (.iinc 5 1, 3) := by decide +kernel
theorem dX8_byTurns_66 : decode cX8_byTurns 66 = .ok (.goto (-34), 3) := by decide +kernel
theorem dX8_byTurns_69 : decode cX8_byTurns 69 = .ok (.aload_n 0, 1) := by decide +kernel
theorem dX8_byTurns_70 : decode cX8_byTurns 70 = .ok (.getfield 34, 3) := by decide +kernel
theorem dX8_byTurns_73 : decode cX8_byTurns 73 = .ok (.areturn, 1) := by decide +kernel
theorem dX8_leastMark_0 : decode cX8_leastMark 0 = .ok (.aload_n 0, 1) := by decide +kernel
theorem dX8_leastMark_1 : decode cX8_leastMark 1 = .ok (.getfield 25, 3) := by decide +kernel
theorem dX8_leastMark_4 : decode cX8_leastMark 4 = .ok (.getfield 58, 3) := by decide +kernel
theorem dX8_leastMark_7 : decode cX8_leastMark 7 = .ok (.istore_n 3, 1) := by decide +kernel
theorem dX8_leastMark_8 : decode cX8_leastMark 8 = .ok (.aload_n 0, 1) := by decide +kernel
theorem dX8_leastMark_9 : decode cX8_leastMark 9 = .ok (.getfield 34, 3) := by decide +kernel
theorem dX8_leastMark_12 : decode cX8_leastMark 12 = .ok (.aload_n 0, 1) := by decide +kernel
theorem dX8_leastMark_13 : decode cX8_leastMark 13 = .ok (.getfield 25, 3) := by decide +kernel
theorem dX8_leastMark_16 : decode cX8_leastMark 16 = .ok (.invokevirtual 40, 3) := by decide +kernel
theorem dX8_leastMark_19 : decode cX8_leastMark 19 = .ok (.iconst 1, 1) := by decide +kernel
theorem dX8_leastMark_20 : decode cX8_leastMark 20 = .ok (.istore 4, 2) := by decide +kernel
theorem dX8_leastMark_22 : decode cX8_leastMark 22 = .ok (.iload 4, 2) := by decide +kernel
theorem dX8_leastMark_24 : decode cX8_leastMark 24 = .ok (.bipush 99, 2) := by decide +kernel
theorem dX8_leastMark_26 : decode cX8_leastMark 26 = .ok (.if_icmp .gt 64, 3) := by decide +kernel
theorem dX8_leastMark_29 : decode cX8_leastMark 29 = .ok (.aload_n 0, 1) := by decide +kernel
theorem dX8_leastMark_30 : decode cX8_leastMark 30 = .ok (.getfield 34, 3) := by decide +kernel
theorem dX8_leastMark_33 : decode cX8_leastMark 33 = .ok (.iconst 1, 1) := by decide +kernel
theorem dX8_leastMark_34 : decode cX8_leastMark 34 = .ok (.iload_n 1, 1) := by decide +kernel
theorem dX8_leastMark_35 : decode cX8_leastMark 35 = .ok (.ishl, 1) := by decide +kernel
theorem dX8_leastMark_36 : decode cX8_leastMark 36 = .ok (.iconst 1, 1) := by decide +kernel
theorem dX8_leastMark_37 : decode cX8_leastMark 37 = .ok (.iload_n 1, 1) := by decide +kernel
theorem dX8_leastMark_38 : decode cX8_leastMark 38 = .ok (.ishl, 1) := by decide +kernel
theorem dX8_leastMark_39 : decode cX8_leastMark 39 = .ok (.iconst 0, 1) := by decide +kernel
theorem dX8_leastMark_40 : decode cX8_leastMark 40 = .ok (.invokevirtual 44, 3) := by decide +kernel
theorem dX8_leastMark_43 : decode cX8_leastMark 43 = .ok (.aload_n 0, 1) := by decide +kernel
theorem dX8_leastMark_44 : decode cX8_leastMark 44 = .ok (.getfield 34, 3) := by decide +kernel
theorem dX8_leastMark_47 : decode cX8_leastMark 47 = .ok (.getfield 58, 3) := by decide +kernel
theorem dX8_leastMark_50 : decode cX8_leastMark 50 = .ok (.iload_n 3, 1) := by decide +kernel
theorem dX8_leastMark_51 : decode cX8_leastMark 51 = .ok (.if_icmp .ge 33, 3) := by decide +kernel
theorem dX8_leastMark_54 : decode cX8_leastMark 54 = .ok (.aload_n 0, 1) := by decide +kernel
theorem dX8_leastMark_55 : decode cX8_leastMark 55 = .ok (.getfield 34, 3) := by decide +kernel
theorem dX8_leastMark_58 : decode cX8_leastMark 58 = .ok (.getfield 68, 3) := by decide +kernel
theorem dX8_leastMark_61 : decode cX8_leastMark 61 = .ok (.iload_n 1, 1) := by decide +kernel
theorem dX8_leastMark_62 : decode cX8_leastMark 62 = .ok (.iaload, 1) := by decide +kernel
theorem dX8_leastMark_63 : decode cX8_leastMark 63 = .ok (.aload_n 0, 1) := by decide +kernel
theorem dX8_leastMark_64 : decode cX8_leastMark 64 = .ok (.iload_n 2, 1) := by decide +kernel
theorem dX8_leastMark_65 : decode cX8_leastMark 65 = .ok (.bipush 99, 2) := by decide +kernel
theorem dX8_leastMark_67 : decode cX8_leastMark 67 = .ok (.iload 4, 2) := by decide +kernel
theorem dX8_leastMark_69 : decode cX8_leastMark 69 = .ok (.isub, 1) := by decide +kernel
theorem dX8_leastMark_70 : decode cX8_leastMark 70 = .ok (.invokevirtual 71, 3) := by decide +kernel
theorem dX8_leastMark_73 : decode cX8_leastMark 73 = .ok (.if_icmp .gt 11, 3) := by decide +kernel
theorem dX8_leastMark_76 : decode cX8_leastMark 76 = .ok (.aload_n 0, 1) := by decide +kernel
theorem dX8_leastMark_77 : decode cX8_leastMark 77 = .ok (.getfield 34, 3) := by decide +kernel
theorem dX8_leastMark_80 : decode cX8_leastMark 80 = .ok (.getfield 58, 3) := by decide +kernel
theorem dX8_leastMark_83 : decode cX8_leastMark 83 = .ok (.istore_n 3, 1) := by decide +kernel
theorem dX8_leastMark_84 : decode cX8_leastMark 84 = .ok (.iinc 4 1, 3) := by decide +kernel
theorem dX8_leastMark_87 : decode cX8_leastMark 87 = .ok (.goto (-65), 3) := by decide +kernel
theorem dX8_leastMark_90 : decode cX8_leastMark 90 = .ok (.iload_n 3, 1) := by decide +kernel
theorem dX8_leastMark_91 : decode cX8_leastMark 91 = .ok (.ireturn, 1) := by decide +kernel
theorem dX8_gotBehind_0 : decode cX8_gotBehind 0 = .ok (.aload_n 0, 1) := by decide +kernel
theorem dX8_gotBehind_1 : decode cX8_gotBehind 1 = .ok (.getfield 37, 3) := by decide +kernel
theorem dX8_gotBehind_4 : decode cX8_gotBehind 4 = .ok (.aload_n 0, 1) := by decide +kernel
theorem dX8_gotBehind_5 : decode cX8_gotBehind 5 = .ok (.getfield 34, 3) := by decide +kernel
theorem dX8_gotBehind_8 : decode cX8_gotBehind 8 = .ok (.invokevirtual 40, 3) := by decide +kernel
theorem dX8_gotBehind_11 : decode cX8_gotBehind 11 = .ok (.iconst 0, 1) := by decide +kernel
theorem dX8_gotBehind_12 : decode cX8_gotBehind 12 = .ok (.istore_n 3, 1) := by decide +kernel
theorem dX8_gotBehind_13 : decode cX8_gotBehind 13 = .ok (.iload_n 3, 1) := by decide +kernel
theorem dX8_gotBehind_14 : decode cX8_gotBehind 14 = .ok (.iload_n 2, 1) := by decide +kernel
theorem dX8_gotBehind_15 : decode cX8_gotBehind 15 = .ok (.if_icmp .ge 23, 3) := by decide +kernel
theorem dX8_gotBehind_18 : decode cX8_gotBehind 18 = .ok (.aload_n 0, 1) := by decide +kernel
theorem dX8_gotBehind_19 : decode cX8_gotBehind 19 = .ok (.getfield 37, 3) := by decide +kernel
theorem dX8_gotBehind_22 : decode cX8_gotBehind 22 = .ok (.iconst 1, 1) := by decide +kernel
theorem dX8_gotBehind_23 : decode cX8_gotBehind 23 = .ok (.iload_n 1, 1) := by decide +kernel
theorem dX8_gotBehind_24 : decode cX8_gotBehind 24 = .ok (.ishl, 1) := by decide +kernel
theorem dX8_gotBehind_25 : decode cX8_gotBehind 25 = .ok (.iconst 1, 1) := by decide +kernel
theorem dX8_gotBehind_26 : decode cX8_gotBehind 26 = .ok (.iload_n 1, 1) := by decide +kernel
theorem dX8_gotBehind_27 : decode cX8_gotBehind 27 = .ok (.ishl, 1) := by decide +kernel
theorem dX8_gotBehind_28 : decode cX8_gotBehind 28 = .ok (.iconst 0, 1) := by decide +kernel
theorem dX8_gotBehind_29 : decode cX8_gotBehind 29 = .ok (.invokevirtual 44, 3) := by decide +kernel
theorem dX8_gotBehind_32 : decode cX8_gotBehind 32 = .ok (.iinc 3 1, 3) := by decide +kernel
theorem dX8_gotBehind_35 : decode cX8_gotBehind 35 = .ok (.goto (-22), 3) := by decide +kernel
theorem dX8_gotBehind_38 : decode cX8_gotBehind 38 = .ok (.aload_n 0, 1) := by decide +kernel
theorem dX8_gotBehind_39 : decode cX8_gotBehind 39 = .ok (.getfield 37, 3) := by decide +kernel
theorem dX8_gotBehind_42 : decode cX8_gotBehind 42 = .ok (.getfield 68, 3) := by decide +kernel
theorem dX8_gotBehind_45 : decode cX8_gotBehind 45 = .ok (.iload_n 1, 1) := by decide +kernel
theorem dX8_gotBehind_46 : decode cX8_gotBehind 46 = .ok (.iaload, 1) := by decide +kernel
theorem dX8_gotBehind_47 : decode cX8_gotBehind 47 = .ok (.ireturn, 1) := by decide +kernel
theorem dX8_halved_0 : decode cX8_halved 0 = .ok (.sipush 999, 3) := by decide +kernel
theorem dX8_halved_3 : decode cX8_halved 3 = .ok (.aload_n 0, 1) := by decide +kernel
theorem dX8_halved_4 : decode cX8_halved 4 = .ok (.getfield 25, 3) := by decide +kernel
theorem dX8_halved_7 : decode cX8_halved 7 = .ok (.getfield 58, 3) := by decide +kernel
theorem dX8_halved_10 : decode cX8_halved 10 = .ok (.invokestatic 75, 3) := by decide +kernel
theorem dX8_halved_13 : decode cX8_halved 13 = .ok (.istore 4, 2) := by decide +kernel
theorem dX8_halved_15 : decode cX8_halved 15 = .ok (.iconst 0, 1) := by decide +kernel
theorem dX8_halved_16 : decode cX8_halved 16 = .ok (.istore 5, 2) := by decide +kernel
theorem dX8_halved_18 : decode cX8_halved 18 = .ok (.iload 5, 2) := by decide +kernel
theorem dX8_halved_20 : decode cX8_halved 20 = .ok (.iload 4, 2) := by decide +kernel
theorem dX8_halved_22 : decode cX8_halved 22 = .ok (.if_icmp .gt 23, 3) := by decide +kernel
theorem dX8_halved_25 : decode cX8_halved 25 = .ok (.aload_n 0, 1) := by decide +kernel
theorem dX8_halved_26 : decode cX8_halved 26 = .ok (.getfield 9, 3) := by decide +kernel
theorem dX8_halved_29 : decode cX8_halved 29 = .ok (.iload 5, 2) := by decide +kernel
theorem dX8_halved_31 : decode cX8_halved 31 = .ok (.aload_n 0, 1) := by decide +kernel
theorem dX8_halved_32 : decode cX8_halved 32 = .ok (.iload_n 2, 1) := by decide +kernel
theorem dX8_halved_33 : decode cX8_halved 33 = .ok (.iload 5, 2) := by decide +kernel
theorem dX8_halved_35 : decode cX8_halved 35 = .ok (.invokevirtual 80, 3) := by decide +kernel
theorem dX8_halved_38 : decode cX8_halved 38 = .ok (.iastore, 1) := by decide +kernel
theorem dX8_halved_39 : decode cX8_halved 39 = .ok (.iinc 5 1, 3) := by decide +kernel
theorem dX8_halved_42 : decode cX8_halved 42 = .ok (.goto (-24), 3) := by decide +kernel
theorem dX8_halved_45 : decode cX8_halved 45 = .ok (.aload_n 0, 1) := by decide +kernel
theorem dX8_halved_46 : decode cX8_halved 46 = .ok (.getfield 21, 3) := by decide +kernel
theorem dX8_halved_49 : decode cX8_halved 49 = .ok (.iload_n 1, 1) := by decide +kernel
theorem dX8_halved_50 : decode cX8_halved 50 = .ok (.iconst 2, 1) := by decide +kernel
theorem dX8_halved_51 : decode cX8_halved 51 = .ok (.invokevirtual 83, 3) := by decide +kernel
theorem dX8_halved_54 : decode cX8_halved 54 = .ok (.istore 5, 2) := by decide +kernel
theorem dX8_halved_56 : decode cX8_halved 56 = .ok (.iconst 0, 1) := by decide +kernel
theorem dX8_halved_57 : decode cX8_halved 57 = .ok (.istore 6, 2) := by decide +kernel
theorem dX8_halved_59 : decode cX8_halved 59 = .ok (.iconst (-1), 1) := by decide +kernel
theorem dX8_halved_60 : decode cX8_halved 60 = .ok (.istore 7, 2) := by decide +kernel
theorem dX8_halved_62 : decode cX8_halved 62 = .ok (.iconst 0, 1) := by decide +kernel
theorem dX8_halved_63 : decode cX8_halved 63 = .ok (.istore 8, 2) := by decide +kernel
theorem dX8_halved_65 : decode cX8_halved 65 = .ok (.iload 8, 2) := by decide +kernel
theorem dX8_halved_67 : decode cX8_halved 67 = .ok (.iload 4, 2) := by decide +kernel
theorem dX8_halved_69 : decode cX8_halved 69 = .ok (.if_icmp .gt 79, 3) := by decide +kernel
theorem dX8_halved_72 : decode cX8_halved 72 = .ok (.aload_n 0, 1) := by decide +kernel
theorem dX8_halved_73 : decode cX8_halved 73 = .ok (.getfield 9, 3) := by decide +kernel
theorem dX8_halved_76 : decode cX8_halved 76 = .ok (.iload 8, 2) := by decide +kernel
theorem dX8_halved_78 : decode cX8_halved 78 = .ok (.iaload, 1) := by decide +kernel
theorem dX8_halved_79 : decode cX8_halved 79 = .ok (.aload_n 0, 1) := by decide +kernel
theorem dX8_halved_80 : decode cX8_halved 80 = .ok (.getfield 9, 3) := by decide +kernel
theorem dX8_halved_83 : decode cX8_halved 83 = .ok (.iload 4, 2) := by decide +kernel
theorem dX8_halved_85 : decode cX8_halved 85 = .ok (.iload 8, 2) := by decide +kernel
theorem dX8_halved_87 : decode cX8_halved 87 = .ok (.isub, 1) := by decide +kernel
theorem dX8_halved_88 : decode cX8_halved 88 = .ok (.iaload, 1) := by decide +kernel
theorem dX8_halved_89 : decode cX8_halved 89 = .ok (.if_icmp .lt 11, 3) := by decide +kernel
theorem dX8_halved_92 : decode cX8_halved 92 = .ok (.iload 4, 2) := by decide +kernel
theorem dX8_halved_94 : decode cX8_halved 94 = .ok (.iload 8, 2) := by decide +kernel
theorem dX8_halved_96 : decode cX8_halved 96 = .ok (.isub, 1) := by decide +kernel
theorem dX8_halved_97 : decode cX8_halved 97 = .ok (.goto 5, 3) := by decide +kernel
theorem dX8_halved_100 : decode cX8_halved 100 = .ok (.iload 8, 2) := by decide +kernel
theorem dX8_halved_102 : decode cX8_halved 102 = .ok (.istore 9, 2) := by decide +kernel
theorem dX8_halved_104 : decode cX8_halved 104 = .ok (.iconst 0, 1) := by decide +kernel
theorem dX8_halved_105 : decode cX8_halved 105 = .ok (.iload 9, 2) := by decide +kernel
theorem dX8_halved_107 : decode cX8_halved 107 = .ok (.iload 5, 2) := by decide +kernel
theorem dX8_halved_109 : decode cX8_halved 109 = .ok (.isub, 1) := by decide +kernel
theorem dX8_halved_110 : decode cX8_halved 110 = .ok (.invokestatic 86, 3) := by decide +kernel
theorem dX8_halved_113 : decode cX8_halved 113 = .ok (.iload 7, 2) := by decide +kernel
theorem dX8_halved_115 : decode cX8_halved 115 = .ok (.if_icmp .le 27, 3) := by decide +kernel
theorem dX8_halved_118 : decode cX8_halved 118 = .ok (.aload_n 0, 1) := by decide +kernel
theorem dX8_halved_119 : decode cX8_halved 119 = .ok (.iload_n 1, 1) := by decide +kernel
theorem dX8_halved_120 : decode cX8_halved 120 = .ok (.iload 9, 2) := by decide +kernel
theorem dX8_halved_122 : decode cX8_halved 122 = .ok (.invokevirtual 80, 3) := by decide +kernel
theorem dX8_halved_125 : decode cX8_halved 125 = .ok (.istore 10, 2) := by decide +kernel
theorem dX8_halved_127 : decode cX8_halved 127 = .ok (.iload 10, 2) := by decide +kernel
theorem dX8_halved_129 : decode cX8_halved 129 = .ok (.iload 7, 2) := by decide +kernel
theorem dX8_halved_131 : decode cX8_halved 131 = .ok (.if_icmp .le 11, 3) := by decide +kernel
theorem dX8_halved_134 : decode cX8_halved 134 = .ok (.iload 10, 2) := by decide +kernel
theorem dX8_halved_136 : decode cX8_halved 136 = .ok (.istore 7, 2) := by decide +kernel
theorem dX8_halved_138 : decode cX8_halved 138 = .ok (.iload 8, 2) := by decide +kernel
theorem dX8_halved_140 : decode cX8_halved 140 = .ok (.istore 6, 2) := by decide +kernel
theorem dX8_halved_142 : decode cX8_halved 142 = .ok (.iinc 8 1, 3) := by decide +kernel
theorem dX8_halved_145 : decode cX8_halved 145 = .ok (.goto (-80), 3) := by decide +kernel
theorem dX8_halved_148 : decode cX8_halved 148 = .ok (.iload_n 3, 1) := by decide +kernel
theorem dX8_halved_149 : decode cX8_halved 149 = .ok (.lookupswitch 33 #[(0, 27), (1, 30)], 27) := by decide +kernel
theorem dX8_halved_176 : decode cX8_halved 176 = .ok (.iload 6, 2) := by decide +kernel
theorem dX8_halved_178 : decode cX8_halved 178 = .ok (.ireturn, 1) := by decide +kernel
theorem dX8_halved_179 : decode cX8_halved 179 = .ok (.iload 7, 2) := by decide +kernel
theorem dX8_halved_181 : decode cX8_halved 181 = .ok (.ireturn, 1) := by decide +kernel
theorem dX8_halved_182 : decode cX8_halved 182 = .ok (.aload_n 0, 1) := by decide +kernel
theorem dX8_halved_183 : decode cX8_halved 183 = .ok (.getfield 9, 3) := by decide +kernel
theorem dX8_halved_186 : decode cX8_halved 186 = .ok (.iload 6, 2) := by decide +kernel
theorem dX8_halved_188 : decode cX8_halved 188 = .ok (.iaload, 1) := by decide +kernel
theorem dX8_halved_189 : decode cX8_halved 189 = .ok (.aload_n 0, 1) := by decide +kernel
theorem dX8_halved_190 : decode cX8_halved 190 = .ok (.getfield 9, 3) := by decide +kernel
theorem dX8_halved_193 : decode cX8_halved 193 = .ok (.iload 4, 2) := by decide +kernel
theorem dX8_halved_195 : decode cX8_halved 195 = .ok (.iload 6, 2) := by decide +kernel
theorem dX8_halved_197 : decode cX8_halved 197 = .ok (.isub, 1) := by decide +kernel
theorem dX8_halved_198 : decode cX8_halved 198 = .ok (.iaload, 1) := by decide +kernel
theorem dX8_halved_199 : decode cX8_halved 199 = .ok (.invokestatic 86, 3) := by decide +kernel
theorem dX8_halved_202 : decode cX8_halved 202 = .ok (.ireturn, 1) := by decide +kernel
theorem dX8_gotFromGlass_0 : decode cX8_gotFromGlass 0 = .ok (.aload_n 0, 1) := by decide +kernel
theorem dX8_gotFromGlass_1 : decode cX8_gotFromGlass 1 = .ok (.getfield 21, 3) := by decide +kernel
theorem dX8_gotFromGlass_4 : decode cX8_gotFromGlass 4 = .ok (.iload_n 1, 1) := by decide +kernel
theorem dX8_gotFromGlass_5 : decode cX8_gotFromGlass 5 = .ok (.iconst 2, 1) := by decide +kernel
theorem dX8_gotFromGlass_6 : decode cX8_gotFromGlass 6 = .ok (.invokevirtual 83, 3) := by decide +kernel
theorem dX8_gotFromGlass_9 : decode cX8_gotFromGlass 9 = .ok (.istore_n 3, 1) := by decide +kernel
theorem dX8_gotFromGlass_10 : decode cX8_gotFromGlass 10 = .ok (.aload_n 0, 1) := by decide +kernel
theorem dX8_gotFromGlass_11 : decode cX8_gotFromGlass 11 = .ok (.getfield 34, 3) := by decide +kernel
theorem dX8_gotFromGlass_14 : decode cX8_gotFromGlass 14 = .ok (.aload_n 0, 1) := by decide +kernel
theorem dX8_gotFromGlass_15 : decode cX8_gotFromGlass 15 = .ok (.getfield 25, 3) := by decide +kernel
theorem dX8_gotFromGlass_18 : decode cX8_gotFromGlass 18 = .ok (.invokevirtual 40, 3) := by decide +kernel
theorem dX8_gotFromGlass_21 : decode cX8_gotFromGlass 21 = .ok (.aload_n 0, 1) := by decide +kernel
theorem dX8_gotFromGlass_22 : decode cX8_gotFromGlass 22 = .ok (.getfield 34, 3) := by decide +kernel
theorem dX8_gotFromGlass_25 : decode cX8_gotFromGlass 25 = .ok (.iload_n 2, 1) := by decide +kernel
theorem dX8_gotFromGlass_26 : decode cX8_gotFromGlass 26 = .ok (.putfield 58, 3) := by decide +kernel
theorem dX8_gotFromGlass_29 : decode cX8_gotFromGlass 29 = .ok (.aload_n 0, 1) := by decide +kernel
theorem dX8_gotFromGlass_30 : decode cX8_gotFromGlass 30 = .ok (.getfield 34, 3) := by decide +kernel
theorem dX8_gotFromGlass_33 : decode cX8_gotFromGlass 33 = .ok (.iconst 0, 1) := by decide +kernel
theorem dX8_gotFromGlass_34 : decode cX8_gotFromGlass 34 = .ok (.putfield 54, 3) := by decide +kernel
theorem dX8_gotFromGlass_37 : decode cX8_gotFromGlass 37 = .ok (.iconst 0, 1) := by decide +kernel
theorem dX8_gotFromGlass_38 : decode cX8_gotFromGlass 38 = .ok (.istore 4, 2) := by decide +kernel
theorem dX8_gotFromGlass_40 : decode cX8_gotFromGlass 40 = .ok (.iload 4, 2) := by decide +kernel
theorem dX8_gotFromGlass_42 : decode cX8_gotFromGlass 42 = .ok (.bipush 60, 2) := by decide +kernel
theorem dX8_gotFromGlass_44 : decode cX8_gotFromGlass 44 = .ok (.if_icmp .ge 34, 3) := by decide +kernel
theorem dX8_gotFromGlass_47 : decode cX8_gotFromGlass 47 = .ok (.aload_n 0, 1) := by decide +kernel
theorem dX8_gotFromGlass_48 : decode cX8_gotFromGlass 48 = .ok (.getfield 34, 3) := by decide +kernel
theorem dX8_gotFromGlass_51 : decode cX8_gotFromGlass 51 = .ok (.getfield 58, 3) := by decide +kernel
theorem dX8_gotFromGlass_54 : decode cX8_gotFromGlass 54 = .ok (.iload_n 3, 1) := by decide +kernel
theorem dX8_gotFromGlass_55 : decode cX8_gotFromGlass 55 = .ok (.if_icmp .le 23, 3) := by decide +kernel
theorem dX8_gotFromGlass_58 : decode cX8_gotFromGlass 58 = .ok (.aload_n 0, 1) := by decide +kernel
theorem dX8_gotFromGlass_59 : decode cX8_gotFromGlass 59 = .ok (.getfield 34, 3) := by decide +kernel
theorem dX8_gotFromGlass_62 : decode cX8_gotFromGlass 62 = .ok (.iconst 1, 1) := by decide +kernel
theorem dX8_gotFromGlass_63 : decode cX8_gotFromGlass 63 = .ok (.iload_n 1, 1) := by decide +kernel
theorem dX8_gotFromGlass_64 : decode cX8_gotFromGlass 64 = .ok (.ishl, 1) := by decide +kernel
theorem dX8_gotFromGlass_65 : decode cX8_gotFromGlass 65 = .ok (.iconst 1, 1) := by decide +kernel
theorem dX8_gotFromGlass_66 : decode cX8_gotFromGlass 66 = .ok (.iload_n 1, 1) := by decide +kernel
theorem dX8_gotFromGlass_67 : decode cX8_gotFromGlass 67 = .ok (.ishl, 1) := by decide +kernel
theorem dX8_gotFromGlass_68 : decode cX8_gotFromGlass 68 = .ok (.iconst 0, 1) := by decide +kernel
theorem dX8_gotFromGlass_69 : decode cX8_gotFromGlass 69 = .ok (.invokevirtual 44, 3) := by decide +kernel
theorem dX8_gotFromGlass_72 : decode cX8_gotFromGlass 72 = .ok (.iinc 4 1, 3) := by decide +kernel
theorem dX8_gotFromGlass_75 : decode cX8_gotFromGlass 75 = .ok (.goto (-35), 3) := by decide +kernel
theorem dX8_gotFromGlass_78 : decode cX8_gotFromGlass 78 = .ok (.aload_n 0, 1) := by decide +kernel
theorem dX8_gotFromGlass_79 : decode cX8_gotFromGlass 79 = .ok (.getfield 34, 3) := by decide +kernel
theorem dX8_gotFromGlass_82 : decode cX8_gotFromGlass 82 = .ok (.getfield 68, 3) := by decide +kernel
theorem dX8_gotFromGlass_85 : decode cX8_gotFromGlass 85 = .ok (.iload_n 1, 1) := by decide +kernel
theorem dX8_gotFromGlass_86 : decode cX8_gotFromGlass 86 = .ok (.iaload, 1) := by decide +kernel
theorem dX8_gotFromGlass_87 : decode cX8_gotFromGlass 87 = .ok (.ireturn, 1) := by decide +kernel
theorem dX8_bestNumber_0 : decode cX8_bestNumber 0 = .ok (.aload_n 0, 1) := by decide +kernel
theorem dX8_bestNumber_1 : decode cX8_bestNumber 1 = .ok (.getfield 21, 3) := by decide +kernel
theorem dX8_bestNumber_4 : decode cX8_bestNumber 4 = .ok (.iload_n 1, 1) := by decide +kernel
theorem dX8_bestNumber_5 : decode cX8_bestNumber 5 = .ok (.iload_n 2, 1) := by decide +kernel
theorem dX8_bestNumber_6 : decode cX8_bestNumber 6 = .ok (.invokevirtual 89, 3) := by decide +kernel
theorem dX8_bestNumber_9 : decode cX8_bestNumber 9 = .ok (.istore 6, 2) := by decide +kernel
theorem dX8_bestNumber_11 : decode cX8_bestNumber 11 = .ok (.aload_n 0, 1) := by decide +kernel
theorem dX8_bestNumber_12 : decode cX8_bestNumber 12 = .ok (.iconst (-1), 1) := by decide +kernel
theorem dX8_bestNumber_13 : decode cX8_bestNumber 13 = .ok (.putfield 92, 3) := by decide +kernel
theorem dX8_bestNumber_16 : decode cX8_bestNumber 16 = .ok (.iload 6, 2) := by decide +kernel
theorem dX8_bestNumber_18 : decode cX8_bestNumber 18 = .ok (.ifCond .ge 5, 3) := by decide +kernel
theorem dX8_bestNumber_21 : decode cX8_bestNumber 21 = .ok (.iconst 0, 1) := by decide +kernel
theorem dX8_bestNumber_22 : decode cX8_bestNumber 22 = .ok (.ireturn, 1) := by decide +kernel
theorem dX8_bestNumber_23 : decode cX8_bestNumber 23 = .ok (.aload_n 0, 1) := by decide +kernel
theorem dX8_bestNumber_24 : decode cX8_bestNumber 24 = .ok (.getfield 21, 3) := by decide +kernel
theorem dX8_bestNumber_27 : decode cX8_bestNumber 27 = .ok (.getfield 95, 3) := by decide +kernel
theorem dX8_bestNumber_30 : decode cX8_bestNumber 30 = .ok (.iload 6, 2) := by decide +kernel
theorem dX8_bestNumber_32 : decode cX8_bestNumber 32 = .ok (.iaload, 1) := by decide +kernel
theorem dX8_bestNumber_33 : decode cX8_bestNumber 33 = .ok (.istore 7, 2) := by decide +kernel
theorem dX8_bestNumber_35 : decode cX8_bestNumber 35 = .ok (.iconst 0, 1) := by decide +kernel
theorem dX8_bestNumber_36 : decode cX8_bestNumber 36 = .ok (.istore 8, 2) := by decide +kernel
theorem dX8_bestNumber_38 : decode cX8_bestNumber 38 = .ok (.iconst 0, 1) := by decide +kernel
theorem dX8_bestNumber_39 : decode cX8_bestNumber 39 = .ok (.istore 9, 2) := by decide +kernel
theorem dX8_bestNumber_41 : decode cX8_bestNumber 41 = .ok (.iload 9, 2) := by decide +kernel
theorem dX8_bestNumber_43 : decode cX8_bestNumber 43 = .ok (.iload_n 3, 1) := by decide +kernel
theorem dX8_bestNumber_44 : decode cX8_bestNumber 44 = .ok (.if_icmp .gt 82, 3) := by decide +kernel
theorem dX8_bestNumber_47 : decode cX8_bestNumber 47 = .ok (.iload_n 2, 1) := by decide +kernel
theorem dX8_bestNumber_48 : decode cX8_bestNumber 48 = .ok (.iconst 2, 1) := by decide +kernel
theorem dX8_bestNumber_49 : decode cX8_bestNumber 49 = .ok (.if_icmp .ne 18, 3) := by decide +kernel
theorem dX8_bestNumber_52 : decode cX8_bestNumber 52 = .ok (.aload_n 0, 1) := by decide +kernel
theorem dX8_bestNumber_53 : decode cX8_bestNumber 53 = .ok (.getfield 92, 3) := by decide +kernel
theorem dX8_bestNumber_56 : decode cX8_bestNumber 56 = .ok (.aload_n 0, 1) := by decide +kernel
theorem dX8_bestNumber_57 : decode cX8_bestNumber 57 = .ok (.iload 9, 2) := by decide +kernel
theorem dX8_bestNumber_59 : decode cX8_bestNumber 59 = .ok (.iload 5, 2) := by decide +kernel
theorem dX8_bestNumber_61 : decode cX8_bestNumber 61 = .ok (.invokevirtual 98, 3) := by decide +kernel
theorem dX8_bestNumber_64 : decode cX8_bestNumber 64 = .ok (.if_icmp .ge 62, 3) := by decide +kernel
theorem dX8_bestNumber_67 : decode cX8_bestNumber 67 = .ok (.aload_n 0, 1) := by decide +kernel
theorem dX8_bestNumber_68 : decode cX8_bestNumber 68 = .ok (.getfield 21, 3) := by decide +kernel
theorem dX8_bestNumber_71 : decode cX8_bestNumber 71 = .ok (.getfield 95, 3) := by decide +kernel
theorem dX8_bestNumber_74 : decode cX8_bestNumber 74 = .ok (.iload 6, 2) := by decide +kernel
theorem dX8_bestNumber_76 : decode cX8_bestNumber 76 = .ok (.iload 9, 2) := by decide +kernel
theorem dX8_bestNumber_78 : decode cX8_bestNumber 78 = .ok (.iastore, 1) := by decide +kernel
theorem dX8_bestNumber_79 : decode cX8_bestNumber 79 = .ok (.aload_n 0, 1) := by decide +kernel
theorem dX8_bestNumber_80 : decode cX8_bestNumber 80 = .ok (.iload 4, 2) := by decide +kernel
theorem dX8_bestNumber_82 : decode cX8_bestNumber 82 = .ok (.invokevirtual 102, 3) := by decide +kernel
theorem dX8_bestNumber_85 : decode cX8_bestNumber 85 = .ok (.iload_n 1, 1) := by decide +kernel
theorem dX8_bestNumber_86 : decode cX8_bestNumber 86 = .ok (.iload 5, 2) := by decide +kernel
theorem dX8_bestNumber_88 : decode cX8_bestNumber 88 = .ok (.ifCond .eq 7, 3) := by decide +kernel
theorem dX8_bestNumber_91 : decode cX8_bestNumber 91 = .ok (.iconst 1, 1) := by decide +kernel
theorem dX8_bestNumber_92 : decode cX8_bestNumber 92 = .ok (.goto 4, 3) := by decide +kernel
theorem dX8_bestNumber_95 : decode cX8_bestNumber 95 = .ok (.iconst 0, 1) := by decide +kernel
theorem dX8_bestNumber_96 : decode cX8_bestNumber 96 = .ok (.invokevirtual 106, 3) := by decide +kernel
theorem dX8_bestNumber_99 : decode cX8_bestNumber 99 = .ok (.istore 10, 2) := by decide +kernel
theorem dX8_bestNumber_101 : decode cX8_bestNumber 101 = .ok (.iload 10, 2) := by decide +kernel
theorem dX8_bestNumber_103 : decode cX8_bestNumber 103 = .ok (.aload_n 0, 1) := by decide +kernel
theorem dX8_bestNumber_104 : decode cX8_bestNumber 104 = .ok (.getfield 92, 3) := by decide +kernel
theorem dX8_bestNumber_107 : decode cX8_bestNumber 107 = .ok (.if_icmp .le 13, 3) := by decide +kernel
theorem dX8_bestNumber_110 : decode cX8_bestNumber 110 = .ok (.aload_n 0, 1) := by decide +kernel
theorem dX8_bestNumber_111 : decode cX8_bestNumber 111 = .ok (.iload 10, 2) := by decide +kernel
theorem dX8_bestNumber_113 : decode cX8_bestNumber 113 = .ok (.putfield 92, 3) := by decide +kernel
theorem dX8_bestNumber_116 : decode cX8_bestNumber 116 = .ok (.iload 9, 2) := by decide +kernel
theorem dX8_bestNumber_118 : decode cX8_bestNumber 118 = .ok (.istore 8, 2) := by decide +kernel
theorem dX8_bestNumber_120 : decode cX8_bestNumber 120 = .ok (.iinc 9 1, 3) := by decide +kernel
theorem dX8_bestNumber_123 : decode cX8_bestNumber 123 = .ok (.goto (-82), 3) := by decide +kernel
theorem dX8_bestNumber_126 : decode cX8_bestNumber 126 = .ok (.aload_n 0, 1) := by decide +kernel
theorem dX8_bestNumber_127 : decode cX8_bestNumber 127 = .ok (.getfield 21, 3) := by decide +kernel
theorem dX8_bestNumber_130 : decode cX8_bestNumber 130 = .ok (.getfield 95, 3) := by decide +kernel
theorem dX8_bestNumber_133 : decode cX8_bestNumber 133 = .ok (.iload 6, 2) := by decide +kernel
theorem dX8_bestNumber_135 : decode cX8_bestNumber 135 = .ok (.iload 7, 2) := by decide +kernel
theorem dX8_bestNumber_137 : decode cX8_bestNumber 137 = .ok (.iastore, 1) := by decide +kernel
theorem dX8_bestNumber_138 : decode cX8_bestNumber 138 = .ok (.iload 8, 2) := by decide +kernel
theorem dX8_bestNumber_140 : decode cX8_bestNumber 140 = .ok (.ireturn, 1) := by decide +kernel
theorem dX8_mostAbove_0 : decode cX8_mostAbove 0 = .ok (.iconst 0, 1) := by decide +kernel
theorem dX8_mostAbove_1 : decode cX8_mostAbove 1 = .ok (.aload_n 0, 1) := by decide +kernel
theorem dX8_mostAbove_2 : decode cX8_mostAbove 2 = .ok (.getfield 25, 3) := by decide +kernel
theorem dX8_mostAbove_5 : decode cX8_mostAbove 5 = .ok (.getfield 58, 3) := by decide +kernel
theorem dX8_mostAbove_8 : decode cX8_mostAbove 8 = .ok (.aload_n 0, 1) := by decide +kernel
theorem dX8_mostAbove_9 : decode cX8_mostAbove 9 = .ok (.getfield 25, 3) := by decide +kernel
theorem dX8_mostAbove_12 : decode cX8_mostAbove 12 = .ok (.getfield 54, 3) := by decide +kernel
theorem dX8_mostAbove_15 : decode cX8_mostAbove 15 = .ok (.iadd, 1) := by decide +kernel
theorem dX8_mostAbove_16 : decode cX8_mostAbove 16 = .ok (.iload_n 1, 1) := by decide +kernel
theorem dX8_mostAbove_17 : decode cX8_mostAbove 17 = .ok (.isub, 1) := by decide +kernel
theorem dX8_mostAbove_18 : decode cX8_mostAbove 18 = .ok (.invokestatic 86, 3) := by decide +kernel
theorem dX8_mostAbove_21 : decode cX8_mostAbove 21 = .ok (.istore_n 3, 1) := by decide +kernel
theorem dX8_mostAbove_22 : decode cX8_mostAbove 22 = .ok (.iload_n 2, 1) := by decide +kernel
theorem dX8_mostAbove_23 : decode cX8_mostAbove 23 = .ok (.ifCond .eq 19, 3) := by decide +kernel
theorem dX8_mostAbove_26 : decode cX8_mostAbove 26 = .ok (.iload_n 3, 1) := by decide +kernel
theorem dX8_mostAbove_27 : decode cX8_mostAbove 27 = .ok (.iconst 1, 1) := by decide +kernel
theorem dX8_mostAbove_28 : decode cX8_mostAbove 28 = .ok (.aload_n 0, 1) := by decide +kernel
theorem dX8_mostAbove_29 : decode cX8_mostAbove 29 = .ok (.getfield 21, 3) := by decide +kernel
theorem dX8_mostAbove_32 : decode cX8_mostAbove 32 = .ok (.bipush 10, 2) := by decide +kernel
theorem dX8_mostAbove_34 : decode cX8_mostAbove 34 = .ok (.invokevirtual 109, 3) := by decide +kernel
theorem dX8_mostAbove_37 : decode cX8_mostAbove 37 = .ok (.iadd, 1) := by decide +kernel
theorem dX8_mostAbove_38 : decode cX8_mostAbove 38 = .ok (.imul, 1) := by decide +kernel
theorem dX8_mostAbove_39 : decode cX8_mostAbove 39 = .ok (.goto 4, 3) := by decide +kernel
theorem dX8_mostAbove_42 : decode cX8_mostAbove 42 = .ok (.iload_n 3, 1) := by decide +kernel
theorem dX8_mostAbove_43 : decode cX8_mostAbove 43 = .ok (.ireturn, 1) := by decide +kernel
theorem dX8_together_0 : decode cX8_together 0 = .ok (.aload_n 0, 1) := by decide +kernel
theorem dX8_together_1 : decode cX8_together 1 = .ok (.getfield 21, 3) := by decide +kernel
theorem dX8_together_4 : decode cX8_together 4 = .ok (.iconst 0, 1) := by decide +kernel
theorem dX8_together_5 : decode cX8_together 5 = .ok (.iconst 0, 1) := by decide +kernel
theorem dX8_together_6 : decode cX8_together 6 = .ok (.invokevirtual 83, 3) := by decide +kernel
theorem dX8_together_9 : decode cX8_together 9 = .ok (.istore_n 2, 1) := by decide +kernel
theorem dX8_together_10 : decode cX8_together 10 = .ok (.aload_n 0, 1) := by decide +kernel
theorem dX8_together_11 : decode cX8_together 11 = .ok (.getfield 21, 3) := by decide +kernel
theorem dX8_together_14 : decode cX8_together 14 = .ok (.iconst 1, 1) := by decide +kernel
theorem dX8_together_15 : decode cX8_together 15 = .ok (.iconst 0, 1) := by decide +kernel
theorem dX8_together_16 : decode cX8_together 16 = .ok (.invokevirtual 83, 3) := by decide +kernel
theorem dX8_together_19 : decode cX8_together 19 = .ok (.istore_n 3, 1) := by decide +kernel
theorem dX8_together_20 : decode cX8_together 20 = .ok (.iconst 0, 1) := by decide +kernel
theorem dX8_together_21 : decode cX8_together 21 = .ok (.istore 4, 2) := by decide +kernel
theorem dX8_together_23 : decode cX8_together 23 = .ok (.iconst (-1), 1) := by decide +kernel
theorem dX8_together_24 : decode cX8_together 24 = .ok (.istore 5, 2) := by decide +kernel
theorem dX8_together_26 : decode cX8_together 26 = .ok (.iconst 0, 1) := by decide +kernel
theorem dX8_together_27 : decode cX8_together 27 = .ok (.istore 6, 2) := by decide +kernel
theorem dX8_together_29 : decode cX8_together 29 = .ok (.iload 6, 2) := by decide +kernel
theorem dX8_together_31 : decode cX8_together 31 = .ok (.iload_n 2, 1) := by decide +kernel
theorem dX8_together_32 : decode cX8_together 32 = .ok (.if_icmp .gt 77, 3) := by decide +kernel
theorem dX8_together_35 : decode cX8_together 35 = .ok (.iconst 0, 1) := by decide +kernel
theorem dX8_together_36 : decode cX8_together 36 = .ok (.istore 7, 2) := by decide +kernel
theorem dX8_together_38 : decode cX8_together 38 = .ok (.iload 7, 2) := by decide +kernel
theorem dX8_together_40 : decode cX8_together 40 = .ok (.iload_n 3, 1) := by decide +kernel
theorem dX8_together_41 : decode cX8_together 41 = .ok (.if_icmp .gt 62, 3) := by decide +kernel
theorem dX8_together_44 : decode cX8_together 44 = .ok (.aload_n 0, 1) := by decide +kernel
theorem dX8_together_45 : decode cX8_together 45 = .ok (.iload 6, 2) := by decide +kernel
theorem dX8_together_47 : decode cX8_together 47 = .ok (.iload 7, 2) := by decide +kernel
theorem dX8_together_49 : decode cX8_together 49 = .ok (.invokevirtual 113, 3) := by decide +kernel
theorem dX8_together_52 : decode cX8_together 52 = .ok (.aload_n 0, 1) := by decide +kernel
theorem dX8_together_53 : decode cX8_together 53 = .ok (.iload_n 1, 1) := by decide +kernel
theorem dX8_together_54 : decode cX8_together 54 = .ok (.invokevirtual 102, 3) := by decide +kernel
theorem dX8_together_57 : decode cX8_together 57 = .ok (.astore 8, 2) := by decide +kernel
theorem dX8_together_59 : decode cX8_together 59 = .ok (.aload 8, 2) := by decide +kernel
theorem dX8_together_61 : decode cX8_together 61 = .ok (.getfield 117, 3) := by decide +kernel
theorem dX8_together_64 : decode cX8_together 64 = .ok (.iconst 0, 1) := by decide +kernel
theorem dX8_together_65 : decode cX8_together 65 = .ok (.iaload, 1) := by decide +kernel
theorem dX8_together_66 : decode cX8_together 66 = .ok (.aload 8, 2) := by decide +kernel
theorem dX8_together_68 : decode cX8_together 68 = .ok (.getfield 117, 3) := by decide +kernel
theorem dX8_together_71 : decode cX8_together 71 = .ok (.iconst 1, 1) := by decide +kernel
theorem dX8_together_72 : decode cX8_together 72 = .ok (.iaload, 1) := by decide +kernel
theorem dX8_together_73 : decode cX8_together 73 = .ok (.iadd, 1) := by decide +kernel
theorem dX8_together_74 : decode cX8_together 74 = .ok (.istore 9, 2) := by decide +kernel
theorem dX8_together_76 : decode cX8_together 76 = .ok (.iload 9, 2) := by decide +kernel
theorem dX8_together_78 : decode cX8_together 78 = .ok (.iload 5, 2) := by decide +kernel
theorem dX8_together_80 : decode cX8_together 80 = .ok (.if_icmp .le 17, 3) := by decide +kernel
theorem dX8_together_83 : decode cX8_together 83 = .ok (.iload 9, 2) := by decide +kernel
theorem dX8_together_85 : decode cX8_together 85 = .ok (.istore 5, 2) := by decide +kernel
theorem dX8_together_87 : decode cX8_together 87 = .ok (.bipush 100, 2) := by decide +kernel
theorem dX8_together_89 : decode cX8_together 89 = .ok (.iload 6, 2) := by decide +kernel
theorem dX8_together_91 : decode cX8_together 91 = .ok (.imul, 1) := by decide +kernel
theorem dX8_together_92 : decode cX8_together 92 = .ok (.iload 7, 2) := by decide +kernel
theorem dX8_together_94 : decode cX8_together 94 = .ok (.iadd, 1) := by decide +kernel
theorem dX8_together_95 : decode cX8_together 95 = .ok (.istore 4, 2) := by decide +kernel
theorem dX8_together_97 : decode cX8_together 97 = .ok (.iinc 7 1, 3) := by decide +kernel
theorem dX8_together_100 : decode cX8_together 100 = .ok (.goto (-62), 3) := by decide +kernel
theorem dX8_together_103 : decode cX8_together 103 = .ok (.iinc 6 1, 3) := by decide +kernel
theorem dX8_together_106 : decode cX8_together 106 = .ok (.goto (-77), 3) := by decide +kernel
theorem dX8_together_109 : decode cX8_together 109 = .ok (.aload_n 0, 1) := by decide +kernel
theorem dX8_together_110 : decode cX8_together 110 = .ok (.iload_n 2, 1) := by decide +kernel
theorem dX8_together_111 : decode cX8_together 111 = .ok (.iload_n 3, 1) := by decide +kernel
theorem dX8_together_112 : decode cX8_together 112 = .ok (.invokevirtual 113, 3) := by decide +kernel
theorem dX8_together_115 : decode cX8_together 115 = .ok (.iload 4, 2) := by decide +kernel
theorem dX8_together_117 : decode cX8_together 117 = .ok (.ireturn, 1) := by decide +kernel
theorem dX8_selfish_0 : decode cX8_selfish 0 = .ok (.bipush 20, 2) := by decide +kernel
theorem dX8_selfish_2 : decode cX8_selfish 2 = .ok (.aload_n 0, 1) := by decide +kernel
theorem dX8_selfish_3 : decode cX8_selfish 3 = .ok (.getfield 21, 3) := by decide +kernel
theorem dX8_selfish_6 : decode cX8_selfish 6 = .ok (.iconst 0, 1) := by decide +kernel
theorem dX8_selfish_7 : decode cX8_selfish 7 = .ok (.iconst 0, 1) := by decide +kernel
theorem dX8_selfish_8 : decode cX8_selfish 8 = .ok (.invokevirtual 83, 3) := by decide +kernel
theorem dX8_selfish_11 : decode cX8_selfish 11 = .ok (.invokestatic 75, 3) := by decide +kernel
theorem dX8_selfish_14 : decode cX8_selfish 14 = .ok (.istore_n 2, 1) := by decide +kernel
theorem dX8_selfish_15 : decode cX8_selfish 15 = .ok (.bipush 20, 2) := by decide +kernel
theorem dX8_selfish_17 : decode cX8_selfish 17 = .ok (.aload_n 0, 1) := by decide +kernel
theorem dX8_selfish_18 : decode cX8_selfish 18 = .ok (.getfield 21, 3) := by decide +kernel
theorem dX8_selfish_21 : decode cX8_selfish 21 = .ok (.iconst 1, 1) := by decide +kernel
theorem dX8_selfish_22 : decode cX8_selfish 22 = .ok (.iconst 0, 1) := by decide +kernel
theorem dX8_selfish_23 : decode cX8_selfish 23 = .ok (.invokevirtual 83, 3) := by decide +kernel
theorem dX8_selfish_26 : decode cX8_selfish 26 = .ok (.invokestatic 75, 3) := by decide +kernel
theorem dX8_selfish_29 : decode cX8_selfish 29 = .ok (.istore_n 3, 1) := by decide +kernel
theorem dX8_selfish_30 : decode cX8_selfish 30 = .ok (.iconst 0, 1) := by decide +kernel
theorem dX8_selfish_31 : decode cX8_selfish 31 = .ok (.istore 4, 2) := by decide +kernel
theorem dX8_selfish_33 : decode cX8_selfish 33 = .ok (.iload 4, 2) := by decide +kernel
theorem dX8_selfish_35 : decode cX8_selfish 35 = .ok (.iload_n 2, 1) := by decide +kernel
theorem dX8_selfish_36 : decode cX8_selfish 36 = .ok (.if_icmp .gt 79, 3) := by decide +kernel
theorem dX8_selfish_39 : decode cX8_selfish 39 = .ok (.iconst 0, 1) := by decide +kernel
theorem dX8_selfish_40 : decode cX8_selfish 40 = .ok (.istore 5, 2) := by decide +kernel
theorem dX8_selfish_42 : decode cX8_selfish 42 = .ok (.iload 5, 2) := by decide +kernel
theorem dX8_selfish_44 : decode cX8_selfish 44 = .ok (.iload_n 3, 1) := by decide +kernel
theorem dX8_selfish_45 : decode cX8_selfish 45 = .ok (.if_icmp .gt 64, 3) := by decide +kernel
theorem dX8_selfish_48 : decode cX8_selfish 48 = .ok (.aload_n 0, 1) := by decide +kernel
theorem dX8_selfish_49 : decode cX8_selfish 49 = .ok (.iload 4, 2) := by decide +kernel
theorem dX8_selfish_51 : decode cX8_selfish 51 = .ok (.iload 5, 2) := by decide +kernel
theorem dX8_selfish_53 : decode cX8_selfish 53 = .ok (.invokevirtual 113, 3) := by decide +kernel
theorem dX8_selfish_56 : decode cX8_selfish 56 = .ok (.aload_n 0, 1) := by decide +kernel
theorem dX8_selfish_57 : decode cX8_selfish 57 = .ok (.iload_n 1, 1) := by decide +kernel
theorem dX8_selfish_58 : decode cX8_selfish 58 = .ok (.invokevirtual 102, 3) := by decide +kernel
theorem dX8_selfish_61 : decode cX8_selfish 61 = .ok (.astore 6, 2) := by decide +kernel
theorem dX8_selfish_63 : decode cX8_selfish 63 = .ok (.aload_n 0, 1) := by decide +kernel
theorem dX8_selfish_64 : decode cX8_selfish 64 = .ok (.getfield 15, 3) := by decide +kernel
theorem dX8_selfish_67 : decode cX8_selfish 67 = .ok (.iload 4, 2) := by decide +kernel
theorem dX8_selfish_69 : decode cX8_selfish 69 = .ok (.bipush 21, 2) := by decide +kernel
theorem dX8_selfish_71 : decode cX8_selfish 71 = .ok (.imul, 1) := by decide +kernel
theorem dX8_selfish_72 : decode cX8_selfish 72 = .ok (.iload 5, 2) := by decide +kernel
theorem dX8_selfish_74 : decode cX8_selfish 74 = .ok (.iadd, 1) := by decide +kernel
theorem dX8_selfish_75 : decode cX8_selfish 75 = .ok (.aload 6, 2) := by decide +kernel
theorem dX8_selfish_77 : decode cX8_selfish 77 = .ok (.getfield 68, 3) := by decide +kernel
theorem dX8_selfish_80 : decode cX8_selfish 80 = .ok (.iconst 0, 1) := by decide +kernel
theorem dX8_selfish_81 : decode cX8_selfish 81 = .ok (.iaload, 1) := by decide +kernel
theorem dX8_selfish_82 : decode cX8_selfish 82 = .ok (.iastore, 1) := by decide +kernel
theorem dX8_selfish_83 : decode cX8_selfish 83 = .ok (.aload_n 0, 1) := by decide +kernel
theorem dX8_selfish_84 : decode cX8_selfish 84 = .ok (.getfield 18, 3) := by decide +kernel
theorem dX8_selfish_87 : decode cX8_selfish 87 = .ok (.iload 4, 2) := by decide +kernel
theorem dX8_selfish_89 : decode cX8_selfish 89 = .ok (.bipush 21, 2) := by decide +kernel
theorem dX8_selfish_91 : decode cX8_selfish 91 = .ok (.imul, 1) := by decide +kernel
theorem dX8_selfish_92 : decode cX8_selfish 92 = .ok (.iload 5, 2) := by decide +kernel
theorem dX8_selfish_94 : decode cX8_selfish 94 = .ok (.iadd, 1) := by decide +kernel
theorem dX8_selfish_95 : decode cX8_selfish 95 = .ok (.aload 6, 2) := by decide +kernel
theorem dX8_selfish_97 : decode cX8_selfish 97 = .ok (.getfield 68, 3) := by decide +kernel
theorem dX8_selfish_100 : decode cX8_selfish 100 = .ok (.iconst 1, 1) := by decide +kernel
theorem dX8_selfish_101 : decode cX8_selfish 101 = .ok (.iaload, 1) := by decide +kernel
theorem dX8_selfish_102 : decode cX8_selfish 102 = .ok (.iastore, 1) := by decide +kernel
theorem dX8_selfish_103 : decode cX8_selfish 103 = .ok (.iinc 5 1, 3) := by decide +kernel
theorem dX8_selfish_106 : decode cX8_selfish 106 = .ok (.goto (-64), 3) := by decide +kernel
theorem dX8_selfish_109 : decode cX8_selfish 109 = .ok (.iinc 4 1, 3) := by decide +kernel
theorem dX8_selfish_112 : decode cX8_selfish 112 = .ok (.goto (-79), 3) := by decide +kernel
theorem dX8_selfish_115 : decode cX8_selfish 115 = .ok (.aload_n 0, 1) := by decide +kernel
theorem dX8_selfish_116 : decode cX8_selfish 116 = .ok (.iload_n 2, 1) := by decide +kernel
theorem dX8_selfish_117 : decode cX8_selfish 117 = .ok (.iload_n 3, 1) := by decide +kernel
theorem dX8_selfish_118 : decode cX8_selfish 118 = .ok (.invokevirtual 113, 3) := by decide +kernel
theorem dX8_selfish_121 : decode cX8_selfish 121 = .ok (.iconst 0, 1) := by decide +kernel
theorem dX8_selfish_122 : decode cX8_selfish 122 = .ok (.istore 4, 2) := by decide +kernel
theorem dX8_selfish_124 : decode cX8_selfish 124 = .ok (.iload 4, 2) := by decide +kernel
theorem dX8_selfish_126 : decode cX8_selfish 126 = .ok (.iload_n 2, 1) := by decide +kernel
theorem dX8_selfish_127 : decode cX8_selfish 127 = .ok (.if_icmp .gt 46, 3) := by decide +kernel
theorem dX8_selfish_130 : decode cX8_selfish 130 = .ok (.iconst 0, 1) := by decide +kernel
theorem dX8_selfish_131 : decode cX8_selfish 131 = .ok (.istore 5, 2) := by decide +kernel
theorem dX8_selfish_133 : decode cX8_selfish 133 = .ok (.iload 5, 2) := by decide +kernel
theorem dX8_selfish_135 : decode cX8_selfish 135 = .ok (.iload_n 3, 1) := by decide +kernel
theorem dX8_selfish_136 : decode cX8_selfish 136 = .ok (.if_icmp .gt 31, 3) := by decide +kernel
theorem dX8_selfish_139 : decode cX8_selfish 139 = .ok (.aload_n 0, 1) := by decide +kernel
theorem dX8_selfish_140 : decode cX8_selfish 140 = .ok (.iload 4, 2) := by decide +kernel
theorem dX8_selfish_142 : decode cX8_selfish 142 = .ok (.iload 5, 2) := by decide +kernel
theorem dX8_selfish_144 : decode cX8_selfish 144 = .ok (.iload_n 2, 1) := by decide +kernel
theorem dX8_selfish_145 : decode cX8_selfish 145 = .ok (.iload_n 3, 1) := by decide +kernel
theorem dX8_selfish_146 : decode cX8_selfish 146 = .ok (.invokevirtual 120, 3) := by decide +kernel
theorem dX8_selfish_149 : decode cX8_selfish 149 = .ok (.ifCond .eq 12, 3) := by decide +kernel
theorem dX8_selfish_152 : decode cX8_selfish 152 = .ok (.bipush 100, 2) := by decide +kernel
theorem dX8_selfish_154 : decode cX8_selfish 154 = .ok (.iload 4, 2) := by decide +kernel
theorem dX8_selfish_156 : decode cX8_selfish 156 = .ok (.imul, 1) := by decide +kernel
theorem dX8_selfish_157 : decode cX8_selfish 157 = .ok (.iload 5, 2) := by decide +kernel
theorem dX8_selfish_159 : decode cX8_selfish 159 = .ok (.iadd, 1) := by decide +kernel
theorem dX8_selfish_160 : decode cX8_selfish 160 = .ok (.ireturn, 1) := by decide +kernel
theorem dX8_selfish_161 : decode cX8_selfish 161 = .ok (.iinc 5 1, 3) := by decide +kernel
theorem dX8_selfish_164 : decode cX8_selfish 164 = .ok (.goto (-31), 3) := by decide +kernel
theorem dX8_selfish_167 : decode cX8_selfish 167 = .ok (.iinc 4 1, 3) := by decide +kernel
theorem dX8_selfish_170 : decode cX8_selfish 170 = .ok (.goto (-46), 3) := by decide +kernel
theorem dX8_selfish_173 : decode cX8_selfish 173 = .ok (.bipush (-2), 2) := by decide +kernel
theorem dX8_selfish_175 : decode cX8_selfish 175 = .ok (.ireturn, 1) := by decide +kernel
theorem dX8_setStrengths_0 : decode cX8_setStrengths 0 = .ok (.aload_n 0, 1) := by decide +kernel
theorem dX8_setStrengths_1 : decode cX8_setStrengths 1 = .ok (.getfield 21, 3) := by decide +kernel
theorem dX8_setStrengths_4 : decode cX8_setStrengths 4 = .ok (.getfield 95, 3) := by decide +kernel
theorem dX8_setStrengths_7 : decode cX8_setStrengths 7 = .ok (.iconst 0, 1) := by decide +kernel
theorem dX8_setStrengths_8 : decode cX8_setStrengths 8 = .ok (.iload_n 1, 1) := by decide +kernel
theorem dX8_setStrengths_9 : decode cX8_setStrengths 9 = .ok (.iastore, 1) := by decide +kernel
theorem dX8_setStrengths_10 : decode cX8_setStrengths 10 = .ok (.aload_n 0, 1) := by decide +kernel
theorem dX8_setStrengths_11 : decode cX8_setStrengths 11 = .ok (.getfield 21, 3) := by decide +kernel
theorem dX8_setStrengths_14 : decode cX8_setStrengths 14 = .ok (.getfield 95, 3) := by decide +kernel
theorem dX8_setStrengths_17 : decode cX8_setStrengths 17 = .ok (.bipush 8, 2) := by decide +kernel
theorem dX8_setStrengths_19 : decode cX8_setStrengths 19 = .ok (.iload_n 2, 1) := by decide +kernel
theorem dX8_setStrengths_20 : decode cX8_setStrengths 20 = .ok (.iastore, 1) := by decide +kernel
theorem dX8_setStrengths_21 : decode cX8_setStrengths 21 = .ok (.return_, 1) := by decide +kernel
theorem dX8_isContent_0 : decode cX8_isContent 0 = .ok (.iconst 0, 1) := by decide +kernel
theorem dX8_isContent_1 : decode cX8_isContent 1 = .ok (.istore 5, 2) := by decide +kernel
theorem dX8_isContent_3 : decode cX8_isContent 3 = .ok (.iload 5, 2) := by decide +kernel
theorem dX8_isContent_5 : decode cX8_isContent 5 = .ok (.iload_n 3, 1) := by decide +kernel
theorem dX8_isContent_6 : decode cX8_isContent 6 = .ok (.if_icmp .gt 37, 3) := by decide +kernel
theorem dX8_isContent_9 : decode cX8_isContent 9 = .ok (.aload_n 0, 1) := by decide +kernel
theorem dX8_isContent_10 : decode cX8_isContent 10 = .ok (.getfield 15, 3) := by decide +kernel
theorem dX8_isContent_13 : decode cX8_isContent 13 = .ok (.iload 5, 2) := by decide +kernel
theorem dX8_isContent_15 : decode cX8_isContent 15 = .ok (.bipush 21, 2) := by decide +kernel
theorem dX8_isContent_17 : decode cX8_isContent 17 = .ok (.imul, 1) := by decide +kernel
theorem dX8_isContent_18 : decode cX8_isContent 18 = .ok (.iload_n 2, 1) := by decide +kernel
theorem dX8_isContent_19 : decode cX8_isContent 19 = .ok (.iadd, 1) := by decide +kernel
theorem dX8_isContent_20 : decode cX8_isContent 20 = .ok (.iaload, 1) := by decide +kernel
theorem dX8_isContent_21 : decode cX8_isContent 21 = .ok (.aload_n 0, 1) := by decide +kernel
theorem dX8_isContent_22 : decode cX8_isContent 22 = .ok (.getfield 15, 3) := by decide +kernel
theorem dX8_isContent_25 : decode cX8_isContent 25 = .ok (.iload_n 1, 1) := by decide +kernel
theorem dX8_isContent_26 : decode cX8_isContent 26 = .ok (.bipush 21, 2) := by decide +kernel
theorem dX8_isContent_28 : decode cX8_isContent 28 = .ok (.imul, 1) := by decide +kernel
theorem dX8_isContent_29 : decode cX8_isContent 29 = .ok (.iload_n 2, 1) := by decide +kernel
theorem dX8_isContent_30 : decode cX8_isContent 30 = .ok (.iadd, 1) := by decide +kernel
theorem dX8_isContent_31 : decode cX8_isContent 31 = .ok (.iaload, 1) := by decide +kernel
theorem dX8_isContent_32 : decode cX8_isContent 32 = .ok (.if_icmp .le 5, 3) := by decide +kernel
theorem dX8_isContent_35 : decode cX8_isContent 35 = .ok (.iconst 0, 1) := by decide +kernel
theorem dX8_isContent_36 : decode cX8_isContent 36 = .ok (.ireturn, 1) := by decide +kernel
theorem dX8_isContent_37 : decode cX8_isContent 37 = .ok (.iinc 5 1, 3) := by decide +kernel
theorem dX8_isContent_40 : decode cX8_isContent 40 = .ok (.goto (-37), 3) := by decide +kernel
theorem dX8_isContent_43 : decode cX8_isContent 43 = .ok (.iconst 0, 1) := by decide +kernel
theorem dX8_isContent_44 : decode cX8_isContent 44 = .ok (.istore 5, 2) := by decide +kernel
theorem dX8_isContent_46 : decode cX8_isContent 46 = .ok (.iload 5, 2) := by decide +kernel
theorem dX8_isContent_48 : decode cX8_isContent 48 = .ok (.iload 4, 2) := by decide +kernel
theorem dX8_isContent_50 : decode cX8_isContent 50 = .ok (.if_icmp .gt 37, 3) := by decide +kernel
theorem dX8_isContent_53 : decode cX8_isContent 53 = .ok (.aload_n 0, 1) := by decide +kernel
theorem dX8_isContent_54 : decode cX8_isContent 54 = .ok (.getfield 18, 3) := by decide +kernel
theorem dX8_isContent_57 : decode cX8_isContent 57 = .ok (.iload_n 1, 1) := by decide +kernel
theorem dX8_isContent_58 : decode cX8_isContent 58 = .ok (.bipush 21, 2) := by decide +kernel
theorem dX8_isContent_60 : decode cX8_isContent 60 = .ok (.imul, 1) := by decide +kernel
theorem dX8_isContent_61 : decode cX8_isContent 61 = .ok (.iload 5, 2) := by decide +kernel
theorem dX8_isContent_63 : decode cX8_isContent 63 = .ok (.iadd, 1) := by decide +kernel
theorem dX8_isContent_64 : decode cX8_isContent 64 = .ok (.iaload, 1) := by decide +kernel
theorem dX8_isContent_65 : decode cX8_isContent 65 = .ok (.aload_n 0, 1) := by decide +kernel
theorem dX8_isContent_66 : decode cX8_isContent 66 = .ok (.getfield 18, 3) := by decide +kernel
theorem dX8_isContent_69 : decode cX8_isContent 69 = .ok (.iload_n 1, 1) := by decide +kernel
theorem dX8_isContent_70 : decode cX8_isContent 70 = .ok (.bipush 21, 2) := by decide +kernel
theorem dX8_isContent_72 : decode cX8_isContent 72 = .ok (.imul, 1) := by decide +kernel
theorem dX8_isContent_73 : decode cX8_isContent 73 = .ok (.iload_n 2, 1) := by decide +kernel
theorem dX8_isContent_74 : decode cX8_isContent 74 = .ok (.iadd, 1) := by decide +kernel
theorem dX8_isContent_75 : decode cX8_isContent 75 = .ok (.iaload, 1) := by decide +kernel
theorem dX8_isContent_76 : decode cX8_isContent 76 = .ok (.if_icmp .le 5, 3) := by decide +kernel
theorem dX8_isContent_79 : decode cX8_isContent 79 = .ok (.iconst 0, 1) := by decide +kernel
theorem dX8_isContent_80 : decode cX8_isContent 80 = .ok (.ireturn, 1) := by decide +kernel
theorem dX8_isContent_81 : decode cX8_isContent 81 = .ok (.iinc 5 1, 3) := by decide +kernel
theorem dX8_isContent_84 : decode cX8_isContent 84 = .ok (.goto (-38), 3) := by decide +kernel
theorem dX8_isContent_87 : decode cX8_isContent 87 = .ok (.iconst 1, 1) := by decide +kernel
theorem dX8_isContent_88 : decode cX8_isContent 88 = .ok (.ireturn, 1) := by decide +kernel
theorem dX8_othersGot_0 : decode cX8_othersGot 0 = .ok (.aload_n 0, 1) := by decide +kernel
theorem dX8_othersGot_1 : decode cX8_othersGot 1 = .ok (.getfield 21, 3) := by decide +kernel
theorem dX8_othersGot_4 : decode cX8_othersGot 4 = .ok (.iload_n 1, 1) := by decide +kernel
theorem dX8_othersGot_5 : decode cX8_othersGot 5 = .ok (.bipush 6, 2) := by decide +kernel
theorem dX8_othersGot_7 : decode cX8_othersGot 7 = .ok (.invokevirtual 89, 3) := by decide +kernel
theorem dX8_othersGot_10 : decode cX8_othersGot 10 = .ok (.istore 4, 2) := by decide +kernel
theorem dX8_othersGot_12 : decode cX8_othersGot 12 = .ok (.iload 4, 2) := by decide +kernel
theorem dX8_othersGot_14 : decode cX8_othersGot 14 = .ok (.ifCond .ge 5, 3) := by decide +kernel
theorem dX8_othersGot_17 : decode cX8_othersGot 17 = .ok (.iconst 0, 1) := by decide +kernel
theorem dX8_othersGot_18 : decode cX8_othersGot 18 = .ok (.ireturn, 1) := by decide +kernel
theorem dX8_othersGot_19 : decode cX8_othersGot 19 = .ok (.aload_n 0, 1) := by decide +kernel
theorem dX8_othersGot_20 : decode cX8_othersGot 20 = .ok (.getfield 21, 3) := by decide +kernel
theorem dX8_othersGot_23 : decode cX8_othersGot 23 = .ok (.getfield 95, 3) := by decide +kernel
theorem dX8_othersGot_26 : decode cX8_othersGot 26 = .ok (.iload 4, 2) := by decide +kernel
theorem dX8_othersGot_28 : decode cX8_othersGot 28 = .ok (.iaload, 1) := by decide +kernel
theorem dX8_othersGot_29 : decode cX8_othersGot 29 = .ok (.istore 5, 2) := by decide +kernel
theorem dX8_othersGot_31 : decode cX8_othersGot 31 = .ok (.aload_n 0, 1) := by decide +kernel
theorem dX8_othersGot_32 : decode cX8_othersGot 32 = .ok (.getfield 21, 3) := by decide +kernel
theorem dX8_othersGot_35 : decode cX8_othersGot 35 = .ok (.getfield 95, 3) := by decide +kernel
theorem dX8_othersGot_38 : decode cX8_othersGot 38 = .ok (.iload 4, 2) := by decide +kernel
theorem dX8_othersGot_40 : decode cX8_othersGot 40 = .ok (.iload_n 2, 1) := by decide +kernel
theorem dX8_othersGot_41 : decode cX8_othersGot 41 = .ok (.iastore, 1) := by decide +kernel
theorem dX8_othersGot_42 : decode cX8_othersGot 42 = .ok (.aload_n 0, 1) := by decide +kernel
theorem dX8_othersGot_43 : decode cX8_othersGot 43 = .ok (.iload_n 3, 1) := by decide +kernel
theorem dX8_othersGot_44 : decode cX8_othersGot 44 = .ok (.invokevirtual 102, 3) := by decide +kernel
theorem dX8_othersGot_47 : decode cX8_othersGot 47 = .ok (.pop, 1) := by decide +kernel
theorem dX8_othersGot_48 : decode cX8_othersGot 48 = .ok (.aload_n 0, 1) := by decide +kernel
theorem dX8_othersGot_49 : decode cX8_othersGot 49 = .ok (.getfield 21, 3) := by decide +kernel
theorem dX8_othersGot_52 : decode cX8_othersGot 52 = .ok (.getfield 95, 3) := by decide +kernel
theorem dX8_othersGot_55 : decode cX8_othersGot 55 = .ok (.iload 4, 2) := by decide +kernel
theorem dX8_othersGot_57 : decode cX8_othersGot 57 = .ok (.iload 5, 2) := by decide +kernel
theorem dX8_othersGot_59 : decode cX8_othersGot 59 = .ok (.iastore, 1) := by decide +kernel
theorem dX8_othersGot_60 : decode cX8_othersGot 60 = .ok (.iconst 0, 1) := by decide +kernel
theorem dX8_othersGot_61 : decode cX8_othersGot 61 = .ok (.istore 6, 2) := by decide +kernel
theorem dX8_othersGot_63 : decode cX8_othersGot 63 = .ok (.iconst 0, 1) := by decide +kernel
theorem dX8_othersGot_64 : decode cX8_othersGot 64 = .ok (.istore 7, 2) := by decide +kernel
theorem dX8_othersGot_66 : decode cX8_othersGot 66 = .ok (.iload 7, 2) := by decide +kernel
theorem dX8_othersGot_68 : decode cX8_othersGot 68 = .ok (.aload_n 0, 1) := by decide +kernel
theorem dX8_othersGot_69 : decode cX8_othersGot 69 = .ok (.getfield 21, 3) := by decide +kernel
theorem dX8_othersGot_72 : decode cX8_othersGot 72 = .ok (.getfield 65, 3) := by decide +kernel
theorem dX8_othersGot_75 : decode cX8_othersGot 75 = .ok (.if_icmp .ge 30, 3) := by decide +kernel
theorem dX8_othersGot_78 : decode cX8_othersGot 78 = .ok (.iload 7, 2) := by decide +kernel
theorem dX8_othersGot_80 : decode cX8_othersGot 80 = .ok (.iload_n 1, 1) := by decide +kernel
theorem dX8_othersGot_81 : decode cX8_othersGot 81 = .ok (.if_icmp .eq 18, 3) := by decide +kernel
theorem dX8_othersGot_84 : decode cX8_othersGot 84 = .ok (.iload 6, 2) := by decide +kernel
theorem dX8_othersGot_86 : decode cX8_othersGot 86 = .ok (.aload_n 0, 1) := by decide +kernel
theorem dX8_othersGot_87 : decode cX8_othersGot 87 = .ok (.getfield 34, 3) := by decide +kernel
theorem dX8_othersGot_90 : decode cX8_othersGot 90 = .ok (.getfield 68, 3) := by decide +kernel
theorem dX8_othersGot_93 : decode cX8_othersGot 93 = .ok (.iload 7, 2) := by decide +kernel
theorem dX8_othersGot_95 : decode cX8_othersGot 95 = .ok (.iaload, 1) := by decide +kernel
theorem dX8_othersGot_96 : decode cX8_othersGot 96 = .ok (.iadd, 1) := by decide +kernel
theorem dX8_othersGot_97 : decode cX8_othersGot 97 = .ok (.istore 6, 2) := by decide +kernel
theorem dX8_othersGot_99 : decode cX8_othersGot 99 = .ok (.iinc 7 1, 3) := by decide +kernel
theorem dX8_othersGot_102 : decode cX8_othersGot 102 = .ok (.goto (-36), 3) := by decide +kernel
theorem dX8_othersGot_105 : decode cX8_othersGot 105 = .ok (.iload 6, 2) := by decide +kernel
theorem dX8_othersGot_107 : decode cX8_othersGot 107 = .ok (.ireturn, 1) := by decide +kernel
theorem dX8_lastGain_0 : decode cX8_lastGain 0 = .ok (.iconst 0, 1) := by decide +kernel
theorem dX8_lastGain_1 : decode cX8_lastGain 1 = .ok (.istore_n 2, 1) := by decide +kernel
theorem dX8_lastGain_2 : decode cX8_lastGain 2 = .ok (.aload_n 0, 1) := by decide +kernel
theorem dX8_lastGain_3 : decode cX8_lastGain 3 = .ok (.getfield 34, 3) := by decide +kernel
theorem dX8_lastGain_6 : decode cX8_lastGain 6 = .ok (.aload_n 0, 1) := by decide +kernel
theorem dX8_lastGain_7 : decode cX8_lastGain 7 = .ok (.getfield 25, 3) := by decide +kernel
theorem dX8_lastGain_10 : decode cX8_lastGain 10 = .ok (.invokevirtual 40, 3) := by decide +kernel
theorem dX8_lastGain_13 : decode cX8_lastGain 13 = .ok (.iconst 0, 1) := by decide +kernel
theorem dX8_lastGain_14 : decode cX8_lastGain 14 = .ok (.istore_n 3, 1) := by decide +kernel
theorem dX8_lastGain_15 : decode cX8_lastGain 15 = .ok (.iload_n 3, 1) := by decide +kernel
theorem dX8_lastGain_16 : decode cX8_lastGain 16 = .ok (.bipush 99, 2) := by decide +kernel
theorem dX8_lastGain_18 : decode cX8_lastGain 18 = .ok (.if_icmp .ge 55, 3) := by decide +kernel
theorem dX8_lastGain_21 : decode cX8_lastGain 21 = .ok (.aload_n 0, 1) := by decide +kernel
theorem dX8_lastGain_22 : decode cX8_lastGain 22 = .ok (.getfield 34, 3) := by decide +kernel
theorem dX8_lastGain_25 : decode cX8_lastGain 25 = .ok (.getfield 68, 3) := by decide +kernel
theorem dX8_lastGain_28 : decode cX8_lastGain 28 = .ok (.iload_n 1, 1) := by decide +kernel
theorem dX8_lastGain_29 : decode cX8_lastGain 29 = .ok (.iaload, 1) := by decide +kernel
theorem dX8_lastGain_30 : decode cX8_lastGain 30 = .ok (.istore 4, 2) := by decide +kernel
theorem dX8_lastGain_32 : decode cX8_lastGain 32 = .ok (.aload_n 0, 1) := by decide +kernel
theorem dX8_lastGain_33 : decode cX8_lastGain 33 = .ok (.getfield 34, 3) := by decide +kernel
theorem dX8_lastGain_36 : decode cX8_lastGain 36 = .ok (.bipush 7, 2) := by decide +kernel
theorem dX8_lastGain_38 : decode cX8_lastGain 38 = .ok (.iconst 1, 1) := by decide +kernel
theorem dX8_lastGain_39 : decode cX8_lastGain 39 = .ok (.iload_n 1, 1) := by decide +kernel
theorem dX8_lastGain_40 : decode cX8_lastGain 40 = .ok (.ishl, 1) := by decide +kernel
theorem dX8_lastGain_41 : decode cX8_lastGain 41 = .ok (.iconst 0, 1) := by decide +kernel
theorem dX8_lastGain_42 : decode cX8_lastGain 42 = .ok (.invokevirtual 44, 3) := by decide +kernel
theorem dX8_lastGain_45 : decode cX8_lastGain 45 = .ok (.aload_n 0, 1) := by decide +kernel
theorem dX8_lastGain_46 : decode cX8_lastGain 46 = .ok (.getfield 34, 3) := by decide +kernel
theorem dX8_lastGain_49 : decode cX8_lastGain 49 = .ok (.getfield 68, 3) := by decide +kernel
theorem dX8_lastGain_52 : decode cX8_lastGain 52 = .ok (.iload_n 1, 1) := by decide +kernel
theorem dX8_lastGain_53 : decode cX8_lastGain 53 = .ok (.iaload, 1) := by decide +kernel
theorem dX8_lastGain_54 : decode cX8_lastGain 54 = .ok (.iload 4, 2) := by decide +kernel
theorem dX8_lastGain_56 : decode cX8_lastGain 56 = .ok (.if_icmp .le 11, 3) := by decide +kernel
theorem dX8_lastGain_59 : decode cX8_lastGain 59 = .ok (.aload_n 0, 1) := by decide +kernel
theorem dX8_lastGain_60 : decode cX8_lastGain 60 = .ok (.getfield 34, 3) := by decide +kernel
theorem dX8_lastGain_63 : decode cX8_lastGain 63 = .ok (.getfield 124, 3) := by decide +kernel
theorem dX8_lastGain_66 : decode cX8_lastGain 66 = .ok (.istore_n 2, 1) := by decide +kernel
theorem dX8_lastGain_67 : decode cX8_lastGain 67 = .ok (.iinc 3 1, 3) := by decide +kernel
theorem dX8_lastGain_70 : decode cX8_lastGain 70 = .ok (.goto (-55), 3) := by decide +kernel
theorem dX8_lastGain_73 : decode cX8_lastGain 73 = .ok (.iload_n 2, 1) := by decide +kernel
theorem dX8_lastGain_74 : decode cX8_lastGain 74 = .ok (.ireturn, 1) := by decide +kernel
theorem dX8_firstUnlike_0 : decode cX8_firstUnlike 0 = .ok (.aload_n 0, 1) := by decide +kernel
theorem dX8_firstUnlike_1 : decode cX8_firstUnlike 1 = .ok (.getfield 34, 3) := by decide +kernel
theorem dX8_firstUnlike_4 : decode cX8_firstUnlike 4 = .ok (.aload_n 0, 1) := by decide +kernel
theorem dX8_firstUnlike_5 : decode cX8_firstUnlike 5 = .ok (.getfield 25, 3) := by decide +kernel
theorem dX8_firstUnlike_8 : decode cX8_firstUnlike 8 = .ok (.invokevirtual 40, 3) := by decide +kernel
theorem dX8_firstUnlike_11 : decode cX8_firstUnlike 11 = .ok (.iconst 0, 1) := by decide +kernel
theorem dX8_firstUnlike_12 : decode cX8_firstUnlike 12 = .ok (.istore_n 3, 1) := by decide +kernel
theorem dX8_firstUnlike_13 : decode cX8_firstUnlike 13 = .ok (.iload_n 3, 1) := by decide +kernel
theorem dX8_firstUnlike_14 : decode cX8_firstUnlike 14 = .ok (.aload_n 1, 1) := by decide +kernel
theorem dX8_firstUnlike_15 : decode cX8_firstUnlike 15 = .ok (.getfield 127, 3) := by decide +kernel
theorem dX8_firstUnlike_18 : decode cX8_firstUnlike 18 = .ok (.if_icmp .ge 39, 3) := by decide +kernel
theorem dX8_firstUnlike_21 : decode cX8_firstUnlike 21 = .ok (.aload_n 0, 1) := by decide +kernel
theorem dX8_firstUnlike_22 : decode cX8_firstUnlike 22 = .ok (.getfield 34, 3) := by decide +kernel
theorem dX8_firstUnlike_25 : decode cX8_firstUnlike 25 = .ok (.iload_n 2, 1) := by decide +kernel
theorem dX8_firstUnlike_26 : decode cX8_firstUnlike 26 = .ok (.iconst 0, 1) := by decide +kernel
theorem dX8_firstUnlike_27 : decode cX8_firstUnlike 27 = .ok (.iconst 0, 1) := by decide +kernel
theorem dX8_firstUnlike_28 : decode cX8_firstUnlike 28 = .ok (.invokevirtual 44, 3) := by decide +kernel
theorem dX8_firstUnlike_31 : decode cX8_firstUnlike 31 = .ok (.aload_n 1, 1) := by decide +kernel
theorem dX8_firstUnlike_32 : decode cX8_firstUnlike 32 = .ok (.getfield 132, 3) := by decide +kernel
theorem dX8_firstUnlike_35 : decode cX8_firstUnlike 35 = .ok (.iload_n 3, 1) := by decide +kernel
theorem dX8_firstUnlike_36 : decode cX8_firstUnlike 36 = .ok (.laload, 1) := by decide +kernel
theorem dX8_firstUnlike_37 : decode cX8_firstUnlike 37 = .ok (.aload_n 0, 1) := by decide +kernel
theorem dX8_firstUnlike_38 : decode cX8_firstUnlike 38 = .ok (.getfield 34, 3) := by decide +kernel
theorem dX8_firstUnlike_41 : decode cX8_firstUnlike 41 = .ok (.getfield 58, 3) := by decide +kernel
theorem dX8_firstUnlike_44 : decode cX8_firstUnlike 44 = .ok (.i2l, 1) := by decide +kernel
theorem dX8_firstUnlike_45 : decode cX8_firstUnlike 45 = .ok (.lcmp, 1) := by decide +kernel
theorem dX8_firstUnlike_46 : decode cX8_firstUnlike 46 = .ok (.ifCond .eq 5, 3) := by decide +kernel
theorem dX8_firstUnlike_49 : decode cX8_firstUnlike 49 = .ok (.iload_n 3, 1) := by decide +kernel
theorem dX8_firstUnlike_50 : decode cX8_firstUnlike 50 = .ok (.ireturn, 1) := by decide +kernel
theorem dX8_firstUnlike_51 : decode cX8_firstUnlike 51 = .ok (.iinc 3 1, 3) := by decide +kernel
theorem dX8_firstUnlike_54 : decode cX8_firstUnlike 54 = .ok (.goto (-41), 3) := by decide +kernel
theorem dX8_firstUnlike_57 : decode cX8_firstUnlike 57 = .ok (.bipush (-2), 2) := by decide +kernel
theorem dX8_firstUnlike_59 : decode cX8_firstUnlike 59 = .ok (.ireturn, 1) := by decide +kernel
theorem dX8_setsThatFit_0 : decode cX8_setsThatFit 0 = .ok (.iconst 0, 1) := by decide +kernel
theorem dX8_setsThatFit_1 : decode cX8_setsThatFit 1 = .ok (.istore_n 2, 1) := by decide +kernel
theorem dX8_setsThatFit_2 : decode cX8_setsThatFit 2 = .ok (.iconst 0, 1) := by decide +kernel
theorem dX8_setsThatFit_3 : decode cX8_setsThatFit 3 = .ok (.istore_n 3, 1) := by decide +kernel
theorem dX8_setsThatFit_4 : decode cX8_setsThatFit 4 = .ok (.iload_n 3, 1) := by decide +kernel
theorem dX8_setsThatFit_5 : decode cX8_setsThatFit 5 = .ok (.iconst 1, 1) := by decide +kernel
theorem dX8_setsThatFit_6 : decode cX8_setsThatFit 6 = .ok (.aload_n 0, 1) := by decide +kernel
theorem dX8_setsThatFit_7 : decode cX8_setsThatFit 7 = .ok (.getfield 21, 3) := by decide +kernel
theorem dX8_setsThatFit_10 : decode cX8_setsThatFit 10 = .ok (.getfield 65, 3) := by decide +kernel
theorem dX8_setsThatFit_13 : decode cX8_setsThatFit 13 = .ok (.ishl, 1) := by decide +kernel
theorem dX8_setsThatFit_14 : decode cX8_setsThatFit 14 = .ok (.if_icmp .ge 23, 3) := by decide +kernel
theorem dX8_setsThatFit_17 : decode cX8_setsThatFit 17 = .ok (.aload_n 0, 1) := by decide +kernel
theorem dX8_setsThatFit_18 : decode cX8_setsThatFit 18 = .ok (.aload_n 1, 1) := by decide +kernel
theorem dX8_setsThatFit_19 : decode cX8_setsThatFit 19 = .ok (.iload_n 3, 1) := by decide +kernel
theorem dX8_setsThatFit_20 : decode cX8_setsThatFit 20 = .ok (.invokevirtual 136, 3) := by decide +kernel
theorem dX8_setsThatFit_23 : decode cX8_setsThatFit 23 = .ok (.bipush (-2), 2) := by decide +kernel
theorem dX8_setsThatFit_25 : decode cX8_setsThatFit 25 = .ok (.if_icmp .ne 6, 3) := by decide +kernel
theorem dX8_setsThatFit_28 : decode cX8_setsThatFit 28 = .ok (.iinc 2 1, 3) := by decide +kernel
theorem dX8_setsThatFit_31 : decode cX8_setsThatFit 31 = .ok (.iinc 3 1, 3) := by decide +kernel
theorem dX8_setsThatFit_34 : decode cX8_setsThatFit 34 = .ok (.goto (-30), 3) := by decide +kernel
theorem dX8_setsThatFit_37 : decode cX8_setsThatFit 37 = .ok (.iload_n 2, 1) := by decide +kernel
theorem dX8_setsThatFit_38 : decode cX8_setsThatFit 38 = .ok (.ireturn, 1) := by decide +kernel
theorem dX8_leastSet_0 : decode cX8_leastSet 0 = .ok (.iconst 0, 1) := by decide +kernel
theorem dX8_leastSet_1 : decode cX8_leastSet 1 = .ok (.istore_n 2, 1) := by decide +kernel
theorem dX8_leastSet_2 : decode cX8_leastSet 2 = .ok (.iload_n 2, 1) := by decide +kernel
theorem dX8_leastSet_3 : decode cX8_leastSet 3 = .ok (.iconst 1, 1) := by decide +kernel
theorem dX8_leastSet_4 : decode cX8_leastSet 4 = .ok (.aload_n 0, 1) := by decide +kernel
theorem dX8_leastSet_5 : decode cX8_leastSet 5 = .ok (.getfield 21, 3) := by decide +kernel
theorem dX8_leastSet_8 : decode cX8_leastSet 8 = .ok (.getfield 65, 3) := by decide +kernel
theorem dX8_leastSet_11 : decode cX8_leastSet 11 = .ok (.ishl, 1) := by decide +kernel
theorem dX8_leastSet_12 : decode cX8_leastSet 12 = .ok (.if_icmp .ge 22, 3) := by decide +kernel
theorem dX8_leastSet_15 : decode cX8_leastSet 15 = .ok (.aload_n 0, 1) := by decide +kernel
theorem dX8_leastSet_16 : decode cX8_leastSet 16 = .ok (.aload_n 1, 1) := by decide +kernel
theorem dX8_leastSet_17 : decode cX8_leastSet 17 = .ok (.iload_n 2, 1) := by decide +kernel
theorem dX8_leastSet_18 : decode cX8_leastSet 18 = .ok (.invokevirtual 136, 3) := by decide +kernel
theorem dX8_leastSet_21 : decode cX8_leastSet 21 = .ok (.bipush (-2), 2) := by decide +kernel
theorem dX8_leastSet_23 : decode cX8_leastSet 23 = .ok (.if_icmp .ne 5, 3) := by decide +kernel
theorem dX8_leastSet_26 : decode cX8_leastSet 26 = .ok (.iload_n 2, 1) := by decide +kernel
theorem dX8_leastSet_27 : decode cX8_leastSet 27 = .ok (.ireturn, 1) := by decide +kernel
theorem dX8_leastSet_28 : decode cX8_leastSet 28 = .ok (.iinc 2 1, 3) := by decide +kernel
theorem dX8_leastSet_31 : decode cX8_leastSet 31 = .ok (.goto (-29), 3) := by decide +kernel
theorem dX8_leastSet_34 : decode cX8_leastSet 34 = .ok (.bipush (-2), 2) := by decide +kernel
theorem dX8_leastSet_36 : decode cX8_leastSet 36 = .ok (.ireturn, 1) := by decide +kernel
theorem dX8_stoppedBehind_0 : decode cX8_stoppedBehind 0 = .ok (.aload_n 0, 1) := by decide +kernel
theorem dX8_stoppedBehind_1 : decode cX8_stoppedBehind 1 = .ok (.getfield 21, 3) := by decide +kernel
theorem dX8_stoppedBehind_4 : decode cX8_stoppedBehind 4 = .ok (.iload_n 2, 1) := by decide +kernel
theorem dX8_stoppedBehind_5 : decode cX8_stoppedBehind 5 = .ok (.bipush 7, 2) := by decide +kernel
theorem dX8_stoppedBehind_7 : decode cX8_stoppedBehind 7 = .ok (.invokevirtual 89, 3) := by decide +kernel
theorem dX8_stoppedBehind_10 : decode cX8_stoppedBehind 10 = .ok (.istore_n 3, 1) := by decide +kernel
theorem dX8_stoppedBehind_11 : decode cX8_stoppedBehind 11 = .ok (.iload_n 3, 1) := by decide +kernel
theorem dX8_stoppedBehind_12 : decode cX8_stoppedBehind 12 = .ok (.ifCond .ge 6, 3) := by decide +kernel
theorem dX8_stoppedBehind_15 : decode cX8_stoppedBehind 15 = .ok (.bipush (-2), 2) := by decide +kernel
theorem dX8_stoppedBehind_17 : decode cX8_stoppedBehind 17 = .ok (.ireturn, 1) := by decide +kernel
theorem dX8_stoppedBehind_18 : decode cX8_stoppedBehind 18 = .ok (.aload_n 0, 1) := by decide +kernel
theorem dX8_stoppedBehind_19 : decode cX8_stoppedBehind 19 = .ok (.getfield 21, 3) := by decide +kernel
theorem dX8_stoppedBehind_22 : decode cX8_stoppedBehind 22 = .ok (.getfield 95, 3) := by decide +kernel
theorem dX8_stoppedBehind_25 : decode cX8_stoppedBehind 25 = .ok (.iload_n 3, 1) := by decide +kernel
theorem dX8_stoppedBehind_26 : decode cX8_stoppedBehind 26 = .ok (.iaload, 1) := by decide +kernel
theorem dX8_stoppedBehind_27 : decode cX8_stoppedBehind 27 = .ok (.istore 4, 2) := by decide +kernel
theorem dX8_stoppedBehind_29 : decode cX8_stoppedBehind 29 = .ok (.bipush (-2), 2) := by decide +kernel
theorem dX8_stoppedBehind_31 : decode cX8_stoppedBehind 31 = .ok (.istore 5, 2) := by decide +kernel
theorem dX8_stoppedBehind_33 : decode cX8_stoppedBehind 33 = .ok (.iconst 0, 1) := by decide +kernel
theorem dX8_stoppedBehind_34 : decode cX8_stoppedBehind 34 = .ok (.istore 6, 2) := by decide +kernel
theorem dX8_stoppedBehind_36 : decode cX8_stoppedBehind 36 = .ok (.iload 6, 2) := by decide +kernel
theorem dX8_stoppedBehind_38 : decode cX8_stoppedBehind 38 = .ok (.aload_n 1, 1) := by decide +kernel
theorem dX8_stoppedBehind_39 : decode cX8_stoppedBehind 39 = .ok (.getfield 127, 3) := by decide +kernel
theorem dX8_stoppedBehind_42 : decode cX8_stoppedBehind 42 = .ok (.if_icmp .gt 51, 3) := by decide +kernel
theorem dX8_stoppedBehind_45 : decode cX8_stoppedBehind 45 = .ok (.iload 5, 2) := by decide +kernel
theorem dX8_stoppedBehind_47 : decode cX8_stoppedBehind 47 = .ok (.bipush (-2), 2) := by decide +kernel
theorem dX8_stoppedBehind_49 : decode cX8_stoppedBehind 49 = .ok (.if_icmp .ne 44, 3) := by decide +kernel
theorem dX8_stoppedBehind_52 : decode cX8_stoppedBehind 52 = .ok (.aload_n 0, 1) := by decide +kernel
theorem dX8_stoppedBehind_53 : decode cX8_stoppedBehind 53 = .ok (.getfield 21, 3) := by decide +kernel
theorem dX8_stoppedBehind_56 : decode cX8_stoppedBehind 56 = .ok (.getfield 95, 3) := by decide +kernel
theorem dX8_stoppedBehind_59 : decode cX8_stoppedBehind 59 = .ok (.iload_n 3, 1) := by decide +kernel
theorem dX8_stoppedBehind_60 : decode cX8_stoppedBehind 60 = .ok (.aload_n 0, 1) := by decide +kernel
theorem dX8_stoppedBehind_61 : decode cX8_stoppedBehind 61 = .ok (.getfield 25, 3) := by decide +kernel
theorem dX8_stoppedBehind_64 : decode cX8_stoppedBehind 64 = .ok (.getfield 124, 3) := by decide +kernel
theorem dX8_stoppedBehind_67 : decode cX8_stoppedBehind 67 = .ok (.iload 6, 2) := by decide +kernel
theorem dX8_stoppedBehind_69 : decode cX8_stoppedBehind 69 = .ok (.iadd, 1) := by decide +kernel
theorem dX8_stoppedBehind_70 : decode cX8_stoppedBehind 70 = .ok (.iastore, 1) := by decide +kernel
theorem dX8_stoppedBehind_71 : decode cX8_stoppedBehind 71 = .ok (.aload_n 0, 1) := by decide +kernel
theorem dX8_stoppedBehind_72 : decode cX8_stoppedBehind 72 = .ok (.aload_n 1, 1) := by decide +kernel
theorem dX8_stoppedBehind_73 : decode cX8_stoppedBehind 73 = .ok (.bipush 7, 2) := by decide +kernel
theorem dX8_stoppedBehind_75 : decode cX8_stoppedBehind 75 = .ok (.invokevirtual 136, 3) := by decide +kernel
theorem dX8_stoppedBehind_78 : decode cX8_stoppedBehind 78 = .ok (.bipush (-2), 2) := by decide +kernel
theorem dX8_stoppedBehind_80 : decode cX8_stoppedBehind 80 = .ok (.if_icmp .ne 7, 3) := by decide +kernel
theorem dX8_stoppedBehind_83 : decode cX8_stoppedBehind 83 = .ok (.iload 6, 2) := by decide +kernel
theorem dX8_stoppedBehind_85 : decode cX8_stoppedBehind 85 = .ok (.istore 5, 2) := by decide +kernel
theorem dX8_stoppedBehind_87 : decode cX8_stoppedBehind 87 = .ok (.iinc 6 1, 3) := by decide +kernel
theorem dX8_stoppedBehind_90 : decode cX8_stoppedBehind 90 = .ok (.goto (-54), 3) := by decide +kernel
theorem dX8_stoppedBehind_93 : decode cX8_stoppedBehind 93 = .ok (.aload_n 0, 1) := by decide +kernel
theorem dX8_stoppedBehind_94 : decode cX8_stoppedBehind 94 = .ok (.getfield 21, 3) := by decide +kernel
theorem dX8_stoppedBehind_97 : decode cX8_stoppedBehind 97 = .ok (.getfield 95, 3) := by decide +kernel
theorem dX8_stoppedBehind_100 : decode cX8_stoppedBehind 100 = .ok (.iload_n 3, 1) := by decide +kernel
theorem dX8_stoppedBehind_101 : decode cX8_stoppedBehind 101 = .ok (.iload 4, 2) := by decide +kernel
theorem dX8_stoppedBehind_103 : decode cX8_stoppedBehind 103 = .ok (.iastore, 1) := by decide +kernel
theorem dX8_stoppedBehind_104 : decode cX8_stoppedBehind 104 = .ok (.iload 5, 2) := by decide +kernel
theorem dX8_stoppedBehind_106 : decode cX8_stoppedBehind 106 = .ok (.ireturn, 1) := by decide +kernel
theorem dX8_hiccupped_0 : decode cX8_hiccupped 0 = .ok (.aload_n 0, 1) := by decide +kernel
theorem dX8_hiccupped_1 : decode cX8_hiccupped 1 = .ok (.getfield 21, 3) := by decide +kernel
theorem dX8_hiccupped_4 : decode cX8_hiccupped 4 = .ok (.bipush 11, 2) := by decide +kernel
theorem dX8_hiccupped_6 : decode cX8_hiccupped 6 = .ok (.invokevirtual 109, 3) := by decide +kernel
theorem dX8_hiccupped_9 : decode cX8_hiccupped 9 = .ok (.istore 4, 2) := by decide +kernel
theorem dX8_hiccupped_11 : decode cX8_hiccupped 11 = .ok (.iload_n 1, 1) := by decide +kernel
theorem dX8_hiccupped_12 : decode cX8_hiccupped 12 = .ok (.istore 5, 2) := by decide +kernel
theorem dX8_hiccupped_14 : decode cX8_hiccupped 14 = .ok (.iconst 0, 1) := by decide +kernel
theorem dX8_hiccupped_15 : decode cX8_hiccupped 15 = .ok (.istore 6, 2) := by decide +kernel
theorem dX8_hiccupped_17 : decode cX8_hiccupped 17 = .ok (.iconst 0, 1) := by decide +kernel
theorem dX8_hiccupped_18 : decode cX8_hiccupped 18 = .ok (.istore 7, 2) := by decide +kernel
theorem dX8_hiccupped_20 : decode cX8_hiccupped 20 = .ok (.iload 7, 2) := by decide +kernel
theorem dX8_hiccupped_22 : decode cX8_hiccupped 22 = .ok (.iload_n 2, 1) := by decide +kernel
theorem dX8_hiccupped_23 : decode cX8_hiccupped 23 = .ok (.if_icmp .ge 133, 3) := by decide +kernel
theorem dX8_hiccupped_26 : decode cX8_hiccupped 26 = .ok (.aload_n 0, 1) := by decide +kernel
theorem dX8_hiccupped_27 : decode cX8_hiccupped 27 = .ok (.getfield 34, 3) := by decide +kernel
theorem dX8_hiccupped_30 : decode cX8_hiccupped 30 = .ok (.aload_n 0, 1) := by decide +kernel
theorem dX8_hiccupped_31 : decode cX8_hiccupped 31 = .ok (.getfield 25, 3) := by decide +kernel
theorem dX8_hiccupped_34 : decode cX8_hiccupped 34 = .ok (.invokevirtual 40, 3) := by decide +kernel
theorem dX8_hiccupped_37 : decode cX8_hiccupped 37 = .ok (.iconst 0, 1) := by decide +kernel
theorem dX8_hiccupped_38 : decode cX8_hiccupped 38 = .ok (.istore 8, 2) := by decide +kernel
theorem dX8_hiccupped_40 : decode cX8_hiccupped 40 = .ok (.iload 8, 2) := by decide +kernel
theorem dX8_hiccupped_42 : decode cX8_hiccupped 42 = .ok (.bipush 60, 2) := by decide +kernel
theorem dX8_hiccupped_44 : decode cX8_hiccupped 44 = .ok (.if_icmp .ge 78, 3) := by decide +kernel
theorem dX8_hiccupped_47 : decode cX8_hiccupped 47 = .ok (.iconst 0, 1) := by decide +kernel
theorem dX8_hiccupped_48 : decode cX8_hiccupped 48 = .ok (.istore 9, 2) := by decide +kernel
theorem dX8_hiccupped_50 : decode cX8_hiccupped 50 = .ok (.iconst 0, 1) := by decide +kernel
theorem dX8_hiccupped_51 : decode cX8_hiccupped 51 = .ok (.istore 10, 2) := by decide +kernel
theorem dX8_hiccupped_53 : decode cX8_hiccupped 53 = .ok (.iload 10, 2) := by decide +kernel
theorem dX8_hiccupped_55 : decode cX8_hiccupped 55 = .ok (.aload_n 0, 1) := by decide +kernel
theorem dX8_hiccupped_56 : decode cX8_hiccupped 56 = .ok (.getfield 21, 3) := by decide +kernel
theorem dX8_hiccupped_59 : decode cX8_hiccupped 59 = .ok (.getfield 65, 3) := by decide +kernel
theorem dX8_hiccupped_62 : decode cX8_hiccupped 62 = .ok (.if_icmp .ge 42, 3) := by decide +kernel
theorem dX8_hiccupped_65 : decode cX8_hiccupped 65 = .ok (.iload 5, 2) := by decide +kernel
theorem dX8_hiccupped_67 : decode cX8_hiccupped 67 = .ok (.ldc 140, 2) := by decide +kernel
theorem dX8_hiccupped_69 : decode cX8_hiccupped 69 = .ok (.imul, 1) := by decide +kernel
theorem dX8_hiccupped_70 : decode cX8_hiccupped 70 = .ok (.sipush 12345, 3) := by decide +kernel
theorem dX8_hiccupped_73 : decode cX8_hiccupped 73 = .ok (.iadd, 1) := by decide +kernel
theorem dX8_hiccupped_74 : decode cX8_hiccupped 74 = .ok (.istore 5, 2) := by decide +kernel
theorem dX8_hiccupped_76 : decode cX8_hiccupped 76 = .ok (.iload 5, 2) := by decide +kernel
theorem dX8_hiccupped_78 : decode cX8_hiccupped 78 = .ok (.bipush 8, 2) := by decide +kernel
theorem dX8_hiccupped_80 : decode cX8_hiccupped 80 = .ok (.iushr, 1) := by decide +kernel
theorem dX8_hiccupped_81 : decode cX8_hiccupped 81 = .ok (.bipush 12, 2) := by decide +kernel
theorem dX8_hiccupped_83 : decode cX8_hiccupped 83 = .ok (.irem, 1) := by decide +kernel
theorem dX8_hiccupped_84 : decode cX8_hiccupped 84 = .ok (.iload 4, 2) := by decide +kernel
theorem dX8_hiccupped_86 : decode cX8_hiccupped 86 = .ok (.if_icmp .ge 12, 3) := by decide +kernel
theorem dX8_hiccupped_89 : decode cX8_hiccupped 89 = .ok (.iload 9, 2) := by decide +kernel
theorem dX8_hiccupped_91 : decode cX8_hiccupped 91 = .ok (.iconst 1, 1) := by decide +kernel
theorem dX8_hiccupped_92 : decode cX8_hiccupped 92 = .ok (.iload 10, 2) := by decide +kernel
theorem dX8_hiccupped_94 : decode cX8_hiccupped 94 = .ok (.ishl, 1) := by decide +kernel
theorem dX8_hiccupped_95 : decode cX8_hiccupped 95 = .ok (.ior, 1) := by decide +kernel
theorem dX8_hiccupped_96 : decode cX8_hiccupped 96 = .ok (.istore 9, 2) := by decide +kernel
theorem dX8_hiccupped_98 : decode cX8_hiccupped 98 = .ok (.iinc 10 1, 3) := by decide +kernel
theorem dX8_hiccupped_101 : decode cX8_hiccupped 101 = .ok (.goto (-48), 3) := by decide +kernel
theorem dX8_hiccupped_104 : decode cX8_hiccupped 104 = .ok (.aload_n 0, 1) := by decide +kernel
theorem dX8_hiccupped_105 : decode cX8_hiccupped 105 = .ok (.getfield 34, 3) := by decide +kernel
theorem dX8_hiccupped_108 : decode cX8_hiccupped 108 = .ok (.bipush 7, 2) := by decide +kernel
theorem dX8_hiccupped_110 : decode cX8_hiccupped 110 = .ok (.iconst 0, 1) := by decide +kernel
theorem dX8_hiccupped_111 : decode cX8_hiccupped 111 = .ok (.iload 9, 2) := by decide +kernel
theorem dX8_hiccupped_113 : decode cX8_hiccupped 113 = .ok (.invokevirtual 44, 3) := by decide +kernel
theorem dX8_hiccupped_116 : decode cX8_hiccupped 116 = .ok (.iinc 8 1, 3) := by decide +kernel
theorem dX8_hiccupped_119 : decode cX8_hiccupped 119 = .ok (.goto (-79), 3) := by decide +kernel
theorem dX8_hiccupped_122 : decode cX8_hiccupped 122 = .ok (.iload 6, 2) := by decide +kernel
theorem dX8_hiccupped_124 : decode cX8_hiccupped 124 = .ok (.iload_n 3, 1) := by decide +kernel
theorem dX8_hiccupped_125 : decode cX8_hiccupped 125 = .ok (.ifCond .ge 13, 3) := by decide +kernel
theorem dX8_hiccupped_128 : decode cX8_hiccupped 128 = .ok (.aload_n 0, 1) := by decide +kernel
theorem dX8_hiccupped_129 : decode cX8_hiccupped 129 = .ok (.getfield 34, 3) := by decide +kernel
theorem dX8_hiccupped_132 : decode cX8_hiccupped 132 = .ok (.getfield 58, 3) := by decide +kernel
theorem dX8_hiccupped_135 : decode cX8_hiccupped 135 = .ok (.goto 12, 3) := by decide +kernel
theorem dX8_hiccupped_138 : decode cX8_hiccupped 138 = .ok (.aload_n 0, 1) := by decide +kernel
theorem dX8_hiccupped_139 : decode cX8_hiccupped 139 = .ok (.getfield 34, 3) := by decide +kernel
theorem dX8_hiccupped_142 : decode cX8_hiccupped 142 = .ok (.getfield 68, 3) := by decide +kernel
theorem dX8_hiccupped_145 : decode cX8_hiccupped 145 = .ok (.iload_n 3, 1) := by decide +kernel
theorem dX8_hiccupped_146 : decode cX8_hiccupped 146 = .ok (.iaload, 1) := by decide +kernel
theorem dX8_hiccupped_147 : decode cX8_hiccupped 147 = .ok (.iadd, 1) := by decide +kernel
theorem dX8_hiccupped_148 : decode cX8_hiccupped 148 = .ok (.istore 6, 2) := by decide +kernel
theorem dX8_hiccupped_150 : decode cX8_hiccupped 150 = .ok (.iinc 7 1, 3) := by decide +kernel
theorem dX8_hiccupped_153 : decode cX8_hiccupped 153 = .ok (.goto (-133), 3) := by decide +kernel
theorem dX8_hiccupped_156 : decode cX8_hiccupped 156 = .ok (.iload 6, 2) := by decide +kernel
theorem dX8_hiccupped_158 : decode cX8_hiccupped 158 = .ok (.ireturn, 1) := by decide +kernel
end
section
theorem dX9_init_0 : decode cX9_init 0 = .ok (.aload_n 0, 1) := by decide +kernel
theorem dX9_init_1 : decode cX9_init 1 = .ok (.invokespecial 1, 3) := by decide +kernel
theorem dX9_init_4 : decode cX9_init 4 = .ok (.aload_n 0, 1) := by decide +kernel
theorem dX9_init_5 : decode cX9_init 5 = .ok (.new 7, 3) := by decide +kernel
theorem dX9_init_8 : decode cX9_init 8 = .ok (.dup, 1) := by decide +kernel
theorem dX9_init_9 : decode cX9_init 9 = .ok (.invokespecial 9, 3) := by decide +kernel
theorem dX9_init_12 : decode cX9_init 12 = .ok (.putfield 10, 3) := by decide +kernel
theorem dX9_init_15 : decode cX9_init 15 = .ok (.aload_n 0, 1) := by decide +kernel
theorem dX9_init_16 : decode cX9_init 16 = .ok (.new 16, 3) := by decide +kernel
theorem dX9_init_19 : decode cX9_init 19 = .ok (.dup, 1) := by decide +kernel
theorem dX9_init_20 : decode cX9_init 20 = .ok (.invokespecial 18, 3) := by decide +kernel
theorem dX9_init_23 : decode cX9_init 23 = .ok (.putfield 19, 3) := by decide +kernel
theorem dX9_init_26 : decode cX9_init 26 = .ok (.aload_n 0, 1) := by decide +kernel
theorem dX9_init_27 : decode cX9_init 27 = .ok (.new 23, 3) := by decide +kernel
theorem dX9_init_30 : decode cX9_init 30 = .ok (.dup, 1) := by decide +kernel
theorem dX9_init_31 : decode cX9_init 31 = .ok (.aload_n 0, 1) := by decide +kernel
theorem dX9_init_32 : decode cX9_init 32 = .ok (.getfield 10, 3) := by decide +kernel
theorem dX9_init_35 : decode cX9_init 35 = .ok (.invokespecial 25, 3) := by decide +kernel
theorem dX9_init_38 : decode cX9_init 38 = .ok (.putfield 28, 3) := by decide +kernel
theorem dX9_init_41 : decode cX9_init 41 = .ok (.aload_n 0, 1) := by decide +kernel
theorem dX9_init_42 : decode cX9_init 42 = .ok (.new 32, 3) := by decide +kernel
theorem dX9_init_45 : decode cX9_init 45 = .ok (.dup, 1) := by decide +kernel
theorem dX9_init_46 : decode cX9_init 46 = .ok (.aload_n 0, 1) := by decide +kernel
theorem dX9_init_47 : decode cX9_init 47 = .ok (.getfield 10, 3) := by decide +kernel
theorem dX9_init_50 : decode cX9_init 50 = .ok (.aload_n 0, 1) := by decide +kernel
theorem dX9_init_51 : decode cX9_init 51 = .ok (.getfield 28, 3) := by decide +kernel
theorem dX9_init_54 : decode cX9_init 54 = .ok (.invokespecial 34, 3) := by decide +kernel
theorem dX9_init_57 : decode cX9_init 57 = .ok (.putfield 37, 3) := by decide +kernel
theorem dX9_init_60 : decode cX9_init 60 = .ok (.aload_n 0, 1) := by decide +kernel
theorem dX9_init_61 : decode cX9_init 61 = .ok (.new 32, 3) := by decide +kernel
theorem dX9_init_64 : decode cX9_init 64 = .ok (.dup, 1) := by decide +kernel
theorem dX9_init_65 : decode cX9_init 65 = .ok (.aload_n 0, 1) := by decide +kernel
theorem dX9_init_66 : decode cX9_init 66 = .ok (.getfield 10, 3) := by decide +kernel
theorem dX9_init_69 : decode cX9_init 69 = .ok (.aload_n 0, 1) := by decide +kernel
theorem dX9_init_70 : decode cX9_init 70 = .ok (.getfield 28, 3) := by decide +kernel
theorem dX9_init_73 : decode cX9_init 73 = .ok (.invokespecial 34, 3) := by decide +kernel
theorem dX9_init_76 : decode cX9_init 76 = .ok (.putfield 41, 3) := by decide +kernel
theorem dX9_init_79 : decode cX9_init 79 = .ok (.aload_n 0, 1) := by decide +kernel
theorem dX9_init_80 : decode cX9_init 80 = .ok (.new 44, 3) := by decide +kernel
theorem dX9_init_83 : decode cX9_init 83 = .ok (.dup, 1) := by decide +kernel
theorem dX9_init_84 : decode cX9_init 84 = .ok (.aload_n 0, 1) := by decide +kernel
theorem dX9_init_85 : decode cX9_init 85 = .ok (.getfield 10, 3) := by decide +kernel
theorem dX9_init_88 : decode cX9_init 88 = .ok (.aload_n 0, 1) := by decide +kernel
theorem dX9_init_89 : decode cX9_init 89 = .ok (.getfield 28, 3) := by decide +kernel
theorem dX9_init_92 : decode cX9_init 92 = .ok (.aload_n 0, 1) := by decide +kernel
theorem dX9_init_93 : decode cX9_init 93 = .ok (.getfield 37, 3) := by decide +kernel
theorem dX9_init_96 : decode cX9_init 96 = .ok (.invokespecial 46, 3) := by decide +kernel
theorem dX9_init_99 : decode cX9_init 99 = .ok (.putfield 49, 3) := by decide +kernel
theorem dX9_init_102 : decode cX9_init 102 = .ok (.aload_n 0, 1) := by decide +kernel
theorem dX9_init_103 : decode cX9_init 103 = .ok (.new 53, 3) := by decide +kernel
theorem dX9_init_106 : decode cX9_init 106 = .ok (.dup, 1) := by decide +kernel
theorem dX9_init_107 : decode cX9_init 107 = .ok (.invokespecial 55, 3) := by decide +kernel
theorem dX9_init_110 : decode cX9_init 110 = .ok (.putfield 56, 3) := by decide +kernel
theorem dX9_init_113 : decode cX9_init 113 = .ok (.aload_n 0, 1) := by decide +kernel
theorem dX9_init_114 : decode cX9_init 114 = .ok (.new 60, 3) := by decide +kernel
theorem dX9_init_117 : decode cX9_init 117 = .ok (.dup, 1) := by decide +kernel
theorem dX9_init_118 : decode cX9_init 118 = .ok (.invokespecial 62, 3) := by decide +kernel
theorem dX9_init_121 : decode cX9_init 121 = .ok (.putfield 63, 3) := by decide +kernel
theorem dX9_init_124 : decode cX9_init 124 = .ok (.aload_n 0, 1) := by decide +kernel
theorem dX9_init_125 : decode cX9_init 125 = .ok (.bipush 6, 2) := by decide +kernel
theorem dX9_init_127 : decode cX9_init 127 = .ok (.anewarray 67, 3) := by decide +kernel
theorem dX9_init_130 : decode cX9_init 130 = .ok (.putfield 69, 3) := by decide +kernel
theorem dX9_init_133 : decode cX9_init 133 = .ok (.iconst 0, 1) := by decide +kernel
theorem dX9_init_134 : decode cX9_init 134 = .ok (.istore_n 1, 1) := by decide +kernel
theorem dX9_init_135 : decode cX9_init 135 = .ok (.iload_n 1, 1) := by decide +kernel
theorem dX9_init_136 : decode cX9_init 136 = .ok (.bipush 6, 2) := by decide +kernel
theorem dX9_init_138 : decode cX9_init 138 = .ok (.if_icmp .ge 22, 3) := by decide +kernel
theorem dX9_init_141 : decode cX9_init 141 = .ok (.aload_n 0, 1) := by decide +kernel
theorem dX9_init_142 : decode cX9_init 142 = .ok (.getfield 69, 3) := by decide +kernel
theorem dX9_init_145 : decode cX9_init 145 = .ok (.iload_n 1, 1) := by decide +kernel
theorem dX9_init_146 : decode cX9_init 146 = .ok (.new 67, 3) := by decide +kernel
theorem dX9_init_149 : decode cX9_init 149 = .ok (.dup, 1) := by decide +kernel
theorem dX9_init_150 : decode cX9_init 150 = .ok (.invokespecial 73, 3) := by decide +kernel
theorem dX9_init_153 : decode cX9_init 153 = .ok (.aastore, 1) := by decide +kernel
theorem dX9_init_154 : decode cX9_init 154 = .ok (.iinc 1 1, 3) := by decide +kernel
theorem dX9_init_157 : decode cX9_init 157 = .ok (.goto (-22), 3) := by decide +kernel
theorem dX9_init_160 : decode cX9_init 160 = .ok (.aload_n 0, 1) := by decide +kernel
theorem dX9_init_161 : decode cX9_init 161 = .ok (.iconst 0, 1) := by decide +kernel
theorem dX9_init_162 : decode cX9_init 162 = .ok (.putfield 74, 3) := by decide +kernel
theorem dX9_init_165 : decode cX9_init 165 = .ok (.return_, 1) := by decide +kernel
theorem dX9_straw_0 : decode cX9_straw 0 = .ok (.iconst 0, 1) := by decide +kernel
theorem dX9_straw_1 : decode cX9_straw 1 = .ok (.iload_n 1, 1) := by decide +kernel
theorem dX9_straw_2 : decode cX9_straw 2 = .ok (.invokestatic 78, 3) := by decide +kernel
theorem dX9_straw_5 : decode cX9_straw 5 = .ok (.ifCond .eq 11, 3) := by decide +kernel
theorem dX9_straw_8 : decode cX9_straw 8 = .ok (.iconst 2, 1) := by decide +kernel
theorem dX9_straw_9 : decode cX9_straw 9 = .ok (.iload_n 2, 1) := by decide +kernel
theorem dX9_straw_10 : decode cX9_straw 10 = .ok (.invokestatic 78, 3) := by decide +kernel
theorem dX9_straw_13 : decode cX9_straw 13 = .ok (.ifCond .ne 5, 3) := by decide +kernel
theorem dX9_straw_16 : decode cX9_straw 16 = .ok (.iconst (-1), 1) := by decide +kernel
theorem dX9_straw_17 : decode cX9_straw 17 = .ok (.ireturn, 1) := by decide +kernel
theorem dX9_straw_18 : decode cX9_straw 18 = .ok (.aload_n 0, 1) := by decide +kernel
theorem dX9_straw_19 : decode cX9_straw 19 = .ok (.getfield 10, 3) := by decide +kernel
theorem dX9_straw_22 : decode cX9_straw 22 = .ok (.getfield 82, 3) := by decide +kernel
theorem dX9_straw_25 : decode cX9_straw 25 = .ok (.iconst 3, 1) := by decide +kernel
theorem dX9_straw_26 : decode cX9_straw 26 = .ok (.if_icmp .lt 6, 3) := by decide +kernel
theorem dX9_straw_29 : decode cX9_straw 29 = .ok (.bipush (-3), 2) := by decide +kernel
theorem dX9_straw_31 : decode cX9_straw 31 = .ok (.ireturn, 1) := by decide +kernel
theorem dX9_straw_32 : decode cX9_straw 32 = .ok (.aload_n 0, 1) := by decide +kernel
theorem dX9_straw_33 : decode cX9_straw 33 = .ok (.getfield 10, 3) := by decide +kernel
theorem dX9_straw_36 : decode cX9_straw 36 = .ok (.iload_n 1, 1) := by decide +kernel
theorem dX9_straw_37 : decode cX9_straw 37 = .ok (.getstatic 86, 3) := by decide +kernel
theorem dX9_straw_40 : decode cX9_straw 40 = .ok (.iconst 1, 1) := by decide +kernel
theorem dX9_straw_41 : decode cX9_straw 41 = .ok (.iaload, 1) := by decide +kernel
theorem dX9_straw_42 : decode cX9_straw 42 = .ok (.iload_n 2, 1) := by decide +kernel
theorem dX9_straw_43 : decode cX9_straw 43 = .ok (.invokevirtual 90, 3) := by decide +kernel
theorem dX9_straw_46 : decode cX9_straw 46 = .ok (.ireturn, 1) := by decide +kernel
theorem dX9_straws_0 : decode cX9_straws 0 = .ok (.iload_n 1, 1) := by decide +kernel
theorem dX9_straws_1 : decode cX9_straws 1 = .ok (.invokestatic 94, 3) := by decide +kernel
theorem dX9_straws_4 : decode cX9_straws 4 = .ok (.ifCond .eq 13, 3) := by decide +kernel
theorem dX9_straws_7 : decode cX9_straws 7 = .ok (.iload_n 3, 1) := by decide +kernel
theorem dX9_straws_8 : decode cX9_straws 8 = .ok (.iconst 1, 1) := by decide +kernel
theorem dX9_straws_9 : decode cX9_straws 9 = .ok (.if_icmp .lt 8, 3) := by decide +kernel
theorem dX9_straws_12 : decode cX9_straws 12 = .ok (.iload_n 3, 1) := by decide +kernel
theorem dX9_straws_13 : decode cX9_straws 13 = .ok (.iconst 3, 1) := by decide +kernel
theorem dX9_straws_14 : decode cX9_straws 14 = .ok (.if_icmp .le 5, 3) := by decide +kernel
theorem dX9_straws_17 : decode cX9_straws 17 = .ok (.iconst (-1), 1) := by decide +kernel
theorem dX9_straws_18 : decode cX9_straws 18 = .ok (.ireturn, 1) := by decide +kernel
theorem dX9_straws_19 : decode cX9_straws 19 = .ok (.aload_n 0, 1) := by decide +kernel
theorem dX9_straws_20 : decode cX9_straws 20 = .ok (.getfield 69, 3) := by decide +kernel
theorem dX9_straws_23 : decode cX9_straws 23 = .ok (.iload_n 1, 1) := by decide +kernel
theorem dX9_straws_24 : decode cX9_straws 24 = .ok (.aaload, 1) := by decide +kernel
theorem dX9_straws_25 : decode cX9_straws 25 = .ok (.astore 4, 2) := by decide +kernel
theorem dX9_straws_27 : decode cX9_straws 27 = .ok (.aload 4, 2) := by decide +kernel
theorem dX9_straws_29 : decode cX9_straws 29 = .ok (.getfield 98, 3) := by decide +kernel
theorem dX9_straws_32 : decode cX9_straws 32 = .ok (.bipush (-2), 2) := by decide +kernel
theorem dX9_straws_34 : decode cX9_straws 34 = .ok (.if_icmp .ne 5, 3) := by decide +kernel
theorem dX9_straws_37 : decode cX9_straws 37 = .ok (.iconst 0, 1) := by decide +kernel
theorem dX9_straws_38 : decode cX9_straws 38 = .ok (.ireturn, 1) := by decide +kernel
theorem dX9_straws_39 : decode cX9_straws 39 = .ok (.aload 4, 2) := by decide +kernel
theorem dX9_straws_41 : decode cX9_straws 41 = .ok (.getfield 98, 3) := by decide +kernel
theorem dX9_straws_44 : decode cX9_straws 44 = .ok (.ifCond .eq 6, 3) := by decide +kernel
theorem dX9_straws_47 : decode cX9_straws 47 = .ok (.bipush (-12), 2) := by decide +kernel
theorem dX9_straws_49 : decode cX9_straws 49 = .ok (.ireturn, 1) := by decide +kernel
theorem dX9_straws_50 : decode cX9_straws 50 = .ok (.iconst 0, 1) := by decide +kernel
theorem dX9_straws_51 : decode cX9_straws 51 = .ok (.istore 5, 2) := by decide +kernel
theorem dX9_straws_53 : decode cX9_straws 53 = .ok (.iload_n 2, 1) := by decide +kernel
theorem dX9_straws_54 : decode cX9_straws 54 = .ok (.istore 6, 2) := by decide +kernel
theorem dX9_straws_56 : decode cX9_straws 56 = .ok (.iload 5, 2) := by decide +kernel
theorem dX9_straws_58 : decode cX9_straws 58 = .ok (.iload_n 3, 1) := by decide +kernel
theorem dX9_straws_59 : decode cX9_straws 59 = .ok (.if_icmp .ge 34, 3) := by decide +kernel
theorem dX9_straws_62 : decode cX9_straws 62 = .ok (.aload 4, 2) := by decide +kernel
theorem dX9_straws_64 : decode cX9_straws 64 = .ok (.iload 6, 2) := by decide +kernel
theorem dX9_straws_66 : decode cX9_straws 66 = .ok (.iconst 3, 1) := by decide +kernel
theorem dX9_straws_67 : decode cX9_straws 67 = .ok (.invokevirtual 101, 3) := by decide +kernel
theorem dX9_straws_70 : decode cX9_straws 70 = .ok (.ifCond .eq 23, 3) := by decide +kernel
theorem dX9_straws_73 : decode cX9_straws 73 = .ok (.aload_n 0, 1) := by decide +kernel
theorem dX9_straws_74 : decode cX9_straws 74 = .ok (.aload 4, 2) := by decide +kernel
theorem dX9_straws_76 : decode cX9_straws 76 = .ok (.iload 6, 2) := by decide +kernel
theorem dX9_straws_78 : decode cX9_straws 78 = .ok (.invokevirtual 104, 3) := by decide +kernel
theorem dX9_straws_81 : decode cX9_straws 81 = .ok (.ifCond .eq 12, 3) := by decide +kernel
theorem dX9_straws_84 : decode cX9_straws 84 = .ok (.iinc 5 1, 3) := by decide +kernel
theorem dX9_straws_87 : decode cX9_straws 87 = .ok (.iinc 6 3, 3) := by decide +kernel
theorem dX9_straws_90 : decode cX9_straws 90 = .ok (.goto (-34), 3) := by decide +kernel
theorem dX9_straws_93 : decode cX9_straws 93 = .ok (.iload 5, 2) := by decide +kernel
theorem dX9_straws_95 : decode cX9_straws 95 = .ok (.ireturn, 1) := by decide +kernel
theorem dX9_mend_0 : decode cX9_mend 0 = .ok (.aload_n 0, 1) := by decide +kernel
theorem dX9_mend_1 : decode cX9_mend 1 = .ok (.getfield 10, 3) := by decide +kernel
theorem dX9_mend_4 : decode cX9_mend 4 = .ok (.iload_n 1, 1) := by decide +kernel
theorem dX9_mend_5 : decode cX9_mend 5 = .ok (.iload_n 2, 1) := by decide +kernel
theorem dX9_mend_6 : decode cX9_mend 6 = .ok (.invokevirtual 108, 3) := by decide +kernel
theorem dX9_mend_9 : decode cX9_mend 9 = .ok (.istore 4, 2) := by decide +kernel
theorem dX9_mend_11 : decode cX9_mend 11 = .ok (.iload 4, 2) := by decide +kernel
theorem dX9_mend_13 : decode cX9_mend 13 = .ok (.ifCond .lt 11, 3) := by decide +kernel
theorem dX9_mend_16 : decode cX9_mend 16 = .ok (.iload_n 2, 1) := by decide +kernel
theorem dX9_mend_17 : decode cX9_mend 17 = .ok (.iload_n 3, 1) := by decide +kernel
theorem dX9_mend_18 : decode cX9_mend 18 = .ok (.invokestatic 78, 3) := by decide +kernel
theorem dX9_mend_21 : decode cX9_mend 21 = .ok (.ifCond .ne 6, 3) := by decide +kernel
theorem dX9_mend_24 : decode cX9_mend 24 = .ok (.ldc 112, 2) := by decide +kernel
theorem dX9_mend_26 : decode cX9_mend 26 = .ok (.ireturn, 1) := by decide +kernel
theorem dX9_mend_27 : decode cX9_mend 27 = .ok (.aload_n 0, 1) := by decide +kernel
theorem dX9_mend_28 : decode cX9_mend 28 = .ok (.getfield 10, 3) := by decide +kernel
theorem dX9_mend_31 : decode cX9_mend 31 = .ok (.getfield 113, 3) := by decide +kernel
theorem dX9_mend_34 : decode cX9_mend 34 = .ok (.iload 4, 2) := by decide +kernel
theorem dX9_mend_36 : decode cX9_mend 36 = .ok (.iaload, 1) := by decide +kernel
theorem dX9_mend_37 : decode cX9_mend 37 = .ok (.istore 5, 2) := by decide +kernel
theorem dX9_mend_39 : decode cX9_mend 39 = .ok (.iload 5, 2) := by decide +kernel
theorem dX9_mend_41 : decode cX9_mend 41 = .ok (.iload_n 3, 1) := by decide +kernel
theorem dX9_mend_42 : decode cX9_mend 42 = .ok (.if_icmp .eq 26, 3) := by decide +kernel
theorem dX9_mend_45 : decode cX9_mend 45 = .ok (.aload_n 0, 1) := by decide +kernel
theorem dX9_mend_46 : decode cX9_mend 46 = .ok (.getfield 56, 3) := by decide +kernel
theorem dX9_mend_49 : decode cX9_mend 49 = .ok (.iload 4, 2) := by decide +kernel
theorem dX9_mend_51 : decode cX9_mend 51 = .ok (.iload 5, 2) := by decide +kernel
theorem dX9_mend_53 : decode cX9_mend 53 = .ok (.iload_n 3, 1) := by decide +kernel
theorem dX9_mend_54 : decode cX9_mend 54 = .ok (.invokevirtual 116, 3) := by decide +kernel
theorem dX9_mend_57 : decode cX9_mend 57 = .ok (.aload_n 0, 1) := by decide +kernel
theorem dX9_mend_58 : decode cX9_mend 58 = .ok (.getfield 10, 3) := by decide +kernel
theorem dX9_mend_61 : decode cX9_mend 61 = .ok (.getfield 113, 3) := by decide +kernel
theorem dX9_mend_64 : decode cX9_mend 64 = .ok (.iload 4, 2) := by decide +kernel
theorem dX9_mend_66 : decode cX9_mend 66 = .ok (.iload_n 3, 1) := by decide +kernel
theorem dX9_mend_67 : decode cX9_mend 67 = .ok (.iastore, 1) := by decide +kernel
theorem dX9_mend_68 : decode cX9_mend 68 = .ok (.iload 5, 2) := by decide +kernel
theorem dX9_mend_70 : decode cX9_mend 70 = .ok (.ireturn, 1) := by decide +kernel
theorem dX9_of_0 : decode cX9_of 0 = .ok (.aload_n 0, 1) := by decide +kernel
theorem dX9_of_1 : decode cX9_of 1 = .ok (.getfield 10, 3) := by decide +kernel
theorem dX9_of_4 : decode cX9_of 4 = .ok (.iload_n 1, 1) := by decide +kernel
theorem dX9_of_5 : decode cX9_of 5 = .ok (.iload_n 2, 1) := by decide +kernel
theorem dX9_of_6 : decode cX9_of 6 = .ok (.invokevirtual 108, 3) := by decide +kernel
theorem dX9_of_9 : decode cX9_of 9 = .ok (.istore_n 3, 1) := by decide +kernel
theorem dX9_of_10 : decode cX9_of 10 = .ok (.iload_n 3, 1) := by decide +kernel
theorem dX9_of_11 : decode cX9_of 11 = .ok (.ifCond .lt 13, 3) := by decide +kernel
theorem dX9_of_14 : decode cX9_of 14 = .ok (.aload_n 0, 1) := by decide +kernel
theorem dX9_of_15 : decode cX9_of 15 = .ok (.getfield 10, 3) := by decide +kernel
theorem dX9_of_18 : decode cX9_of 18 = .ok (.getfield 113, 3) := by decide +kernel
theorem dX9_of_21 : decode cX9_of 21 = .ok (.iload_n 3, 1) := by decide +kernel
theorem dX9_of_22 : decode cX9_of 22 = .ok (.iaload, 1) := by decide +kernel
theorem dX9_of_23 : decode cX9_of 23 = .ok (.ireturn, 1) := by decide +kernel
theorem dX9_of_24 : decode cX9_of 24 = .ok (.iload_n 1, 1) := by decide +kernel
theorem dX9_of_25 : decode cX9_of 25 = .ok (.ifCond .eq 6, 3) := by decide +kernel
theorem dX9_of_28 : decode cX9_of 28 = .ok (.ldc 112, 2) := by decide +kernel
theorem dX9_of_30 : decode cX9_of 30 = .ok (.ireturn, 1) := by decide +kernel
theorem dX9_of_31 : decode cX9_of 31 = .ok (.iload_n 2, 1) := by decide +kernel
theorem dX9_of_32 : decode cX9_of 32 = .ok (.tableswitch 52 12 14 #[28, 36, 44], 28) := by decide +kernel
theorem dX9_of_60 : decode cX9_of 60 = .ok (.aload_n 0, 1) := by decide +kernel
theorem dX9_of_61 : decode cX9_of 61 = .ok (.getfield 37, 3) := by decide +kernel
theorem dX9_of_64 : decode cX9_of 64 = .ok (.getfield 120, 3) := by decide +kernel
theorem dX9_of_67 : decode cX9_of 67 = .ok (.ireturn, 1) := by decide +kernel
theorem dX9_of_68 : decode cX9_of 68 = .ok (.aload_n 0, 1) := by decide +kernel
theorem dX9_of_69 : decode cX9_of 69 = .ok (.getfield 37, 3) := by decide +kernel
theorem dX9_of_72 : decode cX9_of 72 = .ok (.getfield 123, 3) := by decide +kernel
theorem dX9_of_75 : decode cX9_of 75 = .ok (.ireturn, 1) := by decide +kernel
theorem dX9_of_76 : decode cX9_of 76 = .ok (.aload_n 0, 1) := by decide +kernel
theorem dX9_of_77 : decode cX9_of 77 = .ok (.getfield 37, 3) := by decide +kernel
theorem dX9_of_80 : decode cX9_of 80 = .ok (.getfield 126, 3) := by decide +kernel
theorem dX9_of_83 : decode cX9_of 83 = .ok (.ireturn, 1) := by decide +kernel
theorem dX9_of_84 : decode cX9_of 84 = .ok (.ldc 112, 2) := by decide +kernel
theorem dX9_of_86 : decode cX9_of 86 = .ok (.ireturn, 1) := by decide +kernel
theorem dX9_feed_0 : decode cX9_feed 0 = .ok (.iload_n 1, 1) := by decide +kernel
theorem dX9_feed_1 : decode cX9_feed 1 = .ok (.ifCond .lt 10, 3) := by decide +kernel
theorem dX9_feed_4 : decode cX9_feed 4 = .ok (.iload_n 1, 1) := by decide +kernel
theorem dX9_feed_5 : decode cX9_feed 5 = .ok (.sipush 255, 3) := by decide +kernel
theorem dX9_feed_8 : decode cX9_feed 8 = .ok (.if_icmp .le 5, 3) := by decide +kernel
theorem dX9_feed_11 : decode cX9_feed 11 = .ok (.iconst (-1), 1) := by decide +kernel
theorem dX9_feed_12 : decode cX9_feed 12 = .ok (.ireturn, 1) := by decide +kernel
theorem dX9_feed_13 : decode cX9_feed 13 = .ok (.aload_n 0, 1) := by decide +kernel
theorem dX9_feed_14 : decode cX9_feed 14 = .ok (.getfield 19, 3) := by decide +kernel
theorem dX9_feed_17 : decode cX9_feed 17 = .ok (.iload_n 1, 1) := by decide +kernel
theorem dX9_feed_18 : decode cX9_feed 18 = .ok (.invokevirtual 129, 3) := by decide +kernel
theorem dX9_feed_21 : decode cX9_feed 21 = .ok (.ifCond .eq 13, 3) := by decide +kernel
theorem dX9_feed_24 : decode cX9_feed 24 = .ok (.aload_n 0, 1) := by decide +kernel
theorem dX9_feed_25 : decode cX9_feed 25 = .ok (.getfield 19, 3) := by decide +kernel
theorem dX9_feed_28 : decode cX9_feed 28 = .ok (.getfield 131, 3) := by decide +kernel
theorem dX9_feed_31 : decode cX9_feed 31 = .ok (.goto 5, 3) := by decide +kernel
theorem dX9_feed_34 : decode cX9_feed 34 = .ok (.bipush (-3), 2) := by decide +kernel
theorem dX9_feed_36 : decode cX9_feed 36 = .ok (.ireturn, 1) := by decide +kernel
theorem dX9_law_0 : decode cX9_law 0 = .ok (.aload_n 0, 1) := by decide +kernel
theorem dX9_law_1 : decode cX9_law 1 = .ok (.getfield 19, 3) := by decide +kernel
theorem dX9_law_4 : decode cX9_law 4 = .ok (.invokevirtual 134, 3) := by decide +kernel
theorem dX9_law_7 : decode cX9_law 7 = .ok (.istore_n 1, 1) := by decide +kernel
theorem dX9_law_8 : decode cX9_law 8 = .ok (.aload_n 0, 1) := by decide +kernel
theorem dX9_law_9 : decode cX9_law 9 = .ok (.getfield 19, 3) := by decide +kernel
theorem dX9_law_12 : decode cX9_law 12 = .ok (.iconst 0, 1) := by decide +kernel
theorem dX9_law_13 : decode cX9_law 13 = .ok (.putfield 131, 3) := by decide +kernel
theorem dX9_law_16 : decode cX9_law 16 = .ok (.iload_n 1, 1) := by decide +kernel
theorem dX9_law_17 : decode cX9_law 17 = .ok (.ifCond .lt 8, 3) := by decide +kernel
theorem dX9_law_20 : decode cX9_law 20 = .ok (.bipush (-100), 2) := by decide +kernel
theorem dX9_law_22 : decode cX9_law 22 = .ok (.iload_n 1, 1) := by decide +kernel
theorem dX9_law_23 : decode cX9_law 23 = .ok (.isub, 1) := by decide +kernel
theorem dX9_law_24 : decode cX9_law 24 = .ok (.ireturn, 1) := by decide +kernel
theorem dX9_law_25 : decode cX9_law 25 = .ok (.aload_n 0, 1) := by decide +kernel
theorem dX9_law_26 : decode cX9_law 26 = .ok (.getfield 19, 3) := by decide +kernel
theorem dX9_law_29 : decode cX9_law 29 = .ok (.getfield 138, 3) := by decide +kernel
theorem dX9_law_32 : decode cX9_law 32 = .ok (.astore_n 2, 1) := by decide +kernel
theorem dX9_law_33 : decode cX9_law 33 = .ok (.aload_n 0, 1) := by decide +kernel
theorem dX9_law_34 : decode cX9_law 34 = .ok (.getfield 19, 3) := by decide +kernel
theorem dX9_law_37 : decode cX9_law 37 = .ok (.aload_n 0, 1) := by decide +kernel
theorem dX9_law_38 : decode cX9_law 38 = .ok (.getfield 28, 3) := by decide +kernel
theorem dX9_law_41 : decode cX9_law 41 = .ok (.getfield 142, 3) := by decide +kernel
theorem dX9_law_44 : decode cX9_law 44 = .ok (.putfield 138, 3) := by decide +kernel
theorem dX9_law_47 : decode cX9_law 47 = .ok (.aload_n 0, 1) := by decide +kernel
theorem dX9_law_48 : decode cX9_law 48 = .ok (.getfield 28, 3) := by decide +kernel
theorem dX9_law_51 : decode cX9_law 51 = .ok (.aload_n 2, 1) := by decide +kernel
theorem dX9_law_52 : decode cX9_law 52 = .ok (.putfield 142, 3) := by decide +kernel
theorem dX9_law_55 : decode cX9_law 55 = .ok (.iconst 1, 1) := by decide +kernel
theorem dX9_law_56 : decode cX9_law 56 = .ok (.ireturn, 1) := by decide +kernel
theorem dX9_wants_0 : decode cX9_wants 0 = .ok (.aload_n 0, 1) := by decide +kernel
theorem dX9_wants_1 : decode cX9_wants 1 = .ok (.iload_n 1, 1) := by decide +kernel
theorem dX9_wants_2 : decode cX9_wants 2 = .ok (.invokevirtual 143, 3) := by decide +kernel
theorem dX9_wants_5 : decode cX9_wants 5 = .ok (.ifCond .eq 23, 3) := by decide +kernel
theorem dX9_wants_8 : decode cX9_wants 8 = .ok (.iload_n 2, 1) := by decide +kernel
theorem dX9_wants_9 : decode cX9_wants 9 = .ok (.sipush 999, 3) := by decide +kernel
theorem dX9_wants_12 : decode cX9_wants 12 = .ok (.invokestatic 146, 3) := by decide +kernel
theorem dX9_wants_15 : decode cX9_wants 15 = .ok (.ifCond .eq 13, 3) := by decide +kernel
theorem dX9_wants_18 : decode cX9_wants 18 = .ok (.iload_n 3, 1) := by decide +kernel
theorem dX9_wants_19 : decode cX9_wants 19 = .ok (.sipush 999, 3) := by decide +kernel
theorem dX9_wants_22 : decode cX9_wants 22 = .ok (.invokestatic 146, 3) := by decide +kernel
theorem dX9_wants_25 : decode cX9_wants 25 = .ok (.ifCond .ne 5, 3) := by decide +kernel
theorem dX9_wants_28 : decode cX9_wants 28 = .ok (.iconst (-1), 1) := by decide +kernel
theorem dX9_wants_29 : decode cX9_wants 29 = .ok (.ireturn, 1) := by decide +kernel
theorem dX9_wants_30 : decode cX9_wants 30 = .ok (.aload_n 0, 1) := by decide +kernel
theorem dX9_wants_31 : decode cX9_wants 31 = .ok (.getfield 28, 3) := by decide +kernel
theorem dX9_wants_34 : decode cX9_wants 34 = .ok (.iload_n 1, 1) := by decide +kernel
theorem dX9_wants_35 : decode cX9_wants 35 = .ok (.iload_n 2, 1) := by decide +kernel
theorem dX9_wants_36 : decode cX9_wants 36 = .ok (.iload_n 3, 1) := by decide +kernel
theorem dX9_wants_37 : decode cX9_wants 37 = .ok (.invokevirtual 149, 3) := by decide +kernel
theorem dX9_wants_40 : decode cX9_wants 40 = .ok (.ireturn, 1) := by decide +kernel
theorem dX9_glass_0 : decode cX9_glass 0 = .ok (.iload_n 1, 1) := by decide +kernel
theorem dX9_glass_1 : decode cX9_glass 1 = .ok (.sipush 999, 3) := by decide +kernel
theorem dX9_glass_4 : decode cX9_glass 4 = .ok (.invokestatic 146, 3) := by decide +kernel
theorem dX9_glass_7 : decode cX9_glass 7 = .ok (.ifCond .eq 19, 3) := by decide +kernel
theorem dX9_glass_10 : decode cX9_glass 10 = .ok (.aload_n 0, 1) := by decide +kernel
theorem dX9_glass_11 : decode cX9_glass 11 = .ok (.iload_n 2, 1) := by decide +kernel
theorem dX9_glass_12 : decode cX9_glass 12 = .ok (.invokevirtual 143, 3) := by decide +kernel
theorem dX9_glass_15 : decode cX9_glass 15 = .ok (.ifCond .eq 11, 3) := by decide +kernel
theorem dX9_glass_18 : decode cX9_glass 18 = .ok (.iload_n 3, 1) := by decide +kernel
theorem dX9_glass_19 : decode cX9_glass 19 = .ok (.iconst 2, 1) := by decide +kernel
theorem dX9_glass_20 : decode cX9_glass 20 = .ok (.invokestatic 146, 3) := by decide +kernel
theorem dX9_glass_23 : decode cX9_glass 23 = .ok (.ifCond .ne 5, 3) := by decide +kernel
theorem dX9_glass_26 : decode cX9_glass 26 = .ok (.iconst (-1), 1) := by decide +kernel
theorem dX9_glass_27 : decode cX9_glass 27 = .ok (.ireturn, 1) := by decide +kernel
theorem dX9_glass_28 : decode cX9_glass 28 = .ok (.aload_n 0, 1) := by decide +kernel
theorem dX9_glass_29 : decode cX9_glass 29 = .ok (.getfield 49, 3) := by decide +kernel
theorem dX9_glass_32 : decode cX9_glass 32 = .ok (.iload_n 1, 1) := by decide +kernel
theorem dX9_glass_33 : decode cX9_glass 33 = .ok (.invokevirtual 152, 3) := by decide +kernel
theorem dX9_glass_36 : decode cX9_glass 36 = .ok (.iload_n 2, 1) := by decide +kernel
theorem dX9_glass_37 : decode cX9_glass 37 = .ok (.iload_n 3, 1) := by decide +kernel
theorem dX9_glass_38 : decode cX9_glass 38 = .ok (.invokevirtual 156, 3) := by decide +kernel
theorem dX9_glass_41 : decode cX9_glass 41 = .ok (.ireturn, 1) := by decide +kernel
theorem dX9_level_0 : decode cX9_level 0 = .ok (.iload_n 1, 1) := by decide +kernel
theorem dX9_level_1 : decode cX9_level 1 = .ok (.sipush 999, 3) := by decide +kernel
theorem dX9_level_4 : decode cX9_level 4 = .ok (.invokestatic 146, 3) := by decide +kernel
theorem dX9_level_7 : decode cX9_level 7 = .ok (.ifCond .eq 11, 3) := by decide +kernel
theorem dX9_level_10 : decode cX9_level 10 = .ok (.iload_n 2, 1) := by decide +kernel
theorem dX9_level_11 : decode cX9_level 11 = .ok (.iconst 1, 1) := by decide +kernel
theorem dX9_level_12 : decode cX9_level 12 = .ok (.invokestatic 146, 3) := by decide +kernel
theorem dX9_level_15 : decode cX9_level 15 = .ok (.ifCond .ne 5, 3) := by decide +kernel
theorem dX9_level_18 : decode cX9_level 18 = .ok (.iconst (-1), 1) := by decide +kernel
theorem dX9_level_19 : decode cX9_level 19 = .ok (.ireturn, 1) := by decide +kernel
theorem dX9_level_20 : decode cX9_level 20 = .ok (.aload_n 0, 1) := by decide +kernel
theorem dX9_level_21 : decode cX9_level 21 = .ok (.getfield 49, 3) := by decide +kernel
theorem dX9_level_24 : decode cX9_level 24 = .ok (.iload_n 1, 1) := by decide +kernel
theorem dX9_level_25 : decode cX9_level 25 = .ok (.invokevirtual 152, 3) := by decide +kernel
theorem dX9_level_28 : decode cX9_level 28 = .ok (.astore_n 3, 1) := by decide +kernel
theorem dX9_level_29 : decode cX9_level 29 = .ok (.iload_n 2, 1) := by decide +kernel
theorem dX9_level_30 : decode cX9_level 30 = .ok (.ifCond .ne 10, 3) := by decide +kernel
theorem dX9_level_33 : decode cX9_level 33 = .ok (.aload_n 3, 1) := by decide +kernel
theorem dX9_level_34 : decode cX9_level 34 = .ok (.getfield 120, 3) := by decide +kernel
theorem dX9_level_37 : decode cX9_level 37 = .ok (.goto 7, 3) := by decide +kernel
theorem dX9_level_40 : decode cX9_level 40 = .ok (.aload_n 3, 1) := by decide +kernel
theorem dX9_level_41 : decode cX9_level 41 = .ok (.getfield 123, 3) := by decide +kernel
theorem dX9_level_44 : decode cX9_level 44 = .ok (.ireturn, 1) := by decide +kernel
theorem dX9_empty_0 : decode cX9_empty 0 = .ok (.aload_n 0, 1) := by decide +kernel
theorem dX9_empty_1 : decode cX9_empty 1 = .ok (.getfield 49, 3) := by decide +kernel
theorem dX9_empty_4 : decode cX9_empty 4 = .ok (.invokevirtual 159, 3) := by decide +kernel
theorem dX9_empty_7 : decode cX9_empty 7 = .ok (.ireturn, 1) := by decide +kernel
theorem dX9_more_0 : decode cX9_more 0 = .ok (.iload_n 1, 1) := by decide +kernel
theorem dX9_more_1 : decode cX9_more 1 = .ok (.sipush 999, 3) := by decide +kernel
theorem dX9_more_4 : decode cX9_more 4 = .ok (.invokestatic 146, 3) := by decide +kernel
theorem dX9_more_7 : decode cX9_more 7 = .ok (.ifCond .eq 11, 3) := by decide +kernel
theorem dX9_more_10 : decode cX9_more 10 = .ok (.iload_n 2, 1) := by decide +kernel
theorem dX9_more_11 : decode cX9_more 11 = .ok (.iconst 1, 1) := by decide +kernel
theorem dX9_more_12 : decode cX9_more 12 = .ok (.invokestatic 146, 3) := by decide +kernel
theorem dX9_more_15 : decode cX9_more 15 = .ok (.ifCond .ne 5, 3) := by decide +kernel
theorem dX9_more_18 : decode cX9_more 18 = .ok (.iconst (-1), 1) := by decide +kernel
theorem dX9_more_19 : decode cX9_more 19 = .ok (.ireturn, 1) := by decide +kernel
theorem dX9_more_20 : decode cX9_more 20 = .ok (.aload_n 0, 1) := by decide +kernel
theorem dX9_more_21 : decode cX9_more 21 = .ok (.getfield 10, 3) := by decide +kernel
theorem dX9_more_24 : decode cX9_more 24 = .ok (.getfield 82, 3) := by decide +kernel
theorem dX9_more_27 : decode cX9_more 27 = .ok (.ifCond .ne 14, 3) := by decide +kernel
theorem dX9_more_30 : decode cX9_more 30 = .ok (.iload_n 2, 1) := by decide +kernel
theorem dX9_more_31 : decode cX9_more 31 = .ok (.ifCond .ne 8, 3) := by decide +kernel
theorem dX9_more_34 : decode cX9_more 34 = .ok (.bipush (-2), 2) := by decide +kernel
theorem dX9_more_36 : decode cX9_more 36 = .ok (.goto 4, 3) := by decide +kernel
theorem dX9_more_39 : decode cX9_more 39 = .ok (.iconst 0, 1) := by decide +kernel
theorem dX9_more_40 : decode cX9_more 40 = .ok (.ireturn, 1) := by decide +kernel
theorem dX9_more_41 : decode cX9_more 41 = .ok (.aload_n 0, 1) := by decide +kernel
theorem dX9_more_42 : decode cX9_more 42 = .ok (.getfield 49, 3) := by decide +kernel
theorem dX9_more_45 : decode cX9_more 45 = .ok (.iload_n 1, 1) := by decide +kernel
theorem dX9_more_46 : decode cX9_more 46 = .ok (.invokevirtual 152, 3) := by decide +kernel
theorem dX9_more_49 : decode cX9_more 49 = .ok (.astore_n 3, 1) := by decide +kernel
theorem dX9_more_50 : decode cX9_more 50 = .ok (.aload_n 3, 1) := by decide +kernel
theorem dX9_more_51 : decode cX9_more 51 = .ok (.invokevirtual 162, 3) := by decide +kernel
theorem dX9_more_54 : decode cX9_more 54 = .ok (.istore 4, 2) := by decide +kernel
theorem dX9_more_56 : decode cX9_more 56 = .ok (.iload_n 2, 1) := by decide +kernel
theorem dX9_more_57 : decode cX9_more 57 = .ok (.ifCond .ne 8, 3) := by decide +kernel
theorem dX9_more_60 : decode cX9_more 60 = .ok (.iload 4, 2) := by decide +kernel
theorem dX9_more_62 : decode cX9_more 62 = .ok (.goto 15, 3) := by decide +kernel
theorem dX9_more_65 : decode cX9_more 65 = .ok (.aload_n 3, 1) := by decide +kernel
theorem dX9_more_66 : decode cX9_more 66 = .ok (.getfield 165, 3) := by decide +kernel
theorem dX9_more_69 : decode cX9_more 69 = .ok (.iload 4, 2) := by decide +kernel
theorem dX9_more_71 : decode cX9_more 71 = .ok (.iaload, 1) := by decide +kernel
theorem dX9_more_72 : decode cX9_more 72 = .ok (.aload_n 3, 1) := by decide +kernel
theorem dX9_more_73 : decode cX9_more 73 = .ok (.invokevirtual 168, 3) := by decide +kernel
theorem dX9_more_76 : decode cX9_more 76 = .ok (.isub, 1) := by decide +kernel
theorem dX9_more_77 : decode cX9_more 77 = .ok (.ireturn, 1) := by decide +kernel
theorem dX9_turns_0 : decode cX9_turns 0 = .ok (.iload_n 2, 1) := by decide +kernel
theorem dX9_turns_1 : decode cX9_turns 1 = .ok (.ifCond .lt 21, 3) := by decide +kernel
theorem dX9_turns_4 : decode cX9_turns 4 = .ok (.iload_n 1, 1) := by decide +kernel
theorem dX9_turns_5 : decode cX9_turns 5 = .ok (.sipush 999, 3) := by decide +kernel
theorem dX9_turns_8 : decode cX9_turns 8 = .ok (.invokestatic 146, 3) := by decide +kernel
theorem dX9_turns_11 : decode cX9_turns 11 = .ok (.ifCond .eq 11, 3) := by decide +kernel
theorem dX9_turns_14 : decode cX9_turns 14 = .ok (.aload_n 0, 1) := by decide +kernel
theorem dX9_turns_15 : decode cX9_turns 15 = .ok (.iload_n 3, 1) := by decide +kernel
theorem dX9_turns_16 : decode cX9_turns 16 = .ok (.invokevirtual 143, 3) := by decide +kernel
theorem dX9_turns_19 : decode cX9_turns 19 = .ok (.ifCond .ne 5, 3) := by decide +kernel
theorem dX9_turns_22 : decode cX9_turns 22 = .ok (.iconst (-1), 1) := by decide +kernel
theorem dX9_turns_23 : decode cX9_turns 23 = .ok (.ireturn, 1) := by decide +kernel
theorem dX9_turns_24 : decode cX9_turns 24 = .ok (.iload_n 2, 1) := by decide +kernel
theorem dX9_turns_25 : decode cX9_turns 25 = .ok (.bipush 10, 2) := by decide +kernel
theorem dX9_turns_27 : decode cX9_turns 27 = .ok (.idiv, 1) := by decide +kernel
theorem dX9_turns_28 : decode cX9_turns 28 = .ok (.istore 4, 2) := by decide +kernel
theorem dX9_turns_30 : decode cX9_turns 30 = .ok (.iload_n 2, 1) := by decide +kernel
theorem dX9_turns_31 : decode cX9_turns 31 = .ok (.bipush 10, 2) := by decide +kernel
theorem dX9_turns_33 : decode cX9_turns 33 = .ok (.irem, 1) := by decide +kernel
theorem dX9_turns_34 : decode cX9_turns 34 = .ok (.istore 5, 2) := by decide +kernel
theorem dX9_turns_36 : decode cX9_turns 36 = .ok (.iload 4, 2) := by decide +kernel
theorem dX9_turns_38 : decode cX9_turns 38 = .ok (.iconst 1, 1) := by decide +kernel
theorem dX9_turns_39 : decode cX9_turns 39 = .ok (.if_icmp .lt 19, 3) := by decide +kernel
theorem dX9_turns_42 : decode cX9_turns 42 = .ok (.iload 4, 2) := by decide +kernel
theorem dX9_turns_44 : decode cX9_turns 44 = .ok (.bipush 60, 2) := by decide +kernel
theorem dX9_turns_46 : decode cX9_turns 46 = .ok (.if_icmp .gt 12, 3) := by decide +kernel
theorem dX9_turns_49 : decode cX9_turns 49 = .ok (.aload_n 0, 1) := by decide +kernel
theorem dX9_turns_50 : decode cX9_turns 50 = .ok (.iload 5, 2) := by decide +kernel
theorem dX9_turns_52 : decode cX9_turns 52 = .ok (.invokevirtual 143, 3) := by decide +kernel
theorem dX9_turns_55 : decode cX9_turns 55 = .ok (.ifCond .ne 5, 3) := by decide +kernel
theorem dX9_turns_58 : decode cX9_turns 58 = .ok (.iconst (-1), 1) := by decide +kernel
theorem dX9_turns_59 : decode cX9_turns 59 = .ok (.ireturn, 1) := by decide +kernel
theorem dX9_turns_60 : decode cX9_turns 60 = .ok (.aload_n 0, 1) := by decide +kernel
theorem dX9_turns_61 : decode cX9_turns 61 = .ok (.getfield 49, 3) := by decide +kernel
theorem dX9_turns_64 : decode cX9_turns 64 = .ok (.iload_n 1, 1) := by decide +kernel
theorem dX9_turns_65 : decode cX9_turns 65 = .ok (.iload 4, 2) := by decide +kernel
theorem dX9_turns_67 : decode cX9_turns 67 = .ok (.iload 5, 2) := by decide +kernel
theorem dX9_turns_69 : decode cX9_turns 69 = .ok (.invokevirtual 171, 3) := by decide +kernel
theorem dX9_turns_72 : decode cX9_turns 72 = .ok (.getfield 165, 3) := by decide +kernel
theorem dX9_turns_75 : decode cX9_turns 75 = .ok (.iload_n 3, 1) := by decide +kernel
theorem dX9_turns_76 : decode cX9_turns 76 = .ok (.iaload, 1) := by decide +kernel
theorem dX9_turns_77 : decode cX9_turns 77 = .ok (.ireturn, 1) := by decide +kernel
theorem dX9_mark_0 : decode cX9_mark 0 = .ok (.aload_n 0, 1) := by decide +kernel
theorem dX9_mark_1 : decode cX9_mark 1 = .ok (.iload_n 1, 1) := by decide +kernel
theorem dX9_mark_2 : decode cX9_mark 2 = .ok (.invokevirtual 175, 3) := by decide +kernel
theorem dX9_mark_5 : decode cX9_mark 5 = .ok (.ifCond .eq 21, 3) := by decide +kernel
theorem dX9_mark_8 : decode cX9_mark 8 = .ok (.aload_n 0, 1) := by decide +kernel
theorem dX9_mark_9 : decode cX9_mark 9 = .ok (.getfield 49, 3) := by decide +kernel
theorem dX9_mark_12 : decode cX9_mark 12 = .ok (.iload_n 1, 1) := by decide +kernel
theorem dX9_mark_13 : decode cX9_mark 13 = .ok (.bipush 10, 2) := by decide +kernel
theorem dX9_mark_15 : decode cX9_mark 15 = .ok (.idiv, 1) := by decide +kernel
theorem dX9_mark_16 : decode cX9_mark 16 = .ok (.iload_n 1, 1) := by decide +kernel
theorem dX9_mark_17 : decode cX9_mark 17 = .ok (.bipush 10, 2) := by decide +kernel
theorem dX9_mark_19 : decode cX9_mark 19 = .ok (.irem, 1) := by decide +kernel
theorem dX9_mark_20 : decode cX9_mark 20 = .ok (.invokevirtual 178, 3) := by decide +kernel
theorem dX9_mark_23 : decode cX9_mark 23 = .ok (.goto 4, 3) := by decide +kernel
theorem dX9_mark_26 : decode cX9_mark 26 = .ok (.iconst (-1), 1) := by decide +kernel
theorem dX9_mark_27 : decode cX9_mark 27 = .ok (.ireturn, 1) := by decide +kernel
theorem dX9_halves_0 : decode cX9_halves 0 = .ok (.aload_n 0, 1) := by decide +kernel
theorem dX9_halves_1 : decode cX9_halves 1 = .ok (.iload_n 1, 1) := by decide +kernel
theorem dX9_halves_2 : decode cX9_halves 2 = .ok (.invokevirtual 175, 3) := by decide +kernel
theorem dX9_halves_5 : decode cX9_halves 5 = .ok (.ifCond .eq 11, 3) := by decide +kernel
theorem dX9_halves_8 : decode cX9_halves 8 = .ok (.iload_n 2, 1) := by decide +kernel
theorem dX9_halves_9 : decode cX9_halves 9 = .ok (.iconst 2, 1) := by decide +kernel
theorem dX9_halves_10 : decode cX9_halves 10 = .ok (.invokestatic 146, 3) := by decide +kernel
theorem dX9_halves_13 : decode cX9_halves 13 = .ok (.ifCond .ne 5, 3) := by decide +kernel
theorem dX9_halves_16 : decode cX9_halves 16 = .ok (.iconst (-1), 1) := by decide +kernel
theorem dX9_halves_17 : decode cX9_halves 17 = .ok (.ireturn, 1) := by decide +kernel
theorem dX9_halves_18 : decode cX9_halves 18 = .ok (.aload_n 0, 1) := by decide +kernel
theorem dX9_halves_19 : decode cX9_halves 19 = .ok (.getfield 49, 3) := by decide +kernel
theorem dX9_halves_22 : decode cX9_halves 22 = .ok (.iload_n 1, 1) := by decide +kernel
theorem dX9_halves_23 : decode cX9_halves 23 = .ok (.bipush 10, 2) := by decide +kernel
theorem dX9_halves_25 : decode cX9_halves 25 = .ok (.idiv, 1) := by decide +kernel
theorem dX9_halves_26 : decode cX9_halves 26 = .ok (.iload_n 1, 1) := by decide +kernel
theorem dX9_halves_27 : decode cX9_halves 27 = .ok (.bipush 10, 2) := by decide +kernel
theorem dX9_halves_29 : decode cX9_halves 29 = .ok (.irem, 1) := by decide +kernel
theorem dX9_halves_30 : decode cX9_halves 30 = .ok (.iload_n 2, 1) := by decide +kernel
theorem dX9_halves_31 : decode cX9_halves 31 = .ok (.invokevirtual 181, 3) := by decide +kernel
theorem dX9_halves_34 : decode cX9_halves 34 = .ok (.ireturn, 1) := by decide +kernel
theorem dX9_reachFor_0 : decode cX9_reachFor 0 = .ok (.aload_n 0, 1) := by decide +kernel
theorem dX9_reachFor_1 : decode cX9_reachFor 1 = .ok (.iload_n 1, 1) := by decide +kernel
theorem dX9_reachFor_2 : decode cX9_reachFor 2 = .ok (.invokevirtual 143, 3) := by decide +kernel
theorem dX9_reachFor_5 : decode cX9_reachFor 5 = .ok (.ifCond .eq 20, 3) := by decide +kernel
theorem dX9_reachFor_8 : decode cX9_reachFor 8 = .ok (.iload_n 2, 1) := by decide +kernel
theorem dX9_reachFor_9 : decode cX9_reachFor 9 = .ok (.bipush 60, 2) := by decide +kernel
theorem dX9_reachFor_11 : decode cX9_reachFor 11 = .ok (.invokestatic 146, 3) := by decide +kernel
theorem dX9_reachFor_14 : decode cX9_reachFor 14 = .ok (.ifCond .eq 11, 3) := by decide +kernel
theorem dX9_reachFor_17 : decode cX9_reachFor 17 = .ok (.iload_n 3, 1) := by decide +kernel
theorem dX9_reachFor_18 : decode cX9_reachFor 18 = .ok (.iconst 3, 1) := by decide +kernel
theorem dX9_reachFor_19 : decode cX9_reachFor 19 = .ok (.invokestatic 146, 3) := by decide +kernel
theorem dX9_reachFor_22 : decode cX9_reachFor 22 = .ok (.ifCond .ne 5, 3) := by decide +kernel
theorem dX9_reachFor_25 : decode cX9_reachFor 25 = .ok (.iconst (-1), 1) := by decide +kernel
theorem dX9_reachFor_26 : decode cX9_reachFor 26 = .ok (.ireturn, 1) := by decide +kernel
theorem dX9_reachFor_27 : decode cX9_reachFor 27 = .ok (.sipush 999, 3) := by decide +kernel
theorem dX9_reachFor_30 : decode cX9_reachFor 30 = .ok (.aload_n 0, 1) := by decide +kernel
theorem dX9_reachFor_31 : decode cX9_reachFor 31 = .ok (.getfield 37, 3) := by decide +kernel
theorem dX9_reachFor_34 : decode cX9_reachFor 34 = .ok (.getfield 120, 3) := by decide +kernel
theorem dX9_reachFor_37 : decode cX9_reachFor 37 = .ok (.aload_n 0, 1) := by decide +kernel
theorem dX9_reachFor_38 : decode cX9_reachFor 38 = .ok (.getfield 37, 3) := by decide +kernel
theorem dX9_reachFor_41 : decode cX9_reachFor 41 = .ok (.getfield 123, 3) := by decide +kernel
theorem dX9_reachFor_44 : decode cX9_reachFor 44 = .ok (.iadd, 1) := by decide +kernel
theorem dX9_reachFor_45 : decode cX9_reachFor 45 = .ok (.invokestatic 184, 3) := by decide +kernel
theorem dX9_reachFor_48 : decode cX9_reachFor 48 = .ok (.istore 4, 2) := by decide +kernel
theorem dX9_reachFor_50 : decode cX9_reachFor 50 = .ok (.aload_n 0, 1) := by decide +kernel
theorem dX9_reachFor_51 : decode cX9_reachFor 51 = .ok (.getfield 49, 3) := by decide +kernel
theorem dX9_reachFor_54 : decode cX9_reachFor 54 = .ok (.iload_n 1, 1) := by decide +kernel
theorem dX9_reachFor_55 : decode cX9_reachFor 55 = .ok (.iconst 2, 1) := by decide +kernel
theorem dX9_reachFor_56 : decode cX9_reachFor 56 = .ok (.iload 4, 2) := by decide +kernel
theorem dX9_reachFor_58 : decode cX9_reachFor 58 = .ok (.iload_n 2, 1) := by decide +kernel
theorem dX9_reachFor_59 : decode cX9_reachFor 59 = .ok (.iload_n 3, 1) := by decide +kernel
theorem dX9_reachFor_60 : decode cX9_reachFor 60 = .ok (.iconst 2, 1) := by decide +kernel
theorem dX9_reachFor_61 : decode cX9_reachFor 61 = .ok (.if_icmp .lt 7, 3) := by decide +kernel
theorem dX9_reachFor_64 : decode cX9_reachFor 64 = .ok (.iconst 1, 1) := by decide +kernel
theorem dX9_reachFor_65 : decode cX9_reachFor 65 = .ok (.goto 4, 3) := by decide +kernel
theorem dX9_reachFor_68 : decode cX9_reachFor 68 = .ok (.iconst 0, 1) := by decide +kernel
theorem dX9_reachFor_69 : decode cX9_reachFor 69 = .ok (.invokevirtual 189, 3) := by decide +kernel
theorem dX9_reachFor_72 : decode cX9_reachFor 72 = .ok (.istore 5, 2) := by decide +kernel
theorem dX9_reachFor_74 : decode cX9_reachFor 74 = .ok (.iload_n 3, 1) := by decide +kernel
theorem dX9_reachFor_75 : decode cX9_reachFor 75 = .ok (.iconst 2, 1) := by decide +kernel
theorem dX9_reachFor_76 : decode cX9_reachFor 76 = .ok (.irem, 1) := by decide +kernel
theorem dX9_reachFor_77 : decode cX9_reachFor 77 = .ok (.ifCond .ne 8, 3) := by decide +kernel
theorem dX9_reachFor_80 : decode cX9_reachFor 80 = .ok (.iload 5, 2) := by decide +kernel
theorem dX9_reachFor_82 : decode cX9_reachFor 82 = .ok (.goto 10, 3) := by decide +kernel
theorem dX9_reachFor_85 : decode cX9_reachFor 85 = .ok (.aload_n 0, 1) := by decide +kernel
theorem dX9_reachFor_86 : decode cX9_reachFor 86 = .ok (.getfield 49, 3) := by decide +kernel
theorem dX9_reachFor_89 : decode cX9_reachFor 89 = .ok (.getfield 193, 3) := by decide +kernel
theorem dX9_reachFor_92 : decode cX9_reachFor 92 = .ok (.ireturn, 1) := by decide +kernel
theorem dX9_slow_0 : decode cX9_slow 0 = .ok (.aload_n 0, 1) := by decide +kernel
theorem dX9_slow_1 : decode cX9_slow 1 = .ok (.iload_n 1, 1) := by decide +kernel
theorem dX9_slow_2 : decode cX9_slow 2 = .ok (.invokevirtual 143, 3) := by decide +kernel
theorem dX9_slow_5 : decode cX9_slow 5 = .ok (.ifCond .eq 12, 3) := by decide +kernel
theorem dX9_slow_8 : decode cX9_slow 8 = .ok (.iload_n 2, 1) := by decide +kernel
theorem dX9_slow_9 : decode cX9_slow 9 = .ok (.bipush 60, 2) := by decide +kernel
theorem dX9_slow_11 : decode cX9_slow 11 = .ok (.invokestatic 146, 3) := by decide +kernel
theorem dX9_slow_14 : decode cX9_slow 14 = .ok (.ifCond .ne 5, 3) := by decide +kernel
theorem dX9_slow_17 : decode cX9_slow 17 = .ok (.iconst (-1), 1) := by decide +kernel
theorem dX9_slow_18 : decode cX9_slow 18 = .ok (.ireturn, 1) := by decide +kernel
theorem dX9_slow_19 : decode cX9_slow 19 = .ok (.aload_n 0, 1) := by decide +kernel
theorem dX9_slow_20 : decode cX9_slow 20 = .ok (.getfield 49, 3) := by decide +kernel
theorem dX9_slow_23 : decode cX9_slow 23 = .ok (.iload_n 1, 1) := by decide +kernel
theorem dX9_slow_24 : decode cX9_slow 24 = .ok (.iconst 0, 1) := by decide +kernel
theorem dX9_slow_25 : decode cX9_slow 25 = .ok (.aload_n 0, 1) := by decide +kernel
theorem dX9_slow_26 : decode cX9_slow 26 = .ok (.getfield 10, 3) := by decide +kernel
theorem dX9_slow_29 : decode cX9_slow 29 = .ok (.iload_n 1, 1) := by decide +kernel
theorem dX9_slow_30 : decode cX9_slow 30 = .ok (.iconst 0, 1) := by decide +kernel
theorem dX9_slow_31 : decode cX9_slow 31 = .ok (.invokevirtual 196, 3) := by decide +kernel
theorem dX9_slow_34 : decode cX9_slow 34 = .ok (.iload_n 2, 1) := by decide +kernel
theorem dX9_slow_35 : decode cX9_slow 35 = .ok (.iconst 0, 1) := by decide +kernel
theorem dX9_slow_36 : decode cX9_slow 36 = .ok (.invokevirtual 189, 3) := by decide +kernel
theorem dX9_slow_39 : decode cX9_slow 39 = .ok (.ireturn, 1) := by decide +kernel
theorem dX9_both_0 : decode cX9_both 0 = .ok (.iload_n 1, 1) := by decide +kernel
theorem dX9_both_1 : decode cX9_both 1 = .ok (.bipush 60, 2) := by decide +kernel
theorem dX9_both_3 : decode cX9_both 3 = .ok (.invokestatic 146, 3) := by decide +kernel
theorem dX9_both_6 : decode cX9_both 6 = .ok (.ifCond .eq 11, 3) := by decide +kernel
theorem dX9_both_9 : decode cX9_both 9 = .ok (.iload_n 2, 1) := by decide +kernel
theorem dX9_both_10 : decode cX9_both 10 = .ok (.iconst 1, 1) := by decide +kernel
theorem dX9_both_11 : decode cX9_both 11 = .ok (.invokestatic 146, 3) := by decide +kernel
theorem dX9_both_14 : decode cX9_both 14 = .ok (.ifCond .ne 5, 3) := by decide +kernel
theorem dX9_both_17 : decode cX9_both 17 = .ok (.iconst (-1), 1) := by decide +kernel
theorem dX9_both_18 : decode cX9_both 18 = .ok (.ireturn, 1) := by decide +kernel
theorem dX9_both_19 : decode cX9_both 19 = .ok (.aload_n 0, 1) := by decide +kernel
theorem dX9_both_20 : decode cX9_both 20 = .ok (.getfield 10, 3) := by decide +kernel
theorem dX9_both_23 : decode cX9_both 23 = .ok (.getfield 82, 3) := by decide +kernel
theorem dX9_both_26 : decode cX9_both 26 = .ok (.iconst 2, 1) := by decide +kernel
theorem dX9_both_27 : decode cX9_both 27 = .ok (.if_icmp .ge 6, 3) := by decide +kernel
theorem dX9_both_30 : decode cX9_both 30 = .ok (.bipush (-5), 2) := by decide +kernel
theorem dX9_both_32 : decode cX9_both 32 = .ok (.ireturn, 1) := by decide +kernel
theorem dX9_both_33 : decode cX9_both 33 = .ok (.iload_n 2, 1) := by decide +kernel
theorem dX9_both_34 : decode cX9_both 34 = .ok (.ifCond .ne 14, 3) := by decide +kernel
theorem dX9_both_37 : decode cX9_both 37 = .ok (.aload_n 0, 1) := by decide +kernel
theorem dX9_both_38 : decode cX9_both 38 = .ok (.getfield 49, 3) := by decide +kernel
theorem dX9_both_41 : decode cX9_both 41 = .ok (.iload_n 1, 1) := by decide +kernel
theorem dX9_both_42 : decode cX9_both 42 = .ok (.invokevirtual 199, 3) := by decide +kernel
theorem dX9_both_45 : decode cX9_both 45 = .ok (.goto 11, 3) := by decide +kernel
theorem dX9_both_48 : decode cX9_both 48 = .ok (.aload_n 0, 1) := by decide +kernel
theorem dX9_both_49 : decode cX9_both 49 = .ok (.getfield 49, 3) := by decide +kernel
theorem dX9_both_52 : decode cX9_both 52 = .ok (.iload_n 1, 1) := by decide +kernel
theorem dX9_both_53 : decode cX9_both 53 = .ok (.invokevirtual 203, 3) := by decide +kernel
theorem dX9_both_56 : decode cX9_both 56 = .ok (.ireturn, 1) := by decide +kernel
theorem dX9_holeFor_0 : decode cX9_holeFor 0 = .ok (.aload_n 0, 1) := by decide +kernel
theorem dX9_holeFor_1 : decode cX9_holeFor 1 = .ok (.iload_n 1, 1) := by decide +kernel
theorem dX9_holeFor_2 : decode cX9_holeFor 2 = .ok (.invokevirtual 143, 3) := by decide +kernel
theorem dX9_holeFor_5 : decode cX9_holeFor 5 = .ok (.ifCond .eq 22, 3) := by decide +kernel
theorem dX9_holeFor_8 : decode cX9_holeFor 8 = .ok (.iload_n 2, 1) := by decide +kernel
theorem dX9_holeFor_9 : decode cX9_holeFor 9 = .ok (.sipush 999, 3) := by decide +kernel
theorem dX9_holeFor_12 : decode cX9_holeFor 12 = .ok (.invokestatic 146, 3) := by decide +kernel
theorem dX9_holeFor_15 : decode cX9_holeFor 15 = .ok (.ifCond .eq 12, 3) := by decide +kernel
theorem dX9_holeFor_18 : decode cX9_holeFor 18 = .ok (.iload_n 3, 1) := by decide +kernel
theorem dX9_holeFor_19 : decode cX9_holeFor 19 = .ok (.bipush 60, 2) := by decide +kernel
theorem dX9_holeFor_21 : decode cX9_holeFor 21 = .ok (.invokestatic 146, 3) := by decide +kernel
theorem dX9_holeFor_24 : decode cX9_holeFor 24 = .ok (.ifCond .ne 6, 3) := by decide +kernel
theorem dX9_holeFor_27 : decode cX9_holeFor 27 = .ok (.ldc 112, 2) := by decide +kernel
theorem dX9_holeFor_29 : decode cX9_holeFor 29 = .ok (.ireturn, 1) := by decide +kernel
theorem dX9_holeFor_30 : decode cX9_holeFor 30 = .ok (.aload_n 0, 1) := by decide +kernel
theorem dX9_holeFor_31 : decode cX9_holeFor 31 = .ok (.getfield 49, 3) := by decide +kernel
theorem dX9_holeFor_34 : decode cX9_holeFor 34 = .ok (.iload_n 1, 1) := by decide +kernel
theorem dX9_holeFor_35 : decode cX9_holeFor 35 = .ok (.iload_n 2, 1) := by decide +kernel
theorem dX9_holeFor_36 : decode cX9_holeFor 36 = .ok (.iload_n 3, 1) := by decide +kernel
theorem dX9_holeFor_37 : decode cX9_holeFor 37 = .ok (.invokevirtual 206, 3) := by decide +kernel
theorem dX9_holeFor_40 : decode cX9_holeFor 40 = .ok (.aload_n 0, 1) := by decide +kernel
theorem dX9_holeFor_41 : decode cX9_holeFor 41 = .ok (.getfield 49, 3) := by decide +kernel
theorem dX9_holeFor_44 : decode cX9_holeFor 44 = .ok (.iload_n 1, 1) := by decide +kernel
theorem dX9_holeFor_45 : decode cX9_holeFor 45 = .ok (.getstatic 86, 3) := by decide +kernel
theorem dX9_holeFor_48 : decode cX9_holeFor 48 = .ok (.bipush 6, 2) := by decide +kernel
theorem dX9_holeFor_50 : decode cX9_holeFor 50 = .ok (.iaload, 1) := by decide +kernel
theorem dX9_holeFor_51 : decode cX9_holeFor 51 = .ok (.iload_n 3, 1) := by decide +kernel
theorem dX9_holeFor_52 : decode cX9_holeFor 52 = .ok (.invokevirtual 206, 3) := by decide +kernel
theorem dX9_holeFor_55 : decode cX9_holeFor 55 = .ok (.isub, 1) := by decide +kernel
theorem dX9_holeFor_56 : decode cX9_holeFor 56 = .ok (.ireturn, 1) := by decide +kernel
theorem dX9_stopFor_0 : decode cX9_stopFor 0 = .ok (.aload_n 0, 1) := by decide +kernel
theorem dX9_stopFor_1 : decode cX9_stopFor 1 = .ok (.iload_n 1, 1) := by decide +kernel
theorem dX9_stopFor_2 : decode cX9_stopFor 2 = .ok (.invokevirtual 143, 3) := by decide +kernel
theorem dX9_stopFor_5 : decode cX9_stopFor 5 = .ok (.ifCond .eq 14, 3) := by decide +kernel
theorem dX9_stopFor_8 : decode cX9_stopFor 8 = .ok (.aload_n 0, 1) := by decide +kernel
theorem dX9_stopFor_9 : decode cX9_stopFor 9 = .ok (.getfield 49, 3) := by decide +kernel
theorem dX9_stopFor_12 : decode cX9_stopFor 12 = .ok (.iload_n 1, 1) := by decide +kernel
theorem dX9_stopFor_13 : decode cX9_stopFor 13 = .ok (.invokevirtual 209, 3) := by decide +kernel
theorem dX9_stopFor_16 : decode cX9_stopFor 16 = .ok (.goto 4, 3) := by decide +kernel
theorem dX9_stopFor_19 : decode cX9_stopFor 19 = .ok (.iconst (-1), 1) := by decide +kernel
theorem dX9_stopFor_20 : decode cX9_stopFor 20 = .ok (.ireturn, 1) := by decide +kernel
theorem dX9_judge_0 : decode cX9_judge 0 = .ok (.aload_n 0, 1) := by decide +kernel
theorem dX9_judge_1 : decode cX9_judge 1 = .ok (.iload_n 1, 1) := by decide +kernel
theorem dX9_judge_2 : decode cX9_judge 2 = .ok (.invokevirtual 212, 3) := by decide +kernel
theorem dX9_judge_5 : decode cX9_judge 5 = .ok (.istore_n 2, 1) := by decide +kernel
theorem dX9_judge_6 : decode cX9_judge 6 = .ok (.iload_n 2, 1) := by decide +kernel
theorem dX9_judge_7 : decode cX9_judge 7 = .ok (.ifCond .eq 7, 3) := by decide +kernel
theorem dX9_judge_10 : decode cX9_judge 10 = .ok (.iload_n 2, 1) := by decide +kernel
theorem dX9_judge_11 : decode cX9_judge 11 = .ok (.goto 18, 3) := by decide +kernel
theorem dX9_judge_14 : decode cX9_judge 14 = .ok (.aload_n 0, 1) := by decide +kernel
theorem dX9_judge_15 : decode cX9_judge 15 = .ok (.getfield 49, 3) := by decide +kernel
theorem dX9_judge_18 : decode cX9_judge 18 = .ok (.aload_n 0, 1) := by decide +kernel
theorem dX9_judge_19 : decode cX9_judge 19 = .ok (.getfield 69, 3) := by decide +kernel
theorem dX9_judge_22 : decode cX9_judge 22 = .ok (.iload_n 1, 1) := by decide +kernel
theorem dX9_judge_23 : decode cX9_judge 23 = .ok (.aaload, 1) := by decide +kernel
theorem dX9_judge_24 : decode cX9_judge 24 = .ok (.bipush 7, 2) := by decide +kernel
theorem dX9_judge_26 : decode cX9_judge 26 = .ok (.invokevirtual 215, 3) := by decide +kernel
theorem dX9_judge_29 : decode cX9_judge 29 = .ok (.ireturn, 1) := by decide +kernel
theorem dX9_who_0 : decode cX9_who 0 = .ok (.iload_n 2, 1) := by decide +kernel
theorem dX9_who_1 : decode cX9_who 1 = .ok (.iconst 1, 1) := by decide +kernel
theorem dX9_who_2 : decode cX9_who 2 = .ok (.invokestatic 146, 3) := by decide +kernel
theorem dX9_who_5 : decode cX9_who 5 = .ok (.ifCond .ne 5, 3) := by decide +kernel
theorem dX9_who_8 : decode cX9_who 8 = .ok (.iconst (-1), 1) := by decide +kernel
theorem dX9_who_9 : decode cX9_who 9 = .ok (.ireturn, 1) := by decide +kernel
theorem dX9_who_10 : decode cX9_who 10 = .ok (.aload_n 0, 1) := by decide +kernel
theorem dX9_who_11 : decode cX9_who 11 = .ok (.iload_n 1, 1) := by decide +kernel
theorem dX9_who_12 : decode cX9_who 12 = .ok (.invokevirtual 212, 3) := by decide +kernel
theorem dX9_who_15 : decode cX9_who 15 = .ok (.istore_n 3, 1) := by decide +kernel
theorem dX9_who_16 : decode cX9_who 16 = .ok (.iload_n 3, 1) := by decide +kernel
theorem dX9_who_17 : decode cX9_who 17 = .ok (.ifCond .eq 5, 3) := by decide +kernel
theorem dX9_who_20 : decode cX9_who 20 = .ok (.iload_n 3, 1) := by decide +kernel
theorem dX9_who_21 : decode cX9_who 21 = .ok (.ireturn, 1) := by decide +kernel
theorem dX9_who_22 : decode cX9_who 22 = .ok (.iload_n 2, 1) := by decide +kernel
theorem dX9_who_23 : decode cX9_who 23 = .ok (.ifCond .ne 19, 3) := by decide +kernel
theorem dX9_who_26 : decode cX9_who 26 = .ok (.aload_n 0, 1) := by decide +kernel
theorem dX9_who_27 : decode cX9_who 27 = .ok (.getfield 49, 3) := by decide +kernel
theorem dX9_who_30 : decode cX9_who 30 = .ok (.aload_n 0, 1) := by decide +kernel
theorem dX9_who_31 : decode cX9_who 31 = .ok (.getfield 69, 3) := by decide +kernel
theorem dX9_who_34 : decode cX9_who 34 = .ok (.iload_n 1, 1) := by decide +kernel
theorem dX9_who_35 : decode cX9_who 35 = .ok (.aaload, 1) := by decide +kernel
theorem dX9_who_36 : decode cX9_who 36 = .ok (.invokevirtual 219, 3) := by decide +kernel
theorem dX9_who_39 : decode cX9_who 39 = .ok (.goto 16, 3) := by decide +kernel
theorem dX9_who_42 : decode cX9_who 42 = .ok (.aload_n 0, 1) := by decide +kernel
theorem dX9_who_43 : decode cX9_who 43 = .ok (.getfield 49, 3) := by decide +kernel
theorem dX9_who_46 : decode cX9_who 46 = .ok (.aload_n 0, 1) := by decide +kernel
theorem dX9_who_47 : decode cX9_who 47 = .ok (.getfield 69, 3) := by decide +kernel
theorem dX9_who_50 : decode cX9_who 50 = .ok (.iload_n 1, 1) := by decide +kernel
theorem dX9_who_51 : decode cX9_who 51 = .ok (.aaload, 1) := by decide +kernel
theorem dX9_who_52 : decode cX9_who 52 = .ok (.invokevirtual 223, 3) := by decide +kernel
theorem dX9_who_55 : decode cX9_who 55 = .ok (.ireturn, 1) := by decide +kernel
theorem dX9_since_0 : decode cX9_since 0 = .ok (.aload_n 0, 1) := by decide +kernel
theorem dX9_since_1 : decode cX9_since 1 = .ok (.iload_n 2, 1) := by decide +kernel
theorem dX9_since_2 : decode cX9_since 2 = .ok (.invokevirtual 143, 3) := by decide +kernel
theorem dX9_since_5 : decode cX9_since 5 = .ok (.ifCond .ne 5, 3) := by decide +kernel
theorem dX9_since_8 : decode cX9_since 8 = .ok (.iconst (-1), 1) := by decide +kernel
theorem dX9_since_9 : decode cX9_since 9 = .ok (.ireturn, 1) := by decide +kernel
theorem dX9_since_10 : decode cX9_since 10 = .ok (.aload_n 0, 1) := by decide +kernel
theorem dX9_since_11 : decode cX9_since 11 = .ok (.iload_n 1, 1) := by decide +kernel
theorem dX9_since_12 : decode cX9_since 12 = .ok (.invokevirtual 212, 3) := by decide +kernel
theorem dX9_since_15 : decode cX9_since 15 = .ok (.istore_n 3, 1) := by decide +kernel
theorem dX9_since_16 : decode cX9_since 16 = .ok (.iload_n 3, 1) := by decide +kernel
theorem dX9_since_17 : decode cX9_since 17 = .ok (.ifCond .eq 7, 3) := by decide +kernel
theorem dX9_since_20 : decode cX9_since 20 = .ok (.iload_n 3, 1) := by decide +kernel
theorem dX9_since_21 : decode cX9_since 21 = .ok (.goto 17, 3) := by decide +kernel
theorem dX9_since_24 : decode cX9_since 24 = .ok (.aload_n 0, 1) := by decide +kernel
theorem dX9_since_25 : decode cX9_since 25 = .ok (.getfield 49, 3) := by decide +kernel
theorem dX9_since_28 : decode cX9_since 28 = .ok (.aload_n 0, 1) := by decide +kernel
theorem dX9_since_29 : decode cX9_since 29 = .ok (.getfield 69, 3) := by decide +kernel
theorem dX9_since_32 : decode cX9_since 32 = .ok (.iload_n 1, 1) := by decide +kernel
theorem dX9_since_33 : decode cX9_since 33 = .ok (.aaload, 1) := by decide +kernel
theorem dX9_since_34 : decode cX9_since 34 = .ok (.iload_n 2, 1) := by decide +kernel
theorem dX9_since_35 : decode cX9_since 35 = .ok (.invokevirtual 226, 3) := by decide +kernel
theorem dX9_since_38 : decode cX9_since 38 = .ok (.ireturn, 1) := by decide +kernel
theorem dX9_drawn_0 : decode cX9_drawn 0 = .ok (.iload_n 2, 1) := by decide +kernel
theorem dX9_drawn_1 : decode cX9_drawn 1 = .ok (.iconst 1, 1) := by decide +kernel
theorem dX9_drawn_2 : decode cX9_drawn 2 = .ok (.if_icmp .lt 22, 3) := by decide +kernel
theorem dX9_drawn_5 : decode cX9_drawn 5 = .ok (.iload_n 2, 1) := by decide +kernel
theorem dX9_drawn_6 : decode cX9_drawn 6 = .ok (.bipush 20, 2) := by decide +kernel
theorem dX9_drawn_8 : decode cX9_drawn 8 = .ok (.if_icmp .gt 16, 3) := by decide +kernel
theorem dX9_drawn_11 : decode cX9_drawn 11 = .ok (.iload_n 3, 1) := by decide +kernel
theorem dX9_drawn_12 : decode cX9_drawn 12 = .ok (.iconst (-1), 1) := by decide +kernel
theorem dX9_drawn_13 : decode cX9_drawn 13 = .ok (.if_icmp .eq 13, 3) := by decide +kernel
theorem dX9_drawn_16 : decode cX9_drawn 16 = .ok (.aload_n 0, 1) := by decide +kernel
theorem dX9_drawn_17 : decode cX9_drawn 17 = .ok (.iload_n 3, 1) := by decide +kernel
theorem dX9_drawn_18 : decode cX9_drawn 18 = .ok (.invokevirtual 143, 3) := by decide +kernel
theorem dX9_drawn_21 : decode cX9_drawn 21 = .ok (.ifCond .ne 5, 3) := by decide +kernel
theorem dX9_drawn_24 : decode cX9_drawn 24 = .ok (.iconst (-1), 1) := by decide +kernel
theorem dX9_drawn_25 : decode cX9_drawn 25 = .ok (.ireturn, 1) := by decide +kernel
theorem dX9_drawn_26 : decode cX9_drawn 26 = .ok (.aload_n 0, 1) := by decide +kernel
theorem dX9_drawn_27 : decode cX9_drawn 27 = .ok (.getfield 49, 3) := by decide +kernel
theorem dX9_drawn_30 : decode cX9_drawn 30 = .ok (.iload_n 1, 1) := by decide +kernel
theorem dX9_drawn_31 : decode cX9_drawn 31 = .ok (.iload_n 2, 1) := by decide +kernel
theorem dX9_drawn_32 : decode cX9_drawn 32 = .ok (.iload_n 3, 1) := by decide +kernel
theorem dX9_drawn_33 : decode cX9_drawn 33 = .ok (.invokevirtual 229, 3) := by decide +kernel
theorem dX9_drawn_36 : decode cX9_drawn 36 = .ok (.ireturn, 1) := by decide +kernel
theorem dX9_second_0 : decode cX9_second 0 = .ok (.aload_n 0, 1) := by decide +kernel
theorem dX9_second_1 : decode cX9_second 1 = .ok (.getfield 37, 3) := by decide +kernel
theorem dX9_second_4 : decode cX9_second 4 = .ok (.getfield 126, 3) := by decide +kernel
theorem dX9_second_7 : decode cX9_second 7 = .ok (.sipush 999, 3) := by decide +kernel
theorem dX9_second_10 : decode cX9_second 10 = .ok (.if_icmp .lt 6, 3) := by decide +kernel
theorem dX9_second_13 : decode cX9_second 13 = .ok (.bipush (-5), 2) := by decide +kernel
theorem dX9_second_15 : decode cX9_second 15 = .ok (.ireturn, 1) := by decide +kernel
theorem dX9_second_16 : decode cX9_second 16 = .ok (.aload_n 0, 1) := by decide +kernel
theorem dX9_second_17 : decode cX9_second 17 = .ok (.getfield 37, 3) := by decide +kernel
theorem dX9_second_20 : decode cX9_second 20 = .ok (.bipush 7, 2) := by decide +kernel
theorem dX9_second_22 : decode cX9_second 22 = .ok (.iconst 0, 1) := by decide +kernel
theorem dX9_second_23 : decode cX9_second 23 = .ok (.iconst 0, 1) := by decide +kernel
theorem dX9_second_24 : decode cX9_second 24 = .ok (.invokevirtual 232, 3) := by decide +kernel
theorem dX9_second_27 : decode cX9_second 27 = .ok (.aload_n 0, 1) := by decide +kernel
theorem dX9_second_28 : decode cX9_second 28 = .ok (.getfield 37, 3) := by decide +kernel
theorem dX9_second_31 : decode cX9_second 31 = .ok (.dup, 1) := by decide +kernel
theorem dX9_second_32 : decode cX9_second 32 = .ok (.getfield 235, 3) := by decide +kernel
theorem dX9_second_35 : decode cX9_second 35 = .ok (.iconst 1, 1) := by decide +kernel
theorem dX9_second_36 : decode cX9_second 36 = .ok (.iadd, 1) := by decide +kernel
theorem dX9_second_37 : decode cX9_second 37 = .ok (.putfield 235, 3) := by decide +kernel
theorem dX9_second_40 : decode cX9_second 40 = .ok (.aload_n 0, 1) := by decide +kernel
theorem dX9_second_41 : decode cX9_second 41 = .ok (.getfield 37, 3) := by decide +kernel
theorem dX9_second_44 : decode cX9_second 44 = .ok (.getfield 120, 3) := by decide +kernel
theorem dX9_second_47 : decode cX9_second 47 = .ok (.ireturn, 1) := by decide +kernel
theorem dX9_fill_0 : decode cX9_fill 0 = .ok (.iload_n 1, 1) := by decide +kernel
theorem dX9_fill_1 : decode cX9_fill 1 = .ok (.sipush 999, 3) := by decide +kernel
theorem dX9_fill_4 : decode cX9_fill 4 = .ok (.invokestatic 146, 3) := by decide +kernel
theorem dX9_fill_7 : decode cX9_fill 7 = .ok (.ifCond .ne 5, 3) := by decide +kernel
theorem dX9_fill_10 : decode cX9_fill 10 = .ok (.iconst (-1), 1) := by decide +kernel
theorem dX9_fill_11 : decode cX9_fill 11 = .ok (.ireturn, 1) := by decide +kernel
theorem dX9_fill_12 : decode cX9_fill 12 = .ok (.aload_n 0, 1) := by decide +kernel
theorem dX9_fill_13 : decode cX9_fill 13 = .ok (.getfield 37, 3) := by decide +kernel
theorem dX9_fill_16 : decode cX9_fill 16 = .ok (.getfield 120, 3) := by decide +kernel
theorem dX9_fill_19 : decode cX9_fill 19 = .ok (.istore_n 2, 1) := by decide +kernel
theorem dX9_fill_20 : decode cX9_fill 20 = .ok (.aload_n 0, 1) := by decide +kernel
theorem dX9_fill_21 : decode cX9_fill 21 = .ok (.getfield 37, 3) := by decide +kernel
theorem dX9_fill_24 : decode cX9_fill 24 = .ok (.iload_n 1, 1) := by decide +kernel
theorem dX9_fill_25 : decode cX9_fill 25 = .ok (.invokevirtual 238, 3) := by decide +kernel
theorem dX9_fill_28 : decode cX9_fill 28 = .ok (.iload_n 2, 1) := by decide +kernel
theorem dX9_fill_29 : decode cX9_fill 29 = .ok (.ireturn, 1) := by decide +kernel
theorem dX9_ice_0 : decode cX9_ice 0 = .ok (.iload_n 1, 1) := by decide +kernel
theorem dX9_ice_1 : decode cX9_ice 1 = .ok (.iconst 1, 1) := by decide +kernel
theorem dX9_ice_2 : decode cX9_ice 2 = .ok (.if_icmp .lt 9, 3) := by decide +kernel
theorem dX9_ice_5 : decode cX9_ice 5 = .ok (.iload_n 1, 1) := by decide +kernel
theorem dX9_ice_6 : decode cX9_ice 6 = .ok (.bipush 99, 2) := by decide +kernel
theorem dX9_ice_8 : decode cX9_ice 8 = .ok (.if_icmp .le 5, 3) := by decide +kernel
theorem dX9_ice_11 : decode cX9_ice 11 = .ok (.iconst (-1), 1) := by decide +kernel
theorem dX9_ice_12 : decode cX9_ice 12 = .ok (.ireturn, 1) := by decide +kernel
theorem dX9_ice_13 : decode cX9_ice 13 = .ok (.aload_n 0, 1) := by decide +kernel
theorem dX9_ice_14 : decode cX9_ice 14 = .ok (.getfield 37, 3) := by decide +kernel
theorem dX9_ice_17 : decode cX9_ice 17 = .ok (.getfield 123, 3) := by decide +kernel
theorem dX9_ice_20 : decode cX9_ice 20 = .ok (.iload_n 1, 1) := by decide +kernel
theorem dX9_ice_21 : decode cX9_ice 21 = .ok (.iadd, 1) := by decide +kernel
theorem dX9_ice_22 : decode cX9_ice 22 = .ok (.bipush 99, 2) := by decide +kernel
theorem dX9_ice_24 : decode cX9_ice 24 = .ok (.if_icmp .le 6, 3) := by decide +kernel
theorem dX9_ice_27 : decode cX9_ice 27 = .ok (.bipush (-5), 2) := by decide +kernel
theorem dX9_ice_29 : decode cX9_ice 29 = .ok (.ireturn, 1) := by decide +kernel
theorem dX9_ice_30 : decode cX9_ice 30 = .ok (.aload_n 0, 1) := by decide +kernel
theorem dX9_ice_31 : decode cX9_ice 31 = .ok (.getfield 37, 3) := by decide +kernel
theorem dX9_ice_34 : decode cX9_ice 34 = .ok (.dup, 1) := by decide +kernel
theorem dX9_ice_35 : decode cX9_ice 35 = .ok (.getfield 123, 3) := by decide +kernel
theorem dX9_ice_38 : decode cX9_ice 38 = .ok (.iload_n 1, 1) := by decide +kernel
theorem dX9_ice_39 : decode cX9_ice 39 = .ok (.iadd, 1) := by decide +kernel
theorem dX9_ice_40 : decode cX9_ice 40 = .ok (.putfield 123, 3) := by decide +kernel
theorem dX9_ice_43 : decode cX9_ice 43 = .ok (.aload_n 0, 1) := by decide +kernel
theorem dX9_ice_44 : decode cX9_ice 44 = .ok (.getfield 37, 3) := by decide +kernel
theorem dX9_ice_47 : decode cX9_ice 47 = .ok (.getfield 123, 3) := by decide +kernel
theorem dX9_ice_50 : decode cX9_ice 50 = .ok (.ireturn, 1) := by decide +kernel
theorem dX9_led_0 : decode cX9_led 0 = .ok (.iload_n 2, 1) := by decide +kernel
theorem dX9_led_1 : decode cX9_led 1 = .ok (.iconst 3, 1) := by decide +kernel
theorem dX9_led_2 : decode cX9_led 2 = .ok (.if_icmp .eq 8, 3) := by decide +kernel
theorem dX9_led_5 : decode cX9_led 5 = .ok (.iload_n 2, 1) := by decide +kernel
theorem dX9_led_6 : decode cX9_led 6 = .ok (.iconst 4, 1) := by decide +kernel
theorem dX9_led_7 : decode cX9_led 7 = .ok (.if_icmp .ne 32, 3) := by decide +kernel
theorem dX9_led_10 : decode cX9_led 10 = .ok (.iload_n 1, 1) := by decide +kernel
theorem dX9_led_11 : decode cX9_led 11 = .ok (.ifCond .eq 5, 3) := by decide +kernel
theorem dX9_led_14 : decode cX9_led 14 = .ok (.iconst (-1), 1) := by decide +kernel
theorem dX9_led_15 : decode cX9_led 15 = .ok (.ireturn, 1) := by decide +kernel
theorem dX9_led_16 : decode cX9_led 16 = .ok (.iload_n 2, 1) := by decide +kernel
theorem dX9_led_17 : decode cX9_led 17 = .ok (.iconst 3, 1) := by decide +kernel
theorem dX9_led_18 : decode cX9_led 18 = .ok (.if_icmp .ne 13, 3) := by decide +kernel
theorem dX9_led_21 : decode cX9_led 21 = .ok (.aload_n 0, 1) := by decide +kernel
theorem dX9_led_22 : decode cX9_led 22 = .ok (.getfield 37, 3) := by decide +kernel
theorem dX9_led_25 : decode cX9_led 25 = .ok (.getfield 235, 3) := by decide +kernel
theorem dX9_led_28 : decode cX9_led 28 = .ok (.goto 10, 3) := by decide +kernel
theorem dX9_led_31 : decode cX9_led 31 = .ok (.aload_n 0, 1) := by decide +kernel
theorem dX9_led_32 : decode cX9_led 32 = .ok (.getfield 37, 3) := by decide +kernel
theorem dX9_led_35 : decode cX9_led 35 = .ok (.getfield 242, 3) := by decide +kernel
theorem dX9_led_38 : decode cX9_led 38 = .ok (.ireturn, 1) := by decide +kernel
theorem dX9_led_39 : decode cX9_led 39 = .ok (.aload_n 0, 1) := by decide +kernel
theorem dX9_led_40 : decode cX9_led 40 = .ok (.iload_n 1, 1) := by decide +kernel
theorem dX9_led_41 : decode cX9_led 41 = .ok (.invokevirtual 143, 3) := by decide +kernel
theorem dX9_led_44 : decode cX9_led 44 = .ok (.ifCond .eq 11, 3) := by decide +kernel
theorem dX9_led_47 : decode cX9_led 47 = .ok (.iload_n 2, 1) := by decide +kernel
theorem dX9_led_48 : decode cX9_led 48 = .ok (.iconst 2, 1) := by decide +kernel
theorem dX9_led_49 : decode cX9_led 49 = .ok (.invokestatic 146, 3) := by decide +kernel
theorem dX9_led_52 : decode cX9_led 52 = .ok (.ifCond .ne 5, 3) := by decide +kernel
theorem dX9_led_55 : decode cX9_led 55 = .ok (.iconst (-1), 1) := by decide +kernel
theorem dX9_led_56 : decode cX9_led 56 = .ok (.ireturn, 1) := by decide +kernel
theorem dX9_led_57 : decode cX9_led 57 = .ok (.aload_n 0, 1) := by decide +kernel
theorem dX9_led_58 : decode cX9_led 58 = .ok (.getfield 37, 3) := by decide +kernel
theorem dX9_led_61 : decode cX9_led 61 = .ok (.iload_n 1, 1) := by decide +kernel
theorem dX9_led_62 : decode cX9_led 62 = .ok (.iload_n 2, 1) := by decide +kernel
theorem dX9_led_63 : decode cX9_led 63 = .ok (.invokevirtual 156, 3) := by decide +kernel
theorem dX9_led_66 : decode cX9_led 66 = .ok (.ireturn, 1) := by decide +kernel
theorem dX9_image_0 : decode cX9_image 0 = .ok (.aload_n 0, 1) := by decide +kernel
theorem dX9_image_1 : decode cX9_image 1 = .ok (.getfield 41, 3) := by decide +kernel
theorem dX9_image_4 : decode cX9_image 4 = .ok (.aload_n 0, 1) := by decide +kernel
theorem dX9_image_5 : decode cX9_image 5 = .ok (.getfield 37, 3) := by decide +kernel
theorem dX9_image_8 : decode cX9_image 8 = .ok (.invokevirtual 245, 3) := by decide +kernel
theorem dX9_image_11 : decode cX9_image 11 = .ok (.aload_n 0, 1) := by decide +kernel
theorem dX9_image_12 : decode cX9_image 12 = .ok (.iconst 1, 1) := by decide +kernel
theorem dX9_image_13 : decode cX9_image 13 = .ok (.putfield 74, 3) := by decide +kernel
theorem dX9_image_16 : decode cX9_image 16 = .ok (.aload_n 0, 1) := by decide +kernel
theorem dX9_image_17 : decode cX9_image 17 = .ok (.getfield 37, 3) := by decide +kernel
theorem dX9_image_20 : decode cX9_image 20 = .ok (.getfield 120, 3) := by decide +kernel
theorem dX9_image_23 : decode cX9_image 23 = .ok (.ireturn, 1) := by decide +kernel
theorem dX9_back_0 : decode cX9_back 0 = .ok (.aload_n 0, 1) := by decide +kernel
theorem dX9_back_1 : decode cX9_back 1 = .ok (.getfield 74, 3) := by decide +kernel
theorem dX9_back_4 : decode cX9_back 4 = .ok (.ifCond .ne 6, 3) := by decide +kernel
theorem dX9_back_7 : decode cX9_back 7 = .ok (.bipush (-5), 2) := by decide +kernel
theorem dX9_back_9 : decode cX9_back 9 = .ok (.ireturn, 1) := by decide +kernel
theorem dX9_back_10 : decode cX9_back 10 = .ok (.aload_n 0, 1) := by decide +kernel
theorem dX9_back_11 : decode cX9_back 11 = .ok (.getfield 37, 3) := by decide +kernel
theorem dX9_back_14 : decode cX9_back 14 = .ok (.aload_n 0, 1) := by decide +kernel
theorem dX9_back_15 : decode cX9_back 15 = .ok (.getfield 41, 3) := by decide +kernel
theorem dX9_back_18 : decode cX9_back 18 = .ok (.invokevirtual 245, 3) := by decide +kernel
theorem dX9_back_21 : decode cX9_back 21 = .ok (.aload_n 0, 1) := by decide +kernel
theorem dX9_back_22 : decode cX9_back 22 = .ok (.getfield 37, 3) := by decide +kernel
theorem dX9_back_25 : decode cX9_back 25 = .ok (.getfield 120, 3) := by decide +kernel
theorem dX9_back_28 : decode cX9_back 28 = .ok (.ireturn, 1) := by decide +kernel
theorem dX9_undo_0 : decode cX9_undo 0 = .ok (.aload_n 0, 1) := by decide +kernel
theorem dX9_undo_1 : decode cX9_undo 1 = .ok (.getfield 56, 3) := by decide +kernel
theorem dX9_undo_4 : decode cX9_undo 4 = .ok (.aload_n 0, 1) := by decide +kernel
theorem dX9_undo_5 : decode cX9_undo 5 = .ok (.getfield 10, 3) := by decide +kernel
theorem dX9_undo_8 : decode cX9_undo 8 = .ok (.getfield 113, 3) := by decide +kernel
theorem dX9_undo_11 : decode cX9_undo 11 = .ok (.invokevirtual 249, 3) := by decide +kernel
theorem dX9_undo_14 : decode cX9_undo 14 = .ok (.ifCond .eq 13, 3) := by decide +kernel
theorem dX9_undo_17 : decode cX9_undo 17 = .ok (.aload_n 0, 1) := by decide +kernel
theorem dX9_undo_18 : decode cX9_undo 18 = .ok (.getfield 56, 3) := by decide +kernel
theorem dX9_undo_21 : decode cX9_undo 21 = .ok (.getfield 253, 3) := by decide +kernel
theorem dX9_undo_24 : decode cX9_undo 24 = .ok (.goto 5, 3) := by decide +kernel
theorem dX9_undo_27 : decode cX9_undo 27 = .ok (.bipush (-5), 2) := by decide +kernel
theorem dX9_undo_29 : decode cX9_undo 29 = .ok (.ireturn, 1) := by decide +kernel
theorem dX9_redo_0 : decode cX9_redo 0 = .ok (.aload_n 0, 1) := by decide +kernel
theorem dX9_redo_1 : decode cX9_redo 1 = .ok (.getfield 56, 3) := by decide +kernel
theorem dX9_redo_4 : decode cX9_redo 4 = .ok (.aload_n 0, 1) := by decide +kernel
theorem dX9_redo_5 : decode cX9_redo 5 = .ok (.getfield 10, 3) := by decide +kernel
theorem dX9_redo_8 : decode cX9_redo 8 = .ok (.getfield 113, 3) := by decide +kernel
theorem dX9_redo_11 : decode cX9_redo 11 = .ok (.invokevirtual 256, 3) := by decide +kernel
theorem dX9_redo_14 : decode cX9_redo 14 = .ok (.ifCond .eq 21, 3) := by decide +kernel
theorem dX9_redo_17 : decode cX9_redo 17 = .ok (.aload_n 0, 1) := by decide +kernel
theorem dX9_redo_18 : decode cX9_redo 18 = .ok (.getfield 56, 3) := by decide +kernel
theorem dX9_redo_21 : decode cX9_redo 21 = .ok (.getfield 259, 3) := by decide +kernel
theorem dX9_redo_24 : decode cX9_redo 24 = .ok (.aload_n 0, 1) := by decide +kernel
theorem dX9_redo_25 : decode cX9_redo 25 = .ok (.getfield 56, 3) := by decide +kernel
theorem dX9_redo_28 : decode cX9_redo 28 = .ok (.getfield 253, 3) := by decide +kernel
theorem dX9_redo_31 : decode cX9_redo 31 = .ok (.isub, 1) := by decide +kernel
theorem dX9_redo_32 : decode cX9_redo 32 = .ok (.goto 5, 3) := by decide +kernel
theorem dX9_redo_35 : decode cX9_redo 35 = .ok (.bipush (-5), 2) := by decide +kernel
theorem dX9_redo_37 : decode cX9_redo 37 = .ok (.ireturn, 1) := by decide +kernel
theorem dX9_body_0 : decode cX9_body 0 = .ok (.iload_n 1, 1) := by decide +kernel
theorem dX9_body_1 : decode cX9_body 1 = .ok (.bipush 7, 2) := by decide +kernel
theorem dX9_body_3 : decode cX9_body 3 = .ok (.invokestatic 146, 3) := by decide +kernel
theorem dX9_body_6 : decode cX9_body 6 = .ok (.ifCond .ne 5, 3) := by decide +kernel
theorem dX9_body_9 : decode cX9_body 9 = .ok (.iconst (-1), 1) := by decide +kernel
theorem dX9_body_10 : decode cX9_body 10 = .ok (.ireturn, 1) := by decide +kernel
theorem dX9_body_11 : decode cX9_body 11 = .ok (.aload_n 0, 1) := by decide +kernel
theorem dX9_body_12 : decode cX9_body 12 = .ok (.getfield 63, 3) := by decide +kernel
theorem dX9_body_15 : decode cX9_body 15 = .ok (.iload_n 1, 1) := by decide +kernel
theorem dX9_body_16 : decode cX9_body 16 = .ok (.invokevirtual 262, 3) := by decide +kernel
theorem dX9_body_19 : decode cX9_body 19 = .ok (.ireturn, 1) := by decide +kernel
theorem dX9_act_0 : decode cX9_act 0 = .ok (.aload_n 0, 1) := by decide +kernel
theorem dX9_act_1 : decode cX9_act 1 = .ok (.getfield 63, 3) := by decide +kernel
theorem dX9_act_4 : decode cX9_act 4 = .ok (.iload_n 1, 1) := by decide +kernel
theorem dX9_act_5 : decode cX9_act 5 = .ok (.iload_n 2, 1) := by decide +kernel
theorem dX9_act_6 : decode cX9_act 6 = .ok (.iload_n 3, 1) := by decide +kernel
theorem dX9_act_7 : decode cX9_act 7 = .ok (.invokevirtual 264, 3) := by decide +kernel
theorem dX9_act_10 : decode cX9_act 10 = .ok (.ireturn, 1) := by decide +kernel
theorem dX9_trace_0 : decode cX9_trace 0 = .ok (.aload_n 0, 1) := by decide +kernel
theorem dX9_trace_1 : decode cX9_trace 1 = .ok (.getfield 63, 3) := by decide +kernel
theorem dX9_trace_4 : decode cX9_trace 4 = .ok (.iload_n 1, 1) := by decide +kernel
theorem dX9_trace_5 : decode cX9_trace 5 = .ok (.invokevirtual 267, 3) := by decide +kernel
theorem dX9_trace_8 : decode cX9_trace 8 = .ok (.ireturn, 1) := by decide +kernel
theorem dX9_keep_0 : decode cX9_keep 0 = .ok (.iload_n 1, 1) := by decide +kernel
theorem dX9_keep_1 : decode cX9_keep 1 = .ok (.invokestatic 94, 3) := by decide +kernel
theorem dX9_keep_4 : decode cX9_keep 4 = .ok (.ifCond .eq 19, 3) := by decide +kernel
theorem dX9_keep_7 : decode cX9_keep 7 = .ok (.iload_n 2, 1) := by decide +kernel
theorem dX9_keep_8 : decode cX9_keep 8 = .ok (.iconst (-1), 1) := by decide +kernel
theorem dX9_keep_9 : decode cX9_keep 9 = .ok (.if_icmp .eq 16, 3) := by decide +kernel
theorem dX9_keep_12 : decode cX9_keep 12 = .ok (.aload_n 0, 1) := by decide +kernel
theorem dX9_keep_13 : decode cX9_keep 13 = .ok (.getfield 63, 3) := by decide +kernel
theorem dX9_keep_16 : decode cX9_keep 16 = .ok (.iload_n 2, 1) := by decide +kernel
theorem dX9_keep_17 : decode cX9_keep 17 = .ok (.invokevirtual 270, 3) := by decide +kernel
theorem dX9_keep_20 : decode cX9_keep 20 = .ok (.ifCond .ne 5, 3) := by decide +kernel
theorem dX9_keep_23 : decode cX9_keep 23 = .ok (.iconst (-1), 1) := by decide +kernel
theorem dX9_keep_24 : decode cX9_keep 24 = .ok (.ireturn, 1) := by decide +kernel
theorem dX9_keep_25 : decode cX9_keep 25 = .ok (.iload_n 2, 1) := by decide +kernel
theorem dX9_keep_26 : decode cX9_keep 26 = .ok (.iconst (-1), 1) := by decide +kernel
theorem dX9_keep_27 : decode cX9_keep 27 = .ok (.if_icmp .ne 15, 3) := by decide +kernel
theorem dX9_keep_30 : decode cX9_keep 30 = .ok (.aload_n 0, 1) := by decide +kernel
theorem dX9_keep_31 : decode cX9_keep 31 = .ok (.getfield 69, 3) := by decide +kernel
theorem dX9_keep_34 : decode cX9_keep 34 = .ok (.iload_n 1, 1) := by decide +kernel
theorem dX9_keep_35 : decode cX9_keep 35 = .ok (.aaload, 1) := by decide +kernel
theorem dX9_keep_36 : decode cX9_keep 36 = .ok (.invokevirtual 273, 3) := by decide +kernel
theorem dX9_keep_39 : decode cX9_keep 39 = .ok (.goto 13, 3) := by decide +kernel
theorem dX9_keep_42 : decode cX9_keep 42 = .ok (.aload_n 0, 1) := by decide +kernel
theorem dX9_keep_43 : decode cX9_keep 43 = .ok (.getfield 69, 3) := by decide +kernel
theorem dX9_keep_46 : decode cX9_keep 46 = .ok (.iload_n 1, 1) := by decide +kernel
theorem dX9_keep_47 : decode cX9_keep 47 = .ok (.aaload, 1) := by decide +kernel
theorem dX9_keep_48 : decode cX9_keep 48 = .ok (.iload_n 2, 1) := by decide +kernel
theorem dX9_keep_49 : decode cX9_keep 49 = .ok (.invokevirtual 276, 3) := by decide +kernel
theorem dX9_keep_52 : decode cX9_keep 52 = .ok (.iconst 1, 1) := by decide +kernel
theorem dX9_keep_53 : decode cX9_keep 53 = .ok (.ireturn, 1) := by decide +kernel
theorem dX9_row_0 : decode cX9_row 0 = .ok (.iload_n 1, 1) := by decide +kernel
theorem dX9_row_1 : decode cX9_row 1 = .ok (.invokestatic 94, 3) := by decide +kernel
theorem dX9_row_4 : decode cX9_row 4 = .ok (.ifCond .eq 17, 3) := by decide +kernel
theorem dX9_row_7 : decode cX9_row 7 = .ok (.iload_n 2, 1) := by decide +kernel
theorem dX9_row_8 : decode cX9_row 8 = .ok (.iconst 4, 1) := by decide +kernel
theorem dX9_row_9 : decode cX9_row 9 = .ok (.invokestatic 146, 3) := by decide +kernel
theorem dX9_row_12 : decode cX9_row 12 = .ok (.ifCond .eq 9, 3) := by decide +kernel
theorem dX9_row_15 : decode cX9_row 15 = .ok (.iload_n 3, 1) := by decide +kernel
theorem dX9_row_16 : decode cX9_row 16 = .ok (.bipush 60, 2) := by decide +kernel
theorem dX9_row_18 : decode cX9_row 18 = .ok (.if_icmp .le 5, 3) := by decide +kernel
theorem dX9_row_21 : decode cX9_row 21 = .ok (.iconst (-1), 1) := by decide +kernel
theorem dX9_row_22 : decode cX9_row 22 = .ok (.ireturn, 1) := by decide +kernel
theorem dX9_row_23 : decode cX9_row 23 = .ok (.iload_n 3, 1) := by decide +kernel
theorem dX9_row_24 : decode cX9_row 24 = .ok (.ifCond .ge 6, 3) := by decide +kernel
theorem dX9_row_27 : decode cX9_row 27 = .ok (.bipush (-14), 2) := by decide +kernel
theorem dX9_row_29 : decode cX9_row 29 = .ok (.ireturn, 1) := by decide +kernel
theorem dX9_row_30 : decode cX9_row 30 = .ok (.aload_n 0, 1) := by decide +kernel
theorem dX9_row_31 : decode cX9_row 31 = .ok (.getfield 69, 3) := by decide +kernel
theorem dX9_row_34 : decode cX9_row 34 = .ok (.iload_n 1, 1) := by decide +kernel
theorem dX9_row_35 : decode cX9_row 35 = .ok (.aaload, 1) := by decide +kernel
theorem dX9_row_36 : decode cX9_row 36 = .ok (.iload_n 2, 1) := by decide +kernel
theorem dX9_row_37 : decode cX9_row 37 = .ok (.iload_n 3, 1) := by decide +kernel
theorem dX9_row_38 : decode cX9_row 38 = .ok (.invokevirtual 279, 3) := by decide +kernel
theorem dX9_row_41 : decode cX9_row 41 = .ok (.iconst 1, 1) := by decide +kernel
theorem dX9_row_42 : decode cX9_row 42 = .ok (.ireturn, 1) := by decide +kernel
theorem dX9_put_0 : decode cX9_put 0 = .ok (.aload_n 0, 1) := by decide +kernel
theorem dX9_put_1 : decode cX9_put 1 = .ok (.iload_n 1, 1) := by decide +kernel
theorem dX9_put_2 : decode cX9_put 2 = .ok (.iload_n 2, 1) := by decide +kernel
theorem dX9_put_3 : decode cX9_put 3 = .ok (.invokevirtual 283, 3) := by decide +kernel
theorem dX9_put_6 : decode cX9_put 6 = .ok (.istore 5, 2) := by decide +kernel
theorem dX9_put_8 : decode cX9_put 8 = .ok (.iload 5, 2) := by decide +kernel
theorem dX9_put_10 : decode cX9_put 10 = .ok (.ifCond .eq 6, 3) := by decide +kernel
theorem dX9_put_13 : decode cX9_put 13 = .ok (.iload 5, 2) := by decide +kernel
theorem dX9_put_15 : decode cX9_put 15 = .ok (.ireturn, 1) := by decide +kernel
theorem dX9_put_16 : decode cX9_put 16 = .ok (.aload_n 0, 1) := by decide +kernel
theorem dX9_put_17 : decode cX9_put 17 = .ok (.getfield 69, 3) := by decide +kernel
theorem dX9_put_20 : decode cX9_put 20 = .ok (.iload_n 1, 1) := by decide +kernel
theorem dX9_put_21 : decode cX9_put 21 = .ok (.aaload, 1) := by decide +kernel
theorem dX9_put_22 : decode cX9_put 22 = .ok (.astore 6, 2) := by decide +kernel
theorem dX9_put_24 : decode cX9_put 24 = .ok (.aload 6, 2) := by decide +kernel
theorem dX9_put_26 : decode cX9_put 26 = .ok (.getfield 286, 3) := by decide +kernel
theorem dX9_put_29 : decode cX9_put 29 = .ok (.iload_n 2, 1) := by decide +kernel
theorem dX9_put_30 : decode cX9_put 30 = .ok (.aload 6, 2) := by decide +kernel
theorem dX9_put_32 : decode cX9_put 32 = .ok (.getfield 98, 3) := by decide +kernel
theorem dX9_put_35 : decode cX9_put 35 = .ok (.lload_n 3, 1) := by decide +kernel
theorem dX9_put_36 : decode cX9_put 36 = .ok (.invokestatic 290, 3) := by decide +kernel
theorem dX9_put_39 : decode cX9_put 39 = .ok (.lastore, 1) := by decide +kernel
theorem dX9_put_40 : decode cX9_put 40 = .ok (.iconst 1, 1) := by decide +kernel
theorem dX9_put_41 : decode cX9_put 41 = .ok (.ireturn, 1) := by decide +kernel
theorem dX9_element_0 : decode cX9_element 0 = .ok (.aload_n 0, 1) := by decide +kernel
theorem dX9_element_1 : decode cX9_element 1 = .ok (.iload_n 1, 1) := by decide +kernel
theorem dX9_element_2 : decode cX9_element 2 = .ok (.iload_n 2, 1) := by decide +kernel
theorem dX9_element_3 : decode cX9_element 3 = .ok (.invokevirtual 283, 3) := by decide +kernel
theorem dX9_element_6 : decode cX9_element 6 = .ok (.ifCond .eq 9, 3) := by decide +kernel
theorem dX9_element_9 : decode cX9_element 9 = .ok (.ldc2_w 296, 3) := by decide +kernel
theorem dX9_element_12 : decode cX9_element 12 = .ok (.goto 14, 3) := by decide +kernel
theorem dX9_element_15 : decode cX9_element 15 = .ok (.aload_n 0, 1) := by decide +kernel
theorem dX9_element_16 : decode cX9_element 16 = .ok (.getfield 69, 3) := by decide +kernel
theorem dX9_element_19 : decode cX9_element 19 = .ok (.iload_n 1, 1) := by decide +kernel
theorem dX9_element_20 : decode cX9_element 20 = .ok (.aaload, 1) := by decide +kernel
theorem dX9_element_21 : decode cX9_element 21 = .ok (.getfield 286, 3) := by decide +kernel
theorem dX9_element_24 : decode cX9_element 24 = .ok (.iload_n 2, 1) := by decide +kernel
theorem dX9_element_25 : decode cX9_element 25 = .ok (.laload, 1) := by decide +kernel
theorem dX9_element_26 : decode cX9_element 26 = .ok (.lreturn, 1) := by decide +kernel
theorem dX9_shift_0 : decode cX9_shift 0 = .ok (.iload_n 1, 1) := by decide +kernel
theorem dX9_shift_1 : decode cX9_shift 1 = .ok (.invokestatic 94, 3) := by decide +kernel
theorem dX9_shift_4 : decode cX9_shift 4 = .ok (.ifCond .eq 10, 3) := by decide +kernel
theorem dX9_shift_7 : decode cX9_shift 7 = .ok (.iload_n 3, 1) := by decide +kernel
theorem dX9_shift_8 : decode cX9_shift 8 = .ok (.invokestatic 94, 3) := by decide +kernel
theorem dX9_shift_11 : decode cX9_shift 11 = .ok (.ifCond .ne 5, 3) := by decide +kernel
theorem dX9_shift_14 : decode cX9_shift 14 = .ok (.iconst (-1), 1) := by decide +kernel
theorem dX9_shift_15 : decode cX9_shift 15 = .ok (.ireturn, 1) := by decide +kernel
theorem dX9_shift_16 : decode cX9_shift 16 = .ok (.aload_n 0, 1) := by decide +kernel
theorem dX9_shift_17 : decode cX9_shift 17 = .ok (.getfield 69, 3) := by decide +kernel
theorem dX9_shift_20 : decode cX9_shift 20 = .ok (.iload_n 1, 1) := by decide +kernel
theorem dX9_shift_21 : decode cX9_shift 21 = .ok (.aaload, 1) := by decide +kernel
theorem dX9_shift_22 : decode cX9_shift 22 = .ok (.astore 6, 2) := by decide +kernel
theorem dX9_shift_24 : decode cX9_shift 24 = .ok (.aload_n 0, 1) := by decide +kernel
theorem dX9_shift_25 : decode cX9_shift 25 = .ok (.getfield 69, 3) := by decide +kernel
theorem dX9_shift_28 : decode cX9_shift 28 = .ok (.iload_n 3, 1) := by decide +kernel
theorem dX9_shift_29 : decode cX9_shift 29 = .ok (.aaload, 1) := by decide +kernel
theorem dX9_shift_30 : decode cX9_shift 30 = .ok (.astore 7, 2) := by decide +kernel
theorem dX9_shift_32 : decode cX9_shift 32 = .ok (.aload 6, 2) := by decide +kernel
theorem dX9_shift_34 : decode cX9_shift 34 = .ok (.getfield 98, 3) := by decide +kernel
theorem dX9_shift_37 : decode cX9_shift 37 = .ok (.bipush (-2), 2) := by decide +kernel
theorem dX9_shift_39 : decode cX9_shift 39 = .ok (.if_icmp .eq 13, 3) := by decide +kernel
theorem dX9_shift_42 : decode cX9_shift 42 = .ok (.aload 7, 2) := by decide +kernel
theorem dX9_shift_44 : decode cX9_shift 44 = .ok (.getfield 98, 3) := by decide +kernel
theorem dX9_shift_47 : decode cX9_shift 47 = .ok (.bipush (-2), 2) := by decide +kernel
theorem dX9_shift_49 : decode cX9_shift 49 = .ok (.if_icmp .ne 6, 3) := by decide +kernel
theorem dX9_shift_52 : decode cX9_shift 52 = .ok (.bipush (-11), 2) := by decide +kernel
theorem dX9_shift_54 : decode cX9_shift 54 = .ok (.ireturn, 1) := by decide +kernel
theorem dX9_shift_55 : decode cX9_shift 55 = .ok (.aload 6, 2) := by decide +kernel
theorem dX9_shift_57 : decode cX9_shift 57 = .ok (.getfield 98, 3) := by decide +kernel
theorem dX9_shift_60 : decode cX9_shift 60 = .ok (.iconst (-1), 1) := by decide +kernel
theorem dX9_shift_61 : decode cX9_shift 61 = .ok (.if_icmp .eq 16, 3) := by decide +kernel
theorem dX9_shift_64 : decode cX9_shift 64 = .ok (.aload 6, 2) := by decide +kernel
theorem dX9_shift_66 : decode cX9_shift 66 = .ok (.getfield 98, 3) := by decide +kernel
theorem dX9_shift_69 : decode cX9_shift 69 = .ok (.aload 7, 2) := by decide +kernel
theorem dX9_shift_71 : decode cX9_shift 71 = .ok (.getfield 98, 3) := by decide +kernel
theorem dX9_shift_74 : decode cX9_shift 74 = .ok (.if_icmp .eq 6, 3) := by decide +kernel
theorem dX9_shift_77 : decode cX9_shift 77 = .ok (.bipush (-12), 2) := by decide +kernel
theorem dX9_shift_79 : decode cX9_shift 79 = .ok (.ireturn, 1) := by decide +kernel
theorem dX9_shift_80 : decode cX9_shift 80 = .ok (.aload 6, 2) := by decide +kernel
theorem dX9_shift_82 : decode cX9_shift 82 = .ok (.iload_n 2, 1) := by decide +kernel
theorem dX9_shift_83 : decode cX9_shift 83 = .ok (.iload 5, 2) := by decide +kernel
theorem dX9_shift_85 : decode cX9_shift 85 = .ok (.invokevirtual 101, 3) := by decide +kernel
theorem dX9_shift_88 : decode cX9_shift 88 = .ok (.ifCond .eq 15, 3) := by decide +kernel
theorem dX9_shift_91 : decode cX9_shift 91 = .ok (.aload 7, 2) := by decide +kernel
theorem dX9_shift_93 : decode cX9_shift 93 = .ok (.iload 4, 2) := by decide +kernel
theorem dX9_shift_95 : decode cX9_shift 95 = .ok (.iload 5, 2) := by decide +kernel
theorem dX9_shift_97 : decode cX9_shift 97 = .ok (.invokevirtual 101, 3) := by decide +kernel
theorem dX9_shift_100 : decode cX9_shift 100 = .ok (.ifCond .ne 6, 3) := by decide +kernel
theorem dX9_shift_103 : decode cX9_shift 103 = .ok (.bipush (-13), 2) := by decide +kernel
theorem dX9_shift_105 : decode cX9_shift 105 = .ok (.ireturn, 1) := by decide +kernel
theorem dX9_shift_106 : decode cX9_shift 106 = .ok (.aload 6, 2) := by decide +kernel
theorem dX9_shift_108 : decode cX9_shift 108 = .ok (.getfield 286, 3) := by decide +kernel
theorem dX9_shift_111 : decode cX9_shift 111 = .ok (.iload_n 2, 1) := by decide +kernel
theorem dX9_shift_112 : decode cX9_shift 112 = .ok (.aload 7, 2) := by decide +kernel
theorem dX9_shift_114 : decode cX9_shift 114 = .ok (.getfield 286, 3) := by decide +kernel
theorem dX9_shift_117 : decode cX9_shift 117 = .ok (.iload 4, 2) := by decide +kernel
theorem dX9_shift_119 : decode cX9_shift 119 = .ok (.iload 5, 2) := by decide +kernel
theorem dX9_shift_121 : decode cX9_shift 121 = .ok (.invokestatic 298, 3) := by decide +kernel
theorem dX9_shift_124 : decode cX9_shift 124 = .ok (.iload 5, 2) := by decide +kernel
theorem dX9_shift_126 : decode cX9_shift 126 = .ok (.ireturn, 1) := by decide +kernel
theorem dX9_taken_0 : decode cX9_taken 0 = .ok (.iload_n 1, 1) := by decide +kernel
theorem dX9_taken_1 : decode cX9_taken 1 = .ok (.invokestatic 94, 3) := by decide +kernel
theorem dX9_taken_4 : decode cX9_taken 4 = .ok (.ifCond .eq 12, 3) := by decide +kernel
theorem dX9_taken_7 : decode cX9_taken 7 = .ok (.iload_n 2, 1) := by decide +kernel
theorem dX9_taken_8 : decode cX9_taken 8 = .ok (.bipush 7, 2) := by decide +kernel
theorem dX9_taken_10 : decode cX9_taken 10 = .ok (.invokestatic 146, 3) := by decide +kernel
theorem dX9_taken_13 : decode cX9_taken 13 = .ok (.ifCond .ne 5, 3) := by decide +kernel
theorem dX9_taken_16 : decode cX9_taken 16 = .ok (.iconst (-1), 1) := by decide +kernel
theorem dX9_taken_17 : decode cX9_taken 17 = .ok (.ireturn, 1) := by decide +kernel
theorem dX9_taken_18 : decode cX9_taken 18 = .ok (.aload_n 0, 1) := by decide +kernel
theorem dX9_taken_19 : decode cX9_taken 19 = .ok (.getfield 69, 3) := by decide +kernel
theorem dX9_taken_22 : decode cX9_taken 22 = .ok (.iload_n 1, 1) := by decide +kernel
theorem dX9_taken_23 : decode cX9_taken 23 = .ok (.aaload, 1) := by decide +kernel
theorem dX9_taken_24 : decode cX9_taken 24 = .ok (.astore_n 3, 1) := by decide +kernel
theorem dX9_taken_25 : decode cX9_taken 25 = .ok (.aload_n 3, 1) := by decide +kernel
theorem dX9_taken_26 : decode cX9_taken 26 = .ok (.getfield 98, 3) := by decide +kernel
theorem dX9_taken_29 : decode cX9_taken 29 = .ok (.bipush (-2), 2) := by decide +kernel
theorem dX9_taken_31 : decode cX9_taken 31 = .ok (.if_icmp .ne 6, 3) := by decide +kernel
theorem dX9_taken_34 : decode cX9_taken 34 = .ok (.bipush (-11), 2) := by decide +kernel
theorem dX9_taken_36 : decode cX9_taken 36 = .ok (.ireturn, 1) := by decide +kernel
theorem dX9_taken_37 : decode cX9_taken 37 = .ok (.aload_n 3, 1) := by decide +kernel
theorem dX9_taken_38 : decode cX9_taken 38 = .ok (.getfield 98, 3) := by decide +kernel
theorem dX9_taken_41 : decode cX9_taken 41 = .ok (.iconst (-1), 1) := by decide +kernel
theorem dX9_taken_42 : decode cX9_taken 42 = .ok (.if_icmp .eq 6, 3) := by decide +kernel
theorem dX9_taken_45 : decode cX9_taken 45 = .ok (.bipush (-12), 2) := by decide +kernel
theorem dX9_taken_47 : decode cX9_taken 47 = .ok (.ireturn, 1) := by decide +kernel
theorem dX9_taken_48 : decode cX9_taken 48 = .ok (.aload_n 0, 1) := by decide +kernel
theorem dX9_taken_49 : decode cX9_taken 49 = .ok (.getfield 63, 3) := by decide +kernel
theorem dX9_taken_52 : decode cX9_taken 52 = .ok (.aload_n 3, 1) := by decide +kernel
theorem dX9_taken_53 : decode cX9_taken 53 = .ok (.getfield 304, 3) := by decide +kernel
theorem dX9_taken_56 : decode cX9_taken 56 = .ok (.invokevirtual 307, 3) := by decide +kernel
theorem dX9_taken_59 : decode cX9_taken 59 = .ok (.istore 4, 2) := by decide +kernel
theorem dX9_taken_61 : decode cX9_taken 61 = .ok (.iload 4, 2) := by decide +kernel
theorem dX9_taken_63 : decode cX9_taken 63 = .ok (.iload_n 2, 1) := by decide +kernel
theorem dX9_taken_64 : decode cX9_taken 64 = .ok (.invokestatic 310, 3) := by decide +kernel
theorem dX9_taken_67 : decode cX9_taken 67 = .ok (.ifCond .eq 8, 3) := by decide +kernel
theorem dX9_taken_70 : decode cX9_taken 70 = .ok (.iload 4, 2) := by decide +kernel
theorem dX9_taken_72 : decode cX9_taken 72 = .ok (.goto 5, 3) := by decide +kernel
theorem dX9_taken_75 : decode cX9_taken 75 = .ok (.bipush (-12), 2) := by decide +kernel
theorem dX9_taken_77 : decode cX9_taken 77 = .ok (.ireturn, 1) := by decide +kernel
theorem dX9_count_0 : decode cX9_count 0 = .ok (.iload_n 1, 1) := by decide +kernel
theorem dX9_count_1 : decode cX9_count 1 = .ok (.tableswitch 75 0 4 #[35, 43, 51, 59, 67], 35) := by decide +kernel
theorem dX9_count_36 : decode cX9_count 36 = .ok (.aload_n 0, 1) := by decide +kernel
theorem dX9_count_37 : decode cX9_count 37 = .ok (.getfield 10, 3) := by decide +kernel
theorem dX9_count_40 : decode cX9_count 40 = .ok (.getfield 82, 3) := by decide +kernel
theorem dX9_count_43 : decode cX9_count 43 = .ok (.ireturn, 1) := by decide +kernel
theorem dX9_count_44 : decode cX9_count 44 = .ok (.aload_n 0, 1) := by decide +kernel
theorem dX9_count_45 : decode cX9_count 45 = .ok (.getfield 19, 3) := by decide +kernel
theorem dX9_count_48 : decode cX9_count 48 = .ok (.getfield 131, 3) := by decide +kernel
theorem dX9_count_51 : decode cX9_count 51 = .ok (.ireturn, 1) := by decide +kernel
theorem dX9_count_52 : decode cX9_count 52 = .ok (.aload_n 0, 1) := by decide +kernel
theorem dX9_count_53 : decode cX9_count 53 = .ok (.getfield 56, 3) := by decide +kernel
theorem dX9_count_56 : decode cX9_count 56 = .ok (.getfield 253, 3) := by decide +kernel
theorem dX9_count_59 : decode cX9_count 59 = .ok (.ireturn, 1) := by decide +kernel
theorem dX9_count_60 : decode cX9_count 60 = .ok (.aload_n 0, 1) := by decide +kernel
theorem dX9_count_61 : decode cX9_count 61 = .ok (.getfield 63, 3) := by decide +kernel
theorem dX9_count_64 : decode cX9_count 64 = .ok (.getfield 313, 3) := by decide +kernel
theorem dX9_count_67 : decode cX9_count 67 = .ok (.ireturn, 1) := by decide +kernel
theorem dX9_count_68 : decode cX9_count 68 = .ok (.aload_n 0, 1) := by decide +kernel
theorem dX9_count_69 : decode cX9_count 69 = .ok (.getfield 63, 3) := by decide +kernel
theorem dX9_count_72 : decode cX9_count 72 = .ok (.getfield 316, 3) := by decide +kernel
theorem dX9_count_75 : decode cX9_count 75 = .ok (.ireturn, 1) := by decide +kernel
theorem dX9_count_76 : decode cX9_count 76 = .ok (.iconst (-1), 1) := by decide +kernel
theorem dX9_count_77 : decode cX9_count 77 = .ok (.ireturn, 1) := by decide +kernel
theorem dX9_isWithin_0 : decode cX9_isWithin 0 = .ok (.iload_n 0, 1) := by decide +kernel
theorem dX9_isWithin_1 : decode cX9_isWithin 1 = .ok (.ifCond .lt 12, 3) := by decide +kernel
theorem dX9_isWithin_4 : decode cX9_isWithin 4 = .ok (.iload_n 0, 1) := by decide +kernel
theorem dX9_isWithin_5 : decode cX9_isWithin 5 = .ok (.iload_n 1, 1) := by decide +kernel
theorem dX9_isWithin_6 : decode cX9_isWithin 6 = .ok (.if_icmp .gt 7, 3) := by decide +kernel
theorem dX9_isWithin_9 : decode cX9_isWithin 9 = .ok (.iconst 1, 1) := by decide +kernel
theorem dX9_isWithin_10 : decode cX9_isWithin 10 = .ok (.goto 4, 3) := by decide +kernel
theorem dX9_isWithin_13 : decode cX9_isWithin 13 = .ok (.iconst 0, 1) := by decide +kernel
theorem dX9_isWithin_14 : decode cX9_isWithin 14 = .ok (.ireturn, 1) := by decide +kernel
theorem dX9_isShelf_0 : decode cX9_isShelf 0 = .ok (.iload_n 0, 1) := by decide +kernel
theorem dX9_isShelf_1 : decode cX9_isShelf 1 = .ok (.iconst 5, 1) := by decide +kernel
theorem dX9_isShelf_2 : decode cX9_isShelf 2 = .ok (.invokestatic 146, 3) := by decide +kernel
theorem dX9_isShelf_5 : decode cX9_isShelf 5 = .ok (.ireturn, 1) := by decide +kernel
theorem dX9_isStraw_0 : decode cX9_isStraw 0 = .ok (.iload_n 1, 1) := by decide +kernel
theorem dX9_isStraw_1 : decode cX9_isStraw 1 = .ok (.aload_n 0, 1) := by decide +kernel
theorem dX9_isStraw_2 : decode cX9_isStraw 2 = .ok (.getfield 10, 3) := by decide +kernel
theorem dX9_isStraw_5 : decode cX9_isStraw 5 = .ok (.getfield 82, 3) := by decide +kernel
theorem dX9_isStraw_8 : decode cX9_isStraw 8 = .ok (.iconst 1, 1) := by decide +kernel
theorem dX9_isStraw_9 : decode cX9_isStraw 9 = .ok (.isub, 1) := by decide +kernel
theorem dX9_isStraw_10 : decode cX9_isStraw 10 = .ok (.invokestatic 146, 3) := by decide +kernel
theorem dX9_isStraw_13 : decode cX9_isStraw 13 = .ok (.ireturn, 1) := by decide +kernel
theorem dX9_isPair_0 : decode cX9_isPair 0 = .ok (.iload_n 1, 1) := by decide +kernel
theorem dX9_isPair_1 : decode cX9_isPair 1 = .ok (.ifCond .lt 40, 3) := by decide +kernel
theorem dX9_isPair_4 : decode cX9_isPair 4 = .ok (.aload_n 0, 1) := by decide +kernel
theorem dX9_isPair_5 : decode cX9_isPair 5 = .ok (.iload_n 1, 1) := by decide +kernel
theorem dX9_isPair_6 : decode cX9_isPair 6 = .ok (.bipush 10, 2) := by decide +kernel
theorem dX9_isPair_8 : decode cX9_isPair 8 = .ok (.idiv, 1) := by decide +kernel
theorem dX9_isPair_9 : decode cX9_isPair 9 = .ok (.invokevirtual 143, 3) := by decide +kernel
theorem dX9_isPair_12 : decode cX9_isPair 12 = .ok (.ifCond .eq 29, 3) := by decide +kernel
theorem dX9_isPair_15 : decode cX9_isPair 15 = .ok (.aload_n 0, 1) := by decide +kernel
theorem dX9_isPair_16 : decode cX9_isPair 16 = .ok (.iload_n 1, 1) := by decide +kernel
theorem dX9_isPair_17 : decode cX9_isPair 17 = .ok (.bipush 10, 2) := by decide +kernel
theorem dX9_isPair_19 : decode cX9_isPair 19 = .ok (.irem, 1) := by decide +kernel
theorem dX9_isPair_20 : decode cX9_isPair 20 = .ok (.invokevirtual 143, 3) := by decide +kernel
theorem dX9_isPair_23 : decode cX9_isPair 23 = .ok (.ifCond .eq 18, 3) := by decide +kernel
theorem dX9_isPair_26 : decode cX9_isPair 26 = .ok (.iload_n 1, 1) := by decide +kernel
theorem dX9_isPair_27 : decode cX9_isPair 27 = .ok (.bipush 10, 2) := by decide +kernel
theorem dX9_isPair_29 : decode cX9_isPair 29 = .ok (.idiv, 1) := by decide +kernel
theorem dX9_isPair_30 : decode cX9_isPair 30 = .ok (.iload_n 1, 1) := by decide +kernel
theorem dX9_isPair_31 : decode cX9_isPair 31 = .ok (.bipush 10, 2) := by decide +kernel
theorem dX9_isPair_33 : decode cX9_isPair 33 = .ok (.irem, 1) := by decide +kernel
theorem dX9_isPair_34 : decode cX9_isPair 34 = .ok (.if_icmp .eq 7, 3) := by decide +kernel
theorem dX9_isPair_37 : decode cX9_isPair 37 = .ok (.iconst 1, 1) := by decide +kernel
theorem dX9_isPair_38 : decode cX9_isPair 38 = .ok (.goto 4, 3) := by decide +kernel
theorem dX9_isPair_41 : decode cX9_isPair 41 = .ok (.iconst 0, 1) := by decide +kernel
theorem dX9_isPair_42 : decode cX9_isPair 42 = .ok (.ireturn, 1) := by decide +kernel
theorem dX9_refusedRings_0 : decode cX9_refusedRings 0 = .ok (.iload_n 1, 1) := by decide +kernel
theorem dX9_refusedRings_1 : decode cX9_refusedRings 1 = .ok (.invokestatic 94, 3) := by decide +kernel
theorem dX9_refusedRings_4 : decode cX9_refusedRings 4 = .ok (.ifCond .ne 5, 3) := by decide +kernel
theorem dX9_refusedRings_7 : decode cX9_refusedRings 7 = .ok (.iconst (-1), 1) := by decide +kernel
theorem dX9_refusedRings_8 : decode cX9_refusedRings 8 = .ok (.ireturn, 1) := by decide +kernel
theorem dX9_refusedRings_9 : decode cX9_refusedRings 9 = .ok (.aload_n 0, 1) := by decide +kernel
theorem dX9_refusedRings_10 : decode cX9_refusedRings 10 = .ok (.getfield 69, 3) := by decide +kernel
theorem dX9_refusedRings_13 : decode cX9_refusedRings 13 = .ok (.iload_n 1, 1) := by decide +kernel
theorem dX9_refusedRings_14 : decode cX9_refusedRings 14 = .ok (.aaload, 1) := by decide +kernel
theorem dX9_refusedRings_15 : decode cX9_refusedRings 15 = .ok (.getfield 98, 3) := by decide +kernel
theorem dX9_refusedRings_18 : decode cX9_refusedRings 18 = .ok (.istore_n 2, 1) := by decide +kernel
theorem dX9_refusedRings_19 : decode cX9_refusedRings 19 = .ok (.iload_n 2, 1) := by decide +kernel
theorem dX9_refusedRings_20 : decode cX9_refusedRings 20 = .ok (.bipush (-2), 2) := by decide +kernel
theorem dX9_refusedRings_22 : decode cX9_refusedRings 22 = .ok (.if_icmp .ne 6, 3) := by decide +kernel
theorem dX9_refusedRings_25 : decode cX9_refusedRings 25 = .ok (.bipush (-11), 2) := by decide +kernel
theorem dX9_refusedRings_27 : decode cX9_refusedRings 27 = .ok (.ireturn, 1) := by decide +kernel
theorem dX9_refusedRings_28 : decode cX9_refusedRings 28 = .ok (.iload_n 2, 1) := by decide +kernel
theorem dX9_refusedRings_29 : decode cX9_refusedRings 29 = .ok (.iconst 1, 1) := by decide +kernel
theorem dX9_refusedRings_30 : decode cX9_refusedRings 30 = .ok (.if_icmp .ne 7, 3) := by decide +kernel
theorem dX9_refusedRings_33 : decode cX9_refusedRings 33 = .ok (.iconst 0, 1) := by decide +kernel
theorem dX9_refusedRings_34 : decode cX9_refusedRings 34 = .ok (.goto 5, 3) := by decide +kernel
theorem dX9_refusedRings_37 : decode cX9_refusedRings 37 = .ok (.bipush (-12), 2) := by decide +kernel
theorem dX9_refusedRings_39 : decode cX9_refusedRings 39 = .ok (.ireturn, 1) := by decide +kernel
theorem dX9_refusedElement_0 : decode cX9_refusedElement 0 = .ok (.iload_n 1, 1) := by decide +kernel
theorem dX9_refusedElement_1 : decode cX9_refusedElement 1 = .ok (.invokestatic 94, 3) := by decide +kernel
theorem dX9_refusedElement_4 : decode cX9_refusedElement 4 = .ok (.ifCond .ne 5, 3) := by decide +kernel
theorem dX9_refusedElement_7 : decode cX9_refusedElement 7 = .ok (.iconst (-1), 1) := by decide +kernel
theorem dX9_refusedElement_8 : decode cX9_refusedElement 8 = .ok (.ireturn, 1) := by decide +kernel
theorem dX9_refusedElement_9 : decode cX9_refusedElement 9 = .ok (.aload_n 0, 1) := by decide +kernel
theorem dX9_refusedElement_10 : decode cX9_refusedElement 10 = .ok (.getfield 69, 3) := by decide +kernel
theorem dX9_refusedElement_13 : decode cX9_refusedElement 13 = .ok (.iload_n 1, 1) := by decide +kernel
theorem dX9_refusedElement_14 : decode cX9_refusedElement 14 = .ok (.aaload, 1) := by decide +kernel
theorem dX9_refusedElement_15 : decode cX9_refusedElement 15 = .ok (.astore_n 3, 1) := by decide +kernel
theorem dX9_refusedElement_16 : decode cX9_refusedElement 16 = .ok (.aload_n 3, 1) := by decide +kernel
theorem dX9_refusedElement_17 : decode cX9_refusedElement 17 = .ok (.getfield 98, 3) := by decide +kernel
theorem dX9_refusedElement_20 : decode cX9_refusedElement 20 = .ok (.bipush (-2), 2) := by decide +kernel
theorem dX9_refusedElement_22 : decode cX9_refusedElement 22 = .ok (.if_icmp .ne 6, 3) := by decide +kernel
theorem dX9_refusedElement_25 : decode cX9_refusedElement 25 = .ok (.bipush (-11), 2) := by decide +kernel
theorem dX9_refusedElement_27 : decode cX9_refusedElement 27 = .ok (.ireturn, 1) := by decide +kernel
theorem dX9_refusedElement_28 : decode cX9_refusedElement 28 = .ok (.aload_n 3, 1) := by decide +kernel
theorem dX9_refusedElement_29 : decode cX9_refusedElement 29 = .ok (.getfield 98, 3) := by decide +kernel
theorem dX9_refusedElement_32 : decode cX9_refusedElement 32 = .ok (.iconst (-1), 1) := by decide +kernel
theorem dX9_refusedElement_33 : decode cX9_refusedElement 33 = .ok (.if_icmp .ne 6, 3) := by decide +kernel
theorem dX9_refusedElement_36 : decode cX9_refusedElement 36 = .ok (.bipush (-12), 2) := by decide +kernel
theorem dX9_refusedElement_38 : decode cX9_refusedElement 38 = .ok (.ireturn, 1) := by decide +kernel
theorem dX9_refusedElement_39 : decode cX9_refusedElement 39 = .ok (.iload_n 2, 1) := by decide +kernel
theorem dX9_refusedElement_40 : decode cX9_refusedElement 40 = .ok (.ifCond .lt 15, 3) := by decide +kernel
theorem dX9_refusedElement_43 : decode cX9_refusedElement 43 = .ok (.iload_n 2, 1) := by decide +kernel
theorem dX9_refusedElement_44 : decode cX9_refusedElement 44 = .ok (.aload_n 3, 1) := by decide +kernel
theorem dX9_refusedElement_45 : decode cX9_refusedElement 45 = .ok (.getfield 319, 3) := by decide +kernel
theorem dX9_refusedElement_48 : decode cX9_refusedElement 48 = .ok (.if_icmp .ge 7, 3) := by decide +kernel
theorem dX9_refusedElement_51 : decode cX9_refusedElement 51 = .ok (.iconst 0, 1) := by decide +kernel
theorem dX9_refusedElement_52 : decode cX9_refusedElement 52 = .ok (.goto 5, 3) := by decide +kernel
theorem dX9_refusedElement_55 : decode cX9_refusedElement 55 = .ok (.bipush (-13), 2) := by decide +kernel
theorem dX9_refusedElement_57 : decode cX9_refusedElement 57 = .ok (.ireturn, 1) := by decide +kernel
theorem dX9_addStraw_0 : decode cX9_addStraw 0 = .ok (.aload_n 1, 1) := by decide +kernel
theorem dX9_addStraw_1 : decode cX9_addStraw 1 = .ok (.getfield 286, 3) := by decide +kernel
theorem dX9_addStraw_4 : decode cX9_addStraw 4 = .ok (.iload_n 2, 1) := by decide +kernel
theorem dX9_addStraw_5 : decode cX9_addStraw 5 = .ok (.laload, 1) := by decide +kernel
theorem dX9_addStraw_6 : decode cX9_addStraw 6 = .ok (.l2i, 1) := by decide +kernel
theorem dX9_addStraw_7 : decode cX9_addStraw 7 = .ok (.istore_n 3, 1) := by decide +kernel
theorem dX9_addStraw_8 : decode cX9_addStraw 8 = .ok (.aload_n 1, 1) := by decide +kernel
theorem dX9_addStraw_9 : decode cX9_addStraw 9 = .ok (.getfield 286, 3) := by decide +kernel
theorem dX9_addStraw_12 : decode cX9_addStraw 12 = .ok (.iload_n 2, 1) := by decide +kernel
theorem dX9_addStraw_13 : decode cX9_addStraw 13 = .ok (.iconst 1, 1) := by decide +kernel
theorem dX9_addStraw_14 : decode cX9_addStraw 14 = .ok (.iadd, 1) := by decide +kernel
theorem dX9_addStraw_15 : decode cX9_addStraw 15 = .ok (.laload, 1) := by decide +kernel
theorem dX9_addStraw_16 : decode cX9_addStraw 16 = .ok (.l2i, 1) := by decide +kernel
theorem dX9_addStraw_17 : decode cX9_addStraw 17 = .ok (.istore 4, 2) := by decide +kernel
theorem dX9_addStraw_19 : decode cX9_addStraw 19 = .ok (.aload_n 1, 1) := by decide +kernel
theorem dX9_addStraw_20 : decode cX9_addStraw 20 = .ok (.getfield 286, 3) := by decide +kernel
theorem dX9_addStraw_23 : decode cX9_addStraw 23 = .ok (.iload_n 2, 1) := by decide +kernel
theorem dX9_addStraw_24 : decode cX9_addStraw 24 = .ok (.iconst 2, 1) := by decide +kernel
theorem dX9_addStraw_25 : decode cX9_addStraw 25 = .ok (.iadd, 1) := by decide +kernel
theorem dX9_addStraw_26 : decode cX9_addStraw 26 = .ok (.laload, 1) := by decide +kernel
theorem dX9_addStraw_27 : decode cX9_addStraw 27 = .ok (.l2i, 1) := by decide +kernel
theorem dX9_addStraw_28 : decode cX9_addStraw 28 = .ok (.istore 5, 2) := by decide +kernel
theorem dX9_addStraw_30 : decode cX9_addStraw 30 = .ok (.iconst 0, 1) := by decide +kernel
theorem dX9_addStraw_31 : decode cX9_addStraw 31 = .ok (.iload_n 3, 1) := by decide +kernel
theorem dX9_addStraw_32 : decode cX9_addStraw 32 = .ok (.invokestatic 78, 3) := by decide +kernel
theorem dX9_addStraw_35 : decode cX9_addStraw 35 = .ok (.ifCond .eq 21, 3) := by decide +kernel
theorem dX9_addStraw_38 : decode cX9_addStraw 38 = .ok (.iconst 1, 1) := by decide +kernel
theorem dX9_addStraw_39 : decode cX9_addStraw 39 = .ok (.iload 4, 2) := by decide +kernel
theorem dX9_addStraw_41 : decode cX9_addStraw 41 = .ok (.invokestatic 78, 3) := by decide +kernel
theorem dX9_addStraw_44 : decode cX9_addStraw 44 = .ok (.ifCond .eq 12, 3) := by decide +kernel
theorem dX9_addStraw_47 : decode cX9_addStraw 47 = .ok (.iconst 2, 1) := by decide +kernel
theorem dX9_addStraw_48 : decode cX9_addStraw 48 = .ok (.iload 5, 2) := by decide +kernel
theorem dX9_addStraw_50 : decode cX9_addStraw 50 = .ok (.invokestatic 78, 3) := by decide +kernel
theorem dX9_addStraw_53 : decode cX9_addStraw 53 = .ok (.ifCond .ne 5, 3) := by decide +kernel
theorem dX9_addStraw_56 : decode cX9_addStraw 56 = .ok (.iconst 0, 1) := by decide +kernel
theorem dX9_addStraw_57 : decode cX9_addStraw 57 = .ok (.ireturn, 1) := by decide +kernel
theorem dX9_addStraw_58 : decode cX9_addStraw 58 = .ok (.aload_n 0, 1) := by decide +kernel
theorem dX9_addStraw_59 : decode cX9_addStraw 59 = .ok (.getfield 10, 3) := by decide +kernel
theorem dX9_addStraw_62 : decode cX9_addStraw 62 = .ok (.iload_n 3, 1) := by decide +kernel
theorem dX9_addStraw_63 : decode cX9_addStraw 63 = .ok (.iload 4, 2) := by decide +kernel
theorem dX9_addStraw_65 : decode cX9_addStraw 65 = .ok (.iload 5, 2) := by decide +kernel
theorem dX9_addStraw_67 : decode cX9_addStraw 67 = .ok (.invokevirtual 90, 3) := by decide +kernel
theorem dX9_addStraw_70 : decode cX9_addStraw 70 = .ok (.ifCond .lt 7, 3) := by decide +kernel
theorem dX9_addStraw_73 : decode cX9_addStraw 73 = .ok (.iconst 1, 1) := by decide +kernel
theorem dX9_addStraw_74 : decode cX9_addStraw 74 = .ok (.goto 4, 3) := by decide +kernel
theorem dX9_addStraw_77 : decode cX9_addStraw 77 = .ok (.iconst 0, 1) := by decide +kernel
theorem dX9_addStraw_78 : decode cX9_addStraw 78 = .ok (.ireturn, 1) := by decide +kernel
end
section
theorem dX10_within_0 : decode cX10_within 0 = .ok (.lload_n 0, 1) := by decide +kernel
theorem dX10_within_1 : decode cX10_within 1 = .ok (.lload_n 2, 1) := by decide +kernel
theorem dX10_within_2 : decode cX10_within 2 = .ok (.lcmp, 1) := by decide +kernel
theorem dX10_within_3 : decode cX10_within 3 = .ok (.ifCond .lt 14, 3) := by decide +kernel
theorem dX10_within_6 : decode cX10_within 6 = .ok (.lload_n 0, 1) := by decide +kernel
theorem dX10_within_7 : decode cX10_within 7 = .ok (.lload 4, 2) := by decide +kernel
theorem dX10_within_9 : decode cX10_within 9 = .ok (.lcmp, 1) := by decide +kernel
theorem dX10_within_10 : decode cX10_within 10 = .ok (.ifCond .gt 7, 3) := by decide +kernel
theorem dX10_within_13 : decode cX10_within 13 = .ok (.iconst 1, 1) := by decide +kernel
theorem dX10_within_14 : decode cX10_within 14 = .ok (.goto 4, 3) := by decide +kernel
theorem dX10_within_17 : decode cX10_within 17 = .ok (.iconst 0, 1) := by decide +kernel
theorem dX10_within_18 : decode cX10_within 18 = .ok (.ireturn, 1) := by decide +kernel
theorem dX10_isIn_0 : decode cX10_isIn 0 = .ok (.iload_n 0, 1) := by decide +kernel
theorem dX10_isIn_1 : decode cX10_isIn 1 = .ok (.iload_n 1, 1) := by decide +kernel
theorem dX10_isIn_2 : decode cX10_isIn 2 = .ok (.ishr, 1) := by decide +kernel
theorem dX10_isIn_3 : decode cX10_isIn 3 = .ok (.iconst 1, 1) := by decide +kernel
theorem dX10_isIn_4 : decode cX10_isIn 4 = .ok (.iand, 1) := by decide +kernel
theorem dX10_isIn_5 : decode cX10_isIn 5 = .ok (.iconst 1, 1) := by decide +kernel
theorem dX10_isIn_6 : decode cX10_isIn 6 = .ok (.if_icmp .ne 7, 3) := by decide +kernel
theorem dX10_isIn_9 : decode cX10_isIn 9 = .ok (.iconst 1, 1) := by decide +kernel
theorem dX10_isIn_10 : decode cX10_isIn 10 = .ok (.goto 4, 3) := by decide +kernel
theorem dX10_isIn_13 : decode cX10_isIn 13 = .ok (.iconst 0, 1) := by decide +kernel
theorem dX10_isIn_14 : decode cX10_isIn 14 = .ok (.ireturn, 1) := by decide +kernel
theorem dX10_init_0 : decode cX10_init 0 = .ok (.aload_n 0, 1) := by decide +kernel
theorem dX10_init_1 : decode cX10_init 1 = .ok (.invokespecial 3, 3) := by decide +kernel
theorem dX10_init_4 : decode cX10_init 4 = .ok (.aload_n 0, 1) := by decide +kernel
theorem dX10_init_5 : decode cX10_init 5 = .ok (.bipush 28, 2) := by decide +kernel
theorem dX10_init_7 : decode cX10_init 7 = .ok (.newarray .int, 2) := by decide +kernel
theorem dX10_init_9 : decode cX10_init 9 = .ok (.putfield 9, 3) := by decide +kernel
theorem dX10_init_12 : decode cX10_init 12 = .ok (.aload_n 0, 1) := by decide +kernel
theorem dX10_init_13 : decode cX10_init 13 = .ok (.bipush 40, 2) := by decide +kernel
theorem dX10_init_15 : decode cX10_init 15 = .ok (.newarray .int, 2) := by decide +kernel
theorem dX10_init_17 : decode cX10_init 17 = .ok (.putfield 13, 3) := by decide +kernel
theorem dX10_init_20 : decode cX10_init 20 = .ok (.aload_n 0, 1) := by decide +kernel
theorem dX10_init_21 : decode cX10_init 21 = .ok (.bipush 40, 2) := by decide +kernel
theorem dX10_init_23 : decode cX10_init 23 = .ok (.newarray .int, 2) := by decide +kernel
theorem dX10_init_25 : decode cX10_init 25 = .ok (.putfield 16, 3) := by decide +kernel
theorem dX10_init_28 : decode cX10_init 28 = .ok (.aload_n 0, 1) := by decide +kernel
theorem dX10_init_29 : decode cX10_init 29 = .ok (.bipush 40, 2) := by decide +kernel
theorem dX10_init_31 : decode cX10_init 31 = .ok (.newarray .int, 2) := by decide +kernel
theorem dX10_init_33 : decode cX10_init 33 = .ok (.putfield 19, 3) := by decide +kernel
theorem dX10_init_36 : decode cX10_init 36 = .ok (.aload_n 0, 1) := by decide +kernel
theorem dX10_init_37 : decode cX10_init 37 = .ok (.iconst 3, 1) := by decide +kernel
theorem dX10_init_38 : decode cX10_init 38 = .ok (.newarray .int, 2) := by decide +kernel
theorem dX10_init_40 : decode cX10_init 40 = .ok (.putfield 22, 3) := by decide +kernel
theorem dX10_init_43 : decode cX10_init 43 = .ok (.aload_n 0, 1) := by decide +kernel
theorem dX10_init_44 : decode cX10_init 44 = .ok (.bipush 120, 2) := by decide +kernel
theorem dX10_init_46 : decode cX10_init 46 = .ok (.newarray .int, 2) := by decide +kernel
theorem dX10_init_48 : decode cX10_init 48 = .ok (.putfield 25, 3) := by decide +kernel
theorem dX10_init_51 : decode cX10_init 51 = .ok (.aload_n 0, 1) := by decide +kernel
theorem dX10_init_52 : decode cX10_init 52 = .ok (.bipush 120, 2) := by decide +kernel
theorem dX10_init_54 : decode cX10_init 54 = .ok (.newarray .int, 2) := by decide +kernel
theorem dX10_init_56 : decode cX10_init 56 = .ok (.putfield 28, 3) := by decide +kernel
theorem dX10_init_59 : decode cX10_init 59 = .ok (.aload_n 0, 1) := by decide +kernel
theorem dX10_init_60 : decode cX10_init 60 = .ok (.bipush 6, 2) := by decide +kernel
theorem dX10_init_62 : decode cX10_init 62 = .ok (.newarray .int, 2) := by decide +kernel
theorem dX10_init_64 : decode cX10_init 64 = .ok (.putfield 31, 3) := by decide +kernel
theorem dX10_init_67 : decode cX10_init 67 = .ok (.aload_n 0, 1) := by decide +kernel
theorem dX10_init_68 : decode cX10_init 68 = .ok (.iconst 3, 1) := by decide +kernel
theorem dX10_init_69 : decode cX10_init 69 = .ok (.newarray .int, 2) := by decide +kernel
theorem dX10_init_71 : decode cX10_init 71 = .ok (.putfield 34, 3) := by decide +kernel
theorem dX10_init_74 : decode cX10_init 74 = .ok (.aload_n 0, 1) := by decide +kernel
theorem dX10_init_75 : decode cX10_init 75 = .ok (.iconst 3, 1) := by decide +kernel
theorem dX10_init_76 : decode cX10_init 76 = .ok (.newarray .int, 2) := by decide +kernel
theorem dX10_init_78 : decode cX10_init 78 = .ok (.putfield 37, 3) := by decide +kernel
theorem dX10_init_81 : decode cX10_init 81 = .ok (.aload_n 0, 1) := by decide +kernel
theorem dX10_init_82 : decode cX10_init 82 = .ok (.iconst 3, 1) := by decide +kernel
theorem dX10_init_83 : decode cX10_init 83 = .ok (.newarray .int, 2) := by decide +kernel
theorem dX10_init_85 : decode cX10_init 85 = .ok (.putfield 40, 3) := by decide +kernel
theorem dX10_init_88 : decode cX10_init 88 = .ok (.aload_n 0, 1) := by decide +kernel
theorem dX10_init_89 : decode cX10_init 89 = .ok (.iconst 3, 1) := by decide +kernel
theorem dX10_init_90 : decode cX10_init 90 = .ok (.newarray .int, 2) := by decide +kernel
theorem dX10_init_92 : decode cX10_init 92 = .ok (.putfield 43, 3) := by decide +kernel
theorem dX10_init_95 : decode cX10_init 95 = .ok (.aload_n 0, 1) := by decide +kernel
theorem dX10_init_96 : decode cX10_init 96 = .ok (.sipush 1000, 3) := by decide +kernel
theorem dX10_init_99 : decode cX10_init 99 = .ok (.newarray .int, 2) := by decide +kernel
theorem dX10_init_101 : decode cX10_init 101 = .ok (.putfield 46, 3) := by decide +kernel
theorem dX10_init_104 : decode cX10_init 104 = .ok (.aload_n 0, 1) := by decide +kernel
theorem dX10_init_105 : decode cX10_init 105 = .ok (.sipush 1000, 3) := by decide +kernel
theorem dX10_init_108 : decode cX10_init 108 = .ok (.newarray .int, 2) := by decide +kernel
theorem dX10_init_110 : decode cX10_init 110 = .ok (.putfield 49, 3) := by decide +kernel
theorem dX10_init_113 : decode cX10_init 113 = .ok (.aload_n 0, 1) := by decide +kernel
theorem dX10_init_114 : decode cX10_init 114 = .ok (.sipush 441, 3) := by decide +kernel
theorem dX10_init_117 : decode cX10_init 117 = .ok (.newarray .int, 2) := by decide +kernel
theorem dX10_init_119 : decode cX10_init 119 = .ok (.putfield 52, 3) := by decide +kernel
theorem dX10_init_122 : decode cX10_init 122 = .ok (.aload_n 0, 1) := by decide +kernel
theorem dX10_init_123 : decode cX10_init 123 = .ok (.sipush 441, 3) := by decide +kernel
theorem dX10_init_126 : decode cX10_init 126 = .ok (.newarray .int, 2) := by decide +kernel
theorem dX10_init_128 : decode cX10_init 128 = .ok (.putfield 55, 3) := by decide +kernel
theorem dX10_init_131 : decode cX10_init 131 = .ok (.aload_n 0, 1) := by decide +kernel
theorem dX10_init_132 : decode cX10_init 132 = .ok (.iconst 3, 1) := by decide +kernel
theorem dX10_init_133 : decode cX10_init 133 = .ok (.newarray .int, 2) := by decide +kernel
theorem dX10_init_135 : decode cX10_init 135 = .ok (.putfield 58, 3) := by decide +kernel
theorem dX10_init_138 : decode cX10_init 138 = .ok (.aload_n 0, 1) := by decide +kernel
theorem dX10_init_139 : decode cX10_init 139 = .ok (.iconst 3, 1) := by decide +kernel
theorem dX10_init_140 : decode cX10_init 140 = .ok (.newarray .int, 2) := by decide +kernel
theorem dX10_init_142 : decode cX10_init 142 = .ok (.putfield 61, 3) := by decide +kernel
theorem dX10_init_145 : decode cX10_init 145 = .ok (.aload_n 0, 1) := by decide +kernel
theorem dX10_init_146 : decode cX10_init 146 = .ok (.iconst 3, 1) := by decide +kernel
theorem dX10_init_147 : decode cX10_init 147 = .ok (.newarray .int, 2) := by decide +kernel
theorem dX10_init_149 : decode cX10_init 149 = .ok (.putfield 64, 3) := by decide +kernel
theorem dX10_init_152 : decode cX10_init 152 = .ok (.aload_n 0, 1) := by decide +kernel
theorem dX10_init_153 : decode cX10_init 153 = .ok (.bipush 17, 2) := by decide +kernel
theorem dX10_init_155 : decode cX10_init 155 = .ok (.newarray .int, 2) := by decide +kernel
theorem dX10_init_157 : decode cX10_init 157 = .ok (.putfield 67, 3) := by decide +kernel
theorem dX10_init_160 : decode cX10_init 160 = .ok (.aload_n 0, 1) := by decide +kernel
theorem dX10_init_161 : decode cX10_init 161 = .ok (.bipush 50, 2) := by decide +kernel
theorem dX10_init_163 : decode cX10_init 163 = .ok (.newarray .int, 2) := by decide +kernel
theorem dX10_init_165 : decode cX10_init 165 = .ok (.putfield 70, 3) := by decide +kernel
theorem dX10_init_168 : decode cX10_init 168 = .ok (.aload_n 0, 1) := by decide +kernel
theorem dX10_init_169 : decode cX10_init 169 = .ok (.bipush 24, 2) := by decide +kernel
theorem dX10_init_171 : decode cX10_init 171 = .ok (.newarray .int, 2) := by decide +kernel
theorem dX10_init_173 : decode cX10_init 173 = .ok (.putfield 73, 3) := by decide +kernel
theorem dX10_init_176 : decode cX10_init 176 = .ok (.aload_n 0, 1) := by decide +kernel
theorem dX10_init_177 : decode cX10_init 177 = .ok (.bipush 6, 2) := by decide +kernel
theorem dX10_init_179 : decode cX10_init 179 = .ok (.newarray .int, 2) := by decide +kernel
theorem dX10_init_181 : decode cX10_init 181 = .ok (.putfield 76, 3) := by decide +kernel
theorem dX10_init_184 : decode cX10_init 184 = .ok (.aload_n 0, 1) := by decide +kernel
theorem dX10_init_185 : decode cX10_init 185 = .ok (.bipush 6, 2) := by decide +kernel
theorem dX10_init_187 : decode cX10_init 187 = .ok (.newarray .int, 2) := by decide +kernel
theorem dX10_init_189 : decode cX10_init 189 = .ok (.putfield 79, 3) := by decide +kernel
theorem dX10_init_192 : decode cX10_init 192 = .ok (.aload_n 0, 1) := by decide +kernel
theorem dX10_init_193 : decode cX10_init 193 = .ok (.sipush 360, 3) := by decide +kernel
theorem dX10_init_196 : decode cX10_init 196 = .ok (.newarray .long, 2) := by decide +kernel
theorem dX10_init_198 : decode cX10_init 198 = .ok (.putfield 82, 3) := by decide +kernel
theorem dX10_init_201 : decode cX10_init 201 = .ok (.aload_n 0, 1) := by decide +kernel
theorem dX10_init_202 : decode cX10_init 202 = .ok (.bipush 60, 2) := by decide +kernel
theorem dX10_init_204 : decode cX10_init 204 = .ok (.newarray .long, 2) := by decide +kernel
theorem dX10_init_206 : decode cX10_init 206 = .ok (.putfield 86, 3) := by decide +kernel
theorem dX10_init_209 : decode cX10_init 209 = .ok (.iconst 0, 1) := by decide +kernel
theorem dX10_init_210 : decode cX10_init 210 = .ok (.istore_n 1, 1) := by decide +kernel
theorem dX10_init_211 : decode cX10_init 211 = .ok (.iload_n 1, 1) := by decide +kernel
theorem dX10_init_212 : decode cX10_init 212 = .ok (.bipush 6, 2) := by decide +kernel
theorem dX10_init_214 : decode cX10_init 214 = .ok (.if_icmp .ge 16, 3) := by decide +kernel
theorem dX10_init_217 : decode cX10_init 217 = .ok (.aload_n 0, 1) := by decide +kernel
theorem dX10_init_218 : decode cX10_init 218 = .ok (.getfield 76, 3) := by decide +kernel
theorem dX10_init_221 : decode cX10_init 221 = .ok (.iload_n 1, 1) := by decide +kernel
theorem dX10_init_222 : decode cX10_init 222 = .ok (.iconst (-1), 1) := by decide +kernel
theorem dX10_init_223 : decode cX10_init 223 = .ok (.iastore, 1) := by decide +kernel
theorem dX10_init_224 : decode cX10_init 224 = .ok (.iinc 1 1, 3) := by decide +kernel
theorem dX10_init_227 : decode cX10_init 227 = .ok (.goto (-16), 3) := by decide +kernel
theorem dX10_init_230 : decode cX10_init 230 = .ok (.aload_n 0, 1) := by decide +kernel
theorem dX10_init_231 : decode cX10_init 231 = .ok (.iconst (-1), 1) := by decide +kernel
theorem dX10_init_232 : decode cX10_init 232 = .ok (.putfield 89, 3) := by decide +kernel
theorem dX10_init_235 : decode cX10_init 235 = .ok (.aload_n 0, 1) := by decide +kernel
theorem dX10_init_236 : decode cX10_init 236 = .ok (.getfield 9, 3) := by decide +kernel
theorem dX10_init_239 : decode cX10_init 239 = .ok (.bipush 24, 2) := by decide +kernel
theorem dX10_init_241 : decode cX10_init 241 = .ok (.iconst 1, 1) := by decide +kernel
theorem dX10_init_242 : decode cX10_init 242 = .ok (.iastore, 1) := by decide +kernel
theorem dX10_init_243 : decode cX10_init 243 = .ok (.aload_n 0, 1) := by decide +kernel
theorem dX10_init_244 : decode cX10_init 244 = .ok (.getfield 9, 3) := by decide +kernel
theorem dX10_init_247 : decode cX10_init 247 = .ok (.bipush 26, 2) := by decide +kernel
theorem dX10_init_249 : decode cX10_init 249 = .ok (.iconst 1, 1) := by decide +kernel
theorem dX10_init_250 : decode cX10_init 250 = .ok (.iastore, 1) := by decide +kernel
theorem dX10_init_251 : decode cX10_init 251 = .ok (.aload_n 0, 1) := by decide +kernel
theorem dX10_init_252 : decode cX10_init 252 = .ok (.sipush 200, 3) := by decide +kernel
theorem dX10_init_255 : decode cX10_init 255 = .ok (.putfield 93, 3) := by decide +kernel
theorem dX10_init_258 : decode cX10_init 258 = .ok (.return_, 1) := by decide +kernel
theorem dX10_becomes_0 : decode cX10_becomes 0 = .ok (.aload_n 0, 1) := by decide +kernel
theorem dX10_becomes_1 : decode cX10_becomes 1 = .ok (.getfield 9, 3) := by decide +kernel
theorem dX10_becomes_4 : decode cX10_becomes 4 = .ok (.iload_n 1, 1) := by decide +kernel
theorem dX10_becomes_5 : decode cX10_becomes 5 = .ok (.iaload, 1) := by decide +kernel
theorem dX10_becomes_6 : decode cX10_becomes 6 = .ok (.istore_n 3, 1) := by decide +kernel
theorem dX10_becomes_7 : decode cX10_becomes 7 = .ok (.iload_n 3, 1) := by decide +kernel
theorem dX10_becomes_8 : decode cX10_becomes 8 = .ok (.iload_n 2, 1) := by decide +kernel
theorem dX10_becomes_9 : decode cX10_becomes 9 = .ok (.if_icmp .ne 5, 3) := by decide +kernel
theorem dX10_becomes_12 : decode cX10_becomes 12 = .ok (.iload_n 3, 1) := by decide +kernel
theorem dX10_becomes_13 : decode cX10_becomes 13 = .ok (.ireturn, 1) := by decide +kernel
theorem dX10_becomes_14 : decode cX10_becomes 14 = .ok (.aload_n 0, 1) := by decide +kernel
theorem dX10_becomes_15 : decode cX10_becomes 15 = .ok (.getfield 96, 3) := by decide +kernel
theorem dX10_becomes_18 : decode cX10_becomes 18 = .ok (.bipush 40, 2) := by decide +kernel
theorem dX10_becomes_20 : decode cX10_becomes 20 = .ok (.if_icmp .ne 77, 3) := by decide +kernel
theorem dX10_becomes_23 : decode cX10_becomes 23 = .ok (.iconst 1, 1) := by decide +kernel
theorem dX10_becomes_24 : decode cX10_becomes 24 = .ok (.istore 4, 2) := by decide +kernel
theorem dX10_becomes_26 : decode cX10_becomes 26 = .ok (.iload 4, 2) := by decide +kernel
theorem dX10_becomes_28 : decode cX10_becomes 28 = .ok (.bipush 40, 2) := by decide +kernel
theorem dX10_becomes_30 : decode cX10_becomes 30 = .ok (.if_icmp .ge 57, 3) := by decide +kernel
theorem dX10_becomes_33 : decode cX10_becomes 33 = .ok (.aload_n 0, 1) := by decide +kernel
theorem dX10_becomes_34 : decode cX10_becomes 34 = .ok (.getfield 13, 3) := by decide +kernel
theorem dX10_becomes_37 : decode cX10_becomes 37 = .ok (.iload 4, 2) := by decide +kernel
theorem dX10_becomes_39 : decode cX10_becomes 39 = .ok (.iconst 1, 1) := by decide +kernel
theorem dX10_becomes_40 : decode cX10_becomes 40 = .ok (.isub, 1) := by decide +kernel
theorem dX10_becomes_41 : decode cX10_becomes 41 = .ok (.aload_n 0, 1) := by decide +kernel
theorem dX10_becomes_42 : decode cX10_becomes 42 = .ok (.getfield 13, 3) := by decide +kernel
theorem dX10_becomes_45 : decode cX10_becomes 45 = .ok (.iload 4, 2) := by decide +kernel
theorem dX10_becomes_47 : decode cX10_becomes 47 = .ok (.iaload, 1) := by decide +kernel
theorem dX10_becomes_48 : decode cX10_becomes 48 = .ok (.iastore, 1) := by decide +kernel
theorem dX10_becomes_49 : decode cX10_becomes 49 = .ok (.aload_n 0, 1) := by decide +kernel
theorem dX10_becomes_50 : decode cX10_becomes 50 = .ok (.getfield 16, 3) := by decide +kernel
theorem dX10_becomes_53 : decode cX10_becomes 53 = .ok (.iload 4, 2) := by decide +kernel
theorem dX10_becomes_55 : decode cX10_becomes 55 = .ok (.iconst 1, 1) := by decide +kernel
theorem dX10_becomes_56 : decode cX10_becomes 56 = .ok (.isub, 1) := by decide +kernel
theorem dX10_becomes_57 : decode cX10_becomes 57 = .ok (.aload_n 0, 1) := by decide +kernel
theorem dX10_becomes_58 : decode cX10_becomes 58 = .ok (.getfield 16, 3) := by decide +kernel
theorem dX10_becomes_61 : decode cX10_becomes 61 = .ok (.iload 4, 2) := by decide +kernel
theorem dX10_becomes_63 : decode cX10_becomes 63 = .ok (.iaload, 1) := by decide +kernel
theorem dX10_becomes_64 : decode cX10_becomes 64 = .ok (.iastore, 1) := by decide +kernel
theorem dX10_becomes_65 : decode cX10_becomes 65 = .ok (.aload_n 0, 1) := by decide +kernel
theorem dX10_becomes_66 : decode cX10_becomes 66 = .ok (.getfield 19, 3) := by decide +kernel
theorem dX10_becomes_69 : decode cX10_becomes 69 = .ok (.iload 4, 2) := by decide +kernel
theorem dX10_becomes_71 : decode cX10_becomes 71 = .ok (.iconst 1, 1) := by decide +kernel
theorem dX10_becomes_72 : decode cX10_becomes 72 = .ok (.isub, 1) := by decide +kernel
theorem dX10_becomes_73 : decode cX10_becomes 73 = .ok (.aload_n 0, 1) := by decide +kernel
theorem dX10_becomes_74 : decode cX10_becomes 74 = .ok (.getfield 19, 3) := by decide +kernel
theorem dX10_becomes_77 : decode cX10_becomes 77 = .ok (.iload 4, 2) := by decide +kernel
theorem dX10_becomes_79 : decode cX10_becomes 79 = .ok (.iaload, 1) := by decide +kernel
theorem dX10_becomes_80 : decode cX10_becomes 80 = .ok (.iastore, 1) := by decide +kernel
theorem dX10_becomes_81 : decode cX10_becomes 81 = .ok (.iinc 4 1, 3) := by decide +kernel
theorem dX10_becomes_84 : decode cX10_becomes 84 = .ok (.goto (-58), 3) := by decide +kernel
theorem dX10_becomes_87 : decode cX10_becomes 87 = .ok (.aload_n 0, 1) := by decide +kernel
theorem dX10_becomes_88 : decode cX10_becomes 88 = .ok (.dup, 1) := by decide +kernel
theorem dX10_becomes_89 : decode cX10_becomes 89 = .ok (.getfield 96, 3) := by decide +kernel
theorem dX10_becomes_92 : decode cX10_becomes 92 = .ok (.iconst 1, 1) := by decide +kernel
theorem dX10_becomes_93 : decode cX10_becomes 93 = .ok (.isub, 1) := by decide +kernel
theorem dX10_becomes_94 : decode cX10_becomes 94 = .ok (.putfield 96, 3) := by decide +kernel
theorem dX10_becomes_97 : decode cX10_becomes 97 = .ok (.aload_n 0, 1) := by decide +kernel
theorem dX10_becomes_98 : decode cX10_becomes 98 = .ok (.getfield 13, 3) := by decide +kernel
theorem dX10_becomes_101 : decode cX10_becomes 101 = .ok (.aload_n 0, 1) := by decide +kernel
theorem dX10_becomes_102 : decode cX10_becomes 102 = .ok (.getfield 96, 3) := by decide +kernel
theorem dX10_becomes_105 : decode cX10_becomes 105 = .ok (.iload_n 1, 1) := by decide +kernel
theorem dX10_becomes_106 : decode cX10_becomes 106 = .ok (.iastore, 1) := by decide +kernel
theorem dX10_becomes_107 : decode cX10_becomes 107 = .ok (.aload_n 0, 1) := by decide +kernel
theorem dX10_becomes_108 : decode cX10_becomes 108 = .ok (.getfield 16, 3) := by decide +kernel
theorem dX10_becomes_111 : decode cX10_becomes 111 = .ok (.aload_n 0, 1) := by decide +kernel
theorem dX10_becomes_112 : decode cX10_becomes 112 = .ok (.getfield 96, 3) := by decide +kernel
theorem dX10_becomes_115 : decode cX10_becomes 115 = .ok (.iload_n 3, 1) := by decide +kernel
theorem dX10_becomes_116 : decode cX10_becomes 116 = .ok (.iastore, 1) := by decide +kernel
theorem dX10_becomes_117 : decode cX10_becomes 117 = .ok (.aload_n 0, 1) := by decide +kernel
theorem dX10_becomes_118 : decode cX10_becomes 118 = .ok (.getfield 19, 3) := by decide +kernel
theorem dX10_becomes_121 : decode cX10_becomes 121 = .ok (.aload_n 0, 1) := by decide +kernel
theorem dX10_becomes_122 : decode cX10_becomes 122 = .ok (.getfield 96, 3) := by decide +kernel
theorem dX10_becomes_125 : decode cX10_becomes 125 = .ok (.iload_n 2, 1) := by decide +kernel
theorem dX10_becomes_126 : decode cX10_becomes 126 = .ok (.iastore, 1) := by decide +kernel
theorem dX10_becomes_127 : decode cX10_becomes 127 = .ok (.aload_n 0, 1) := by decide +kernel
theorem dX10_becomes_128 : decode cX10_becomes 128 = .ok (.dup, 1) := by decide +kernel
theorem dX10_becomes_129 : decode cX10_becomes 129 = .ok (.getfield 96, 3) := by decide +kernel
theorem dX10_becomes_132 : decode cX10_becomes 132 = .ok (.iconst 1, 1) := by decide +kernel
theorem dX10_becomes_133 : decode cX10_becomes 133 = .ok (.iadd, 1) := by decide +kernel
theorem dX10_becomes_134 : decode cX10_becomes 134 = .ok (.putfield 96, 3) := by decide +kernel
theorem dX10_becomes_137 : decode cX10_becomes 137 = .ok (.aload_n 0, 1) := by decide +kernel
theorem dX10_becomes_138 : decode cX10_becomes 138 = .ok (.aload_n 0, 1) := by decide +kernel
theorem dX10_becomes_139 : decode cX10_becomes 139 = .ok (.getfield 96, 3) := by decide +kernel
theorem dX10_becomes_142 : decode cX10_becomes 142 = .ok (.putfield 99, 3) := by decide +kernel
theorem dX10_becomes_145 : decode cX10_becomes 145 = .ok (.aload_n 0, 1) := by decide +kernel
theorem dX10_becomes_146 : decode cX10_becomes 146 = .ok (.getfield 9, 3) := by decide +kernel
theorem dX10_becomes_149 : decode cX10_becomes 149 = .ok (.iload_n 1, 1) := by decide +kernel
theorem dX10_becomes_150 : decode cX10_becomes 150 = .ok (.iload_n 2, 1) := by decide +kernel
theorem dX10_becomes_151 : decode cX10_becomes 151 = .ok (.iastore, 1) := by decide +kernel
theorem dX10_becomes_152 : decode cX10_becomes 152 = .ok (.iload_n 3, 1) := by decide +kernel
theorem dX10_becomes_153 : decode cX10_becomes 153 = .ok (.ireturn, 1) := by decide +kernel
theorem dX10_undo_0 : decode cX10_undo 0 = .ok (.aload_n 0, 1) := by decide +kernel
theorem dX10_undo_1 : decode cX10_undo 1 = .ok (.getfield 96, 3) := by decide +kernel
theorem dX10_undo_4 : decode cX10_undo 4 = .ok (.ifCond .ne 6, 3) := by decide +kernel
theorem dX10_undo_7 : decode cX10_undo 7 = .ok (.bipush (-5), 2) := by decide +kernel
theorem dX10_undo_9 : decode cX10_undo 9 = .ok (.ireturn, 1) := by decide +kernel
theorem dX10_undo_10 : decode cX10_undo 10 = .ok (.aload_n 0, 1) := by decide +kernel
theorem dX10_undo_11 : decode cX10_undo 11 = .ok (.dup, 1) := by decide +kernel
theorem dX10_undo_12 : decode cX10_undo 12 = .ok (.getfield 96, 3) := by decide +kernel
theorem dX10_undo_15 : decode cX10_undo 15 = .ok (.iconst 1, 1) := by decide +kernel
theorem dX10_undo_16 : decode cX10_undo 16 = .ok (.isub, 1) := by decide +kernel
theorem dX10_undo_17 : decode cX10_undo 17 = .ok (.putfield 96, 3) := by decide +kernel
theorem dX10_undo_20 : decode cX10_undo 20 = .ok (.aload_n 0, 1) := by decide +kernel
theorem dX10_undo_21 : decode cX10_undo 21 = .ok (.getfield 9, 3) := by decide +kernel
theorem dX10_undo_24 : decode cX10_undo 24 = .ok (.aload_n 0, 1) := by decide +kernel
theorem dX10_undo_25 : decode cX10_undo 25 = .ok (.getfield 13, 3) := by decide +kernel
theorem dX10_undo_28 : decode cX10_undo 28 = .ok (.aload_n 0, 1) := by decide +kernel
theorem dX10_undo_29 : decode cX10_undo 29 = .ok (.getfield 96, 3) := by decide +kernel
theorem dX10_undo_32 : decode cX10_undo 32 = .ok (.iaload, 1) := by decide +kernel
theorem dX10_undo_33 : decode cX10_undo 33 = .ok (.aload_n 0, 1) := by decide +kernel
theorem dX10_undo_34 : decode cX10_undo 34 = .ok (.getfield 16, 3) := by decide +kernel
theorem dX10_undo_37 : decode cX10_undo 37 = .ok (.aload_n 0, 1) := by decide +kernel
theorem dX10_undo_38 : decode cX10_undo 38 = .ok (.getfield 96, 3) := by decide +kernel
theorem dX10_undo_41 : decode cX10_undo 41 = .ok (.iaload, 1) := by decide +kernel
theorem dX10_undo_42 : decode cX10_undo 42 = .ok (.iastore, 1) := by decide +kernel
theorem dX10_undo_43 : decode cX10_undo 43 = .ok (.aload_n 0, 1) := by decide +kernel
theorem dX10_undo_44 : decode cX10_undo 44 = .ok (.getfield 96, 3) := by decide +kernel
theorem dX10_undo_47 : decode cX10_undo 47 = .ok (.ireturn, 1) := by decide +kernel
theorem dX10_redo_0 : decode cX10_redo 0 = .ok (.aload_n 0, 1) := by decide +kernel
theorem dX10_redo_1 : decode cX10_redo 1 = .ok (.getfield 96, 3) := by decide +kernel
theorem dX10_redo_4 : decode cX10_redo 4 = .ok (.aload_n 0, 1) := by decide +kernel
theorem dX10_redo_5 : decode cX10_redo 5 = .ok (.getfield 99, 3) := by decide +kernel
theorem dX10_redo_8 : decode cX10_redo 8 = .ok (.if_icmp .ne 6, 3) := by decide +kernel
theorem dX10_redo_11 : decode cX10_redo 11 = .ok (.bipush (-5), 2) := by decide +kernel
theorem dX10_redo_13 : decode cX10_redo 13 = .ok (.ireturn, 1) := by decide +kernel
theorem dX10_redo_14 : decode cX10_redo 14 = .ok (.aload_n 0, 1) := by decide +kernel
theorem dX10_redo_15 : decode cX10_redo 15 = .ok (.getfield 9, 3) := by decide +kernel
theorem dX10_redo_18 : decode cX10_redo 18 = .ok (.aload_n 0, 1) := by decide +kernel
theorem dX10_redo_19 : decode cX10_redo 19 = .ok (.getfield 13, 3) := by decide +kernel
theorem dX10_redo_22 : decode cX10_redo 22 = .ok (.aload_n 0, 1) := by decide +kernel
theorem dX10_redo_23 : decode cX10_redo 23 = .ok (.getfield 96, 3) := by decide +kernel
theorem dX10_redo_26 : decode cX10_redo 26 = .ok (.iaload, 1) := by decide +kernel
theorem dX10_redo_27 : decode cX10_redo 27 = .ok (.aload_n 0, 1) := by decide +kernel
theorem dX10_redo_28 : decode cX10_redo 28 = .ok (.getfield 19, 3) := by decide +kernel
theorem dX10_redo_31 : decode cX10_redo 31 = .ok (.aload_n 0, 1) := by decide +kernel
theorem dX10_redo_32 : decode cX10_redo 32 = .ok (.getfield 96, 3) := by decide +kernel
theorem dX10_redo_35 : decode cX10_redo 35 = .ok (.iaload, 1) := by decide +kernel
theorem dX10_redo_36 : decode cX10_redo 36 = .ok (.iastore, 1) := by decide +kernel
theorem dX10_redo_37 : decode cX10_redo 37 = .ok (.aload_n 0, 1) := by decide +kernel
theorem dX10_redo_38 : decode cX10_redo 38 = .ok (.dup, 1) := by decide +kernel
theorem dX10_redo_39 : decode cX10_redo 39 = .ok (.getfield 96, 3) := by decide +kernel
theorem dX10_redo_42 : decode cX10_redo 42 = .ok (.iconst 1, 1) := by decide +kernel
theorem dX10_redo_43 : decode cX10_redo 43 = .ok (.iadd, 1) := by decide +kernel
theorem dX10_redo_44 : decode cX10_redo 44 = .ok (.putfield 96, 3) := by decide +kernel
theorem dX10_redo_47 : decode cX10_redo 47 = .ok (.aload_n 0, 1) := by decide +kernel
theorem dX10_redo_48 : decode cX10_redo 48 = .ok (.getfield 99, 3) := by decide +kernel
theorem dX10_redo_51 : decode cX10_redo 51 = .ok (.aload_n 0, 1) := by decide +kernel
theorem dX10_redo_52 : decode cX10_redo 52 = .ok (.getfield 96, 3) := by decide +kernel
theorem dX10_redo_55 : decode cX10_redo 55 = .ok (.isub, 1) := by decide +kernel
theorem dX10_redo_56 : decode cX10_redo 56 = .ok (.ireturn, 1) := by decide +kernel
theorem dX10_isStraw_0 : decode cX10_isStraw 0 = .ok (.iload_n 1, 1) := by decide +kernel
theorem dX10_isStraw_1 : decode cX10_isStraw 1 = .ok (.i2l, 1) := by decide +kernel
theorem dX10_isStraw_2 : decode cX10_isStraw 2 = .ok (.lconst 0, 1) := by decide +kernel
theorem dX10_isStraw_3 : decode cX10_isStraw 3 = .ok (.aload_n 0, 1) := by decide +kernel
theorem dX10_isStraw_4 : decode cX10_isStraw 4 = .ok (.getfield 102, 3) := by decide +kernel
theorem dX10_isStraw_7 : decode cX10_isStraw 7 = .ok (.iconst 1, 1) := by decide +kernel
theorem dX10_isStraw_8 : decode cX10_isStraw 8 = .ok (.isub, 1) := by decide +kernel
theorem dX10_isStraw_9 : decode cX10_isStraw 9 = .ok (.i2l, 1) := by decide +kernel
theorem dX10_isStraw_10 : decode cX10_isStraw 10 = .ok (.invokestatic 105, 3) := by decide +kernel
theorem dX10_isStraw_13 : decode cX10_isStraw 13 = .ok (.ireturn, 1) := by decide +kernel
theorem dX10_ofStraw_0 : decode cX10_ofStraw 0 = .ok (.aload_n 0, 1) := by decide +kernel
theorem dX10_ofStraw_1 : decode cX10_ofStraw 1 = .ok (.getfield 9, 3) := by decide +kernel
theorem dX10_ofStraw_4 : decode cX10_ofStraw 4 = .ok (.bipush 8, 2) := by decide +kernel
theorem dX10_ofStraw_6 : decode cX10_ofStraw 6 = .ok (.iload_n 1, 1) := by decide +kernel
theorem dX10_ofStraw_7 : decode cX10_ofStraw 7 = .ok (.imul, 1) := by decide +kernel
theorem dX10_ofStraw_8 : decode cX10_ofStraw 8 = .ok (.iload_n 2, 1) := by decide +kernel
theorem dX10_ofStraw_9 : decode cX10_ofStraw 9 = .ok (.iadd, 1) := by decide +kernel
theorem dX10_ofStraw_10 : decode cX10_ofStraw 10 = .ok (.iaload, 1) := by decide +kernel
theorem dX10_ofStraw_11 : decode cX10_ofStraw 11 = .ok (.ireturn, 1) := by decide +kernel
theorem dX10_isOne_0 : decode cX10_isOne 0 = .ok (.lload_n 0, 1) := by decide +kernel
theorem dX10_isOne_1 : decode cX10_isOne 1 = .ok (.lconst 0, 1) := by decide +kernel
theorem dX10_isOne_2 : decode cX10_isOne 2 = .ok (.ldc2_w 109, 3) := by decide +kernel
theorem dX10_isOne_5 : decode cX10_isOne 5 = .ok (.invokestatic 105, 3) := by decide +kernel
theorem dX10_isOne_8 : decode cX10_isOne 8 = .ok (.ifCond .eq 30, 3) := by decide +kernel
theorem dX10_isOne_11 : decode cX10_isOne 11 = .ok (.lload_n 2, 1) := by decide +kernel
theorem dX10_isOne_12 : decode cX10_isOne 12 = .ok (.lconst 1, 1) := by decide +kernel
theorem dX10_isOne_13 : decode cX10_isOne 13 = .ok (.ldc2_w 111, 3) := by decide +kernel
theorem dX10_isOne_16 : decode cX10_isOne 16 = .ok (.invokestatic 105, 3) := by decide +kernel
theorem dX10_isOne_19 : decode cX10_isOne 19 = .ok (.ifCond .eq 19, 3) := by decide +kernel
theorem dX10_isOne_22 : decode cX10_isOne 22 = .ok (.lload 4, 2) := by decide +kernel
theorem dX10_isOne_24 : decode cX10_isOne 24 = .ok (.lconst 0, 1) := by decide +kernel
theorem dX10_isOne_25 : decode cX10_isOne 25 = .ok (.ldc2_w 113, 3) := by decide +kernel
theorem dX10_isOne_28 : decode cX10_isOne 28 = .ok (.invokestatic 105, 3) := by decide +kernel
theorem dX10_isOne_31 : decode cX10_isOne 31 = .ok (.ifCond .eq 7, 3) := by decide +kernel
theorem dX10_isOne_34 : decode cX10_isOne 34 = .ok (.iconst 1, 1) := by decide +kernel
theorem dX10_isOne_35 : decode cX10_isOne 35 = .ok (.goto 4, 3) := by decide +kernel
theorem dX10_isOne_38 : decode cX10_isOne 38 = .ok (.iconst 0, 1) := by decide +kernel
theorem dX10_isOne_39 : decode cX10_isOne 39 = .ok (.ireturn, 1) := by decide +kernel
theorem dX10_adds_0 : decode cX10_adds 0 = .ok (.bipush 8, 2) := by decide +kernel
theorem dX10_adds_2 : decode cX10_adds 2 = .ok (.aload_n 0, 1) := by decide +kernel
theorem dX10_adds_3 : decode cX10_adds 3 = .ok (.getfield 102, 3) := by decide +kernel
theorem dX10_adds_6 : decode cX10_adds 6 = .ok (.imul, 1) := by decide +kernel
theorem dX10_adds_7 : decode cX10_adds 7 = .ok (.istore 4, 2) := by decide +kernel
theorem dX10_adds_9 : decode cX10_adds 9 = .ok (.aload_n 0, 1) := by decide +kernel
theorem dX10_adds_10 : decode cX10_adds 10 = .ok (.getfield 9, 3) := by decide +kernel
theorem dX10_adds_13 : decode cX10_adds 13 = .ok (.iload 4, 2) := by decide +kernel
theorem dX10_adds_15 : decode cX10_adds 15 = .ok (.iconst 0, 1) := by decide +kernel
theorem dX10_adds_16 : decode cX10_adds 16 = .ok (.iadd, 1) := by decide +kernel
theorem dX10_adds_17 : decode cX10_adds 17 = .ok (.iload_n 1, 1) := by decide +kernel
theorem dX10_adds_18 : decode cX10_adds 18 = .ok (.iastore, 1) := by decide +kernel
theorem dX10_adds_19 : decode cX10_adds 19 = .ok (.aload_n 0, 1) := by decide +kernel
theorem dX10_adds_20 : decode cX10_adds 20 = .ok (.getfield 9, 3) := by decide +kernel
theorem dX10_adds_23 : decode cX10_adds 23 = .ok (.iload 4, 2) := by decide +kernel
theorem dX10_adds_25 : decode cX10_adds 25 = .ok (.iconst 1, 1) := by decide +kernel
theorem dX10_adds_26 : decode cX10_adds 26 = .ok (.iadd, 1) := by decide +kernel
theorem dX10_adds_27 : decode cX10_adds 27 = .ok (.iload_n 2, 1) := by decide +kernel
theorem dX10_adds_28 : decode cX10_adds 28 = .ok (.iastore, 1) := by decide +kernel
theorem dX10_adds_29 : decode cX10_adds 29 = .ok (.aload_n 0, 1) := by decide +kernel
theorem dX10_adds_30 : decode cX10_adds 30 = .ok (.getfield 9, 3) := by decide +kernel
theorem dX10_adds_33 : decode cX10_adds 33 = .ok (.iload 4, 2) := by decide +kernel
theorem dX10_adds_35 : decode cX10_adds 35 = .ok (.iconst 2, 1) := by decide +kernel
theorem dX10_adds_36 : decode cX10_adds 36 = .ok (.iadd, 1) := by decide +kernel
theorem dX10_adds_37 : decode cX10_adds 37 = .ok (.iload_n 3, 1) := by decide +kernel
theorem dX10_adds_38 : decode cX10_adds 38 = .ok (.iastore, 1) := by decide +kernel
theorem dX10_adds_39 : decode cX10_adds 39 = .ok (.aload_n 0, 1) := by decide +kernel
theorem dX10_adds_40 : decode cX10_adds 40 = .ok (.getfield 9, 3) := by decide +kernel
theorem dX10_adds_43 : decode cX10_adds 43 = .ok (.iload 4, 2) := by decide +kernel
theorem dX10_adds_45 : decode cX10_adds 45 = .ok (.iconst 3, 1) := by decide +kernel
theorem dX10_adds_46 : decode cX10_adds 46 = .ok (.iadd, 1) := by decide +kernel
theorem dX10_adds_47 : decode cX10_adds 47 = .ok (.bipush 10, 2) := by decide +kernel
theorem dX10_adds_49 : decode cX10_adds 49 = .ok (.iastore, 1) := by decide +kernel
theorem dX10_adds_50 : decode cX10_adds 50 = .ok (.aload_n 0, 1) := by decide +kernel
theorem dX10_adds_51 : decode cX10_adds 51 = .ok (.getfield 9, 3) := by decide +kernel
theorem dX10_adds_54 : decode cX10_adds 54 = .ok (.iload 4, 2) := by decide +kernel
theorem dX10_adds_56 : decode cX10_adds 56 = .ok (.iconst 4, 1) := by decide +kernel
theorem dX10_adds_57 : decode cX10_adds 57 = .ok (.iadd, 1) := by decide +kernel
theorem dX10_adds_58 : decode cX10_adds 58 = .ok (.bipush 60, 2) := by decide +kernel
theorem dX10_adds_60 : decode cX10_adds 60 = .ok (.iastore, 1) := by decide +kernel
theorem dX10_adds_61 : decode cX10_adds 61 = .ok (.aload_n 0, 1) := by decide +kernel
theorem dX10_adds_62 : decode cX10_adds 62 = .ok (.getfield 9, 3) := by decide +kernel
theorem dX10_adds_65 : decode cX10_adds 65 = .ok (.iload 4, 2) := by decide +kernel
theorem dX10_adds_67 : decode cX10_adds 67 = .ok (.iconst 5, 1) := by decide +kernel
theorem dX10_adds_68 : decode cX10_adds 68 = .ok (.iadd, 1) := by decide +kernel
theorem dX10_adds_69 : decode cX10_adds 69 = .ok (.iconst 0, 1) := by decide +kernel
theorem dX10_adds_70 : decode cX10_adds 70 = .ok (.iastore, 1) := by decide +kernel
theorem dX10_adds_71 : decode cX10_adds 71 = .ok (.aload_n 0, 1) := by decide +kernel
theorem dX10_adds_72 : decode cX10_adds 72 = .ok (.getfield 9, 3) := by decide +kernel
theorem dX10_adds_75 : decode cX10_adds 75 = .ok (.iload 4, 2) := by decide +kernel
theorem dX10_adds_77 : decode cX10_adds 77 = .ok (.bipush 6, 2) := by decide +kernel
theorem dX10_adds_79 : decode cX10_adds 79 = .ok (.iadd, 1) := by decide +kernel
theorem dX10_adds_80 : decode cX10_adds 80 = .ok (.iconst (-1), 1) := by decide +kernel
theorem dX10_adds_81 : decode cX10_adds 81 = .ok (.iastore, 1) := by decide +kernel
theorem dX10_adds_82 : decode cX10_adds 82 = .ok (.aload_n 0, 1) := by decide +kernel
theorem dX10_adds_83 : decode cX10_adds 83 = .ok (.getfield 9, 3) := by decide +kernel
theorem dX10_adds_86 : decode cX10_adds 86 = .ok (.iload 4, 2) := by decide +kernel
theorem dX10_adds_88 : decode cX10_adds 88 = .ok (.bipush 7, 2) := by decide +kernel
theorem dX10_adds_90 : decode cX10_adds 90 = .ok (.iadd, 1) := by decide +kernel
theorem dX10_adds_91 : decode cX10_adds 91 = .ok (.sipush 999, 3) := by decide +kernel
theorem dX10_adds_94 : decode cX10_adds 94 = .ok (.iastore, 1) := by decide +kernel
theorem dX10_adds_95 : decode cX10_adds 95 = .ok (.aload_n 0, 1) := by decide +kernel
theorem dX10_adds_96 : decode cX10_adds 96 = .ok (.dup, 1) := by decide +kernel
theorem dX10_adds_97 : decode cX10_adds 97 = .ok (.getfield 102, 3) := by decide +kernel
theorem dX10_adds_100 : decode cX10_adds 100 = .ok (.iconst 1, 1) := by decide +kernel
theorem dX10_adds_101 : decode cX10_adds 101 = .ok (.iadd, 1) := by decide +kernel
theorem dX10_adds_102 : decode cX10_adds 102 = .ok (.putfield 102, 3) := by decide +kernel
theorem dX10_adds_105 : decode cX10_adds 105 = .ok (.return_, 1) := by decide +kernel
theorem dX10_straw_0 : decode cX10_straw 0 = .ok (.iload_n 1, 1) := by decide +kernel
theorem dX10_straw_1 : decode cX10_straw 1 = .ok (.i2l, 1) := by decide +kernel
theorem dX10_straw_2 : decode cX10_straw 2 = .ok (.ldc2_w 115, 3) := by decide +kernel
theorem dX10_straw_5 : decode cX10_straw 5 = .ok (.iload_n 2, 1) := by decide +kernel
theorem dX10_straw_6 : decode cX10_straw 6 = .ok (.i2l, 1) := by decide +kernel
theorem dX10_straw_7 : decode cX10_straw 7 = .ok (.invokestatic 117, 3) := by decide +kernel
theorem dX10_straw_10 : decode cX10_straw 10 = .ok (.ifCond .ne 5, 3) := by decide +kernel
theorem dX10_straw_13 : decode cX10_straw 13 = .ok (.iconst (-1), 1) := by decide +kernel
theorem dX10_straw_14 : decode cX10_straw 14 = .ok (.ireturn, 1) := by decide +kernel
theorem dX10_straw_15 : decode cX10_straw 15 = .ok (.aload_n 0, 1) := by decide +kernel
theorem dX10_straw_16 : decode cX10_straw 16 = .ok (.getfield 102, 3) := by decide +kernel
theorem dX10_straw_19 : decode cX10_straw 19 = .ok (.iconst 3, 1) := by decide +kernel
theorem dX10_straw_20 : decode cX10_straw 20 = .ok (.if_icmp .ne 6, 3) := by decide +kernel
theorem dX10_straw_23 : decode cX10_straw 23 = .ok (.bipush (-3), 2) := by decide +kernel
theorem dX10_straw_25 : decode cX10_straw 25 = .ok (.ireturn, 1) := by decide +kernel
theorem dX10_straw_26 : decode cX10_straw 26 = .ok (.aload_n 0, 1) := by decide +kernel
theorem dX10_straw_27 : decode cX10_straw 27 = .ok (.iload_n 1, 1) := by decide +kernel
theorem dX10_straw_28 : decode cX10_straw 28 = .ok (.iconst 3, 1) := by decide +kernel
theorem dX10_straw_29 : decode cX10_straw 29 = .ok (.iload_n 2, 1) := by decide +kernel
theorem dX10_straw_30 : decode cX10_straw 30 = .ok (.invokevirtual 120, 3) := by decide +kernel
theorem dX10_straw_33 : decode cX10_straw 33 = .ok (.aload_n 0, 1) := by decide +kernel
theorem dX10_straw_34 : decode cX10_straw 34 = .ok (.getfield 102, 3) := by decide +kernel
theorem dX10_straw_37 : decode cX10_straw 37 = .ok (.iconst 1, 1) := by decide +kernel
theorem dX10_straw_38 : decode cX10_straw 38 = .ok (.isub, 1) := by decide +kernel
theorem dX10_straw_39 : decode cX10_straw 39 = .ok (.ireturn, 1) := by decide +kernel
theorem dX10_straws_0 : decode cX10_straws 0 = .ok (.iload_n 1, 1) := by decide +kernel
theorem dX10_straws_1 : decode cX10_straws 1 = .ok (.invokestatic 124, 3) := by decide +kernel
theorem dX10_straws_4 : decode cX10_straws 4 = .ok (.ifCond .eq 15, 3) := by decide +kernel
theorem dX10_straws_7 : decode cX10_straws 7 = .ok (.iload_n 3, 1) := by decide +kernel
theorem dX10_straws_8 : decode cX10_straws 8 = .ok (.i2l, 1) := by decide +kernel
theorem dX10_straws_9 : decode cX10_straws 9 = .ok (.lconst 1, 1) := by decide +kernel
theorem dX10_straws_10 : decode cX10_straws 10 = .ok (.ldc2_w 115, 3) := by decide +kernel
theorem dX10_straws_13 : decode cX10_straws 13 = .ok (.invokestatic 105, 3) := by decide +kernel
theorem dX10_straws_16 : decode cX10_straws 16 = .ok (.ifCond .ne 5, 3) := by decide +kernel
theorem dX10_straws_19 : decode cX10_straws 19 = .ok (.iconst (-1), 1) := by decide +kernel
theorem dX10_straws_20 : decode cX10_straws 20 = .ok (.ireturn, 1) := by decide +kernel
theorem dX10_straws_21 : decode cX10_straws 21 = .ok (.aload_n 0, 1) := by decide +kernel
theorem dX10_straws_22 : decode cX10_straws 22 = .ok (.getfield 76, 3) := by decide +kernel
theorem dX10_straws_25 : decode cX10_straws 25 = .ok (.iload_n 1, 1) := by decide +kernel
theorem dX10_straws_26 : decode cX10_straws 26 = .ok (.iaload, 1) := by decide +kernel
theorem dX10_straws_27 : decode cX10_straws 27 = .ok (.ifCond .lt 17, 3) := by decide +kernel
theorem dX10_straws_30 : decode cX10_straws 30 = .ok (.aload_n 0, 1) := by decide +kernel
theorem dX10_straws_31 : decode cX10_straws 31 = .ok (.getfield 76, 3) := by decide +kernel
theorem dX10_straws_34 : decode cX10_straws 34 = .ok (.iload_n 1, 1) := by decide +kernel
theorem dX10_straws_35 : decode cX10_straws 35 = .ok (.iaload, 1) := by decide +kernel
theorem dX10_straws_36 : decode cX10_straws 36 = .ok (.bipush 50, 2) := by decide +kernel
theorem dX10_straws_38 : decode cX10_straws 38 = .ok (.if_icmp .eq 6, 3) := by decide +kernel
theorem dX10_straws_41 : decode cX10_straws 41 = .ok (.bipush (-12), 2) := by decide +kernel
theorem dX10_straws_43 : decode cX10_straws 43 = .ok (.ireturn, 1) := by decide +kernel
theorem dX10_straws_44 : decode cX10_straws 44 = .ok (.iconst 0, 1) := by decide +kernel
theorem dX10_straws_45 : decode cX10_straws 45 = .ok (.istore 4, 2) := by decide +kernel
theorem dX10_straws_47 : decode cX10_straws 47 = .ok (.aload_n 0, 1) := by decide +kernel
theorem dX10_straws_48 : decode cX10_straws 48 = .ok (.getfield 76, 3) := by decide +kernel
theorem dX10_straws_51 : decode cX10_straws 51 = .ok (.iload_n 1, 1) := by decide +kernel
theorem dX10_straws_52 : decode cX10_straws 52 = .ok (.iaload, 1) := by decide +kernel
theorem dX10_straws_53 : decode cX10_straws 53 = .ok (.bipush 50, 2) := by decide +kernel
theorem dX10_straws_55 : decode cX10_straws 55 = .ok (.if_icmp .ne 11, 3) := by decide +kernel
theorem dX10_straws_58 : decode cX10_straws 58 = .ok (.iload_n 2, 1) := by decide +kernel
theorem dX10_straws_59 : decode cX10_straws 59 = .ok (.ifCond .lt 7, 3) := by decide +kernel
theorem dX10_straws_62 : decode cX10_straws 62 = .ok (.iconst 1, 1) := by decide +kernel
theorem dX10_straws_63 : decode cX10_straws 63 = .ok (.goto 4, 3) := by decide +kernel
theorem dX10_straws_66 : decode cX10_straws 66 = .ok (.iconst 0, 1) := by decide +kernel
theorem dX10_straws_67 : decode cX10_straws 67 = .ok (.istore 5, 2) := by decide +kernel
theorem dX10_straws_69 : decode cX10_straws 69 = .ok (.iload 5, 2) := by decide +kernel
theorem dX10_straws_71 : decode cX10_straws 71 = .ok (.ifCond .eq 140, 3) := by decide +kernel
theorem dX10_straws_74 : decode cX10_straws 74 = .ok (.iload 4, 2) := by decide +kernel
theorem dX10_straws_76 : decode cX10_straws 76 = .ok (.iload_n 3, 1) := by decide +kernel
theorem dX10_straws_77 : decode cX10_straws 77 = .ok (.if_icmp .ge 134, 3) := by decide +kernel
theorem dX10_straws_80 : decode cX10_straws 80 = .ok (.iload_n 2, 1) := by decide +kernel
theorem dX10_straws_81 : decode cX10_straws 81 = .ok (.aload_n 0, 1) := by decide +kernel
theorem dX10_straws_82 : decode cX10_straws 82 = .ok (.getfield 79, 3) := by decide +kernel
theorem dX10_straws_85 : decode cX10_straws 85 = .ok (.iload_n 1, 1) := by decide +kernel
theorem dX10_straws_86 : decode cX10_straws 86 = .ok (.iaload, 1) := by decide +kernel
theorem dX10_straws_87 : decode cX10_straws 87 = .ok (.iconst 3, 1) := by decide +kernel
theorem dX10_straws_88 : decode cX10_straws 88 = .ok (.isub, 1) := by decide +kernel
theorem dX10_straws_89 : decode cX10_straws 89 = .ok (.iconst 3, 1) := by decide +kernel
theorem dX10_straws_90 : decode cX10_straws 90 = .ok (.iload 4, 2) := by decide +kernel
theorem dX10_straws_92 : decode cX10_straws 92 = .ok (.imul, 1) := by decide +kernel
theorem dX10_straws_93 : decode cX10_straws 93 = .ok (.isub, 1) := by decide +kernel
theorem dX10_straws_94 : decode cX10_straws 94 = .ok (.if_icmp .gt 15, 3) := by decide +kernel
theorem dX10_straws_97 : decode cX10_straws 97 = .ok (.aload_n 0, 1) := by decide +kernel
theorem dX10_straws_98 : decode cX10_straws 98 = .ok (.getfield 102, 3) := by decide +kernel
theorem dX10_straws_101 : decode cX10_straws 101 = .ok (.iconst 3, 1) := by decide +kernel
theorem dX10_straws_102 : decode cX10_straws 102 = .ok (.if_icmp .ge 7, 3) := by decide +kernel
theorem dX10_straws_105 : decode cX10_straws 105 = .ok (.iconst 1, 1) := by decide +kernel
theorem dX10_straws_106 : decode cX10_straws 106 = .ok (.goto 4, 3) := by decide +kernel
theorem dX10_straws_109 : decode cX10_straws 109 = .ok (.iconst 0, 1) := by decide +kernel
theorem dX10_straws_110 : decode cX10_straws 110 = .ok (.istore 5, 2) := by decide +kernel
theorem dX10_straws_112 : decode cX10_straws 112 = .ok (.bipush 60, 2) := by decide +kernel
theorem dX10_straws_114 : decode cX10_straws 114 = .ok (.iload_n 1, 1) := by decide +kernel
theorem dX10_straws_115 : decode cX10_straws 115 = .ok (.imul, 1) := by decide +kernel
theorem dX10_straws_116 : decode cX10_straws 116 = .ok (.iload_n 2, 1) := by decide +kernel
theorem dX10_straws_117 : decode cX10_straws 117 = .ok (.iadd, 1) := by decide +kernel
theorem dX10_straws_118 : decode cX10_straws 118 = .ok (.iconst 3, 1) := by decide +kernel
theorem dX10_straws_119 : decode cX10_straws 119 = .ok (.iload 4, 2) := by decide +kernel
theorem dX10_straws_121 : decode cX10_straws 121 = .ok (.imul, 1) := by decide +kernel
theorem dX10_straws_122 : decode cX10_straws 122 = .ok (.iadd, 1) := by decide +kernel
theorem dX10_straws_123 : decode cX10_straws 123 = .ok (.istore 6, 2) := by decide +kernel
theorem dX10_straws_125 : decode cX10_straws 125 = .ok (.iload 5, 2) := by decide +kernel
theorem dX10_straws_127 : decode cX10_straws 127 = .ok (.ifCond .eq 38, 3) := by decide +kernel
theorem dX10_straws_130 : decode cX10_straws 130 = .ok (.aload_n 0, 1) := by decide +kernel
theorem dX10_straws_131 : decode cX10_straws 131 = .ok (.getfield 82, 3) := by decide +kernel
theorem dX10_straws_134 : decode cX10_straws 134 = .ok (.iload 6, 2) := by decide +kernel
theorem dX10_straws_136 : decode cX10_straws 136 = .ok (.laload, 1) := by decide +kernel
theorem dX10_straws_137 : decode cX10_straws 137 = .ok (.aload_n 0, 1) := by decide +kernel
theorem dX10_straws_138 : decode cX10_straws 138 = .ok (.getfield 82, 3) := by decide +kernel
theorem dX10_straws_141 : decode cX10_straws 141 = .ok (.iload 6, 2) := by decide +kernel
theorem dX10_straws_143 : decode cX10_straws 143 = .ok (.iconst 1, 1) := by decide +kernel
theorem dX10_straws_144 : decode cX10_straws 144 = .ok (.iadd, 1) := by decide +kernel
theorem dX10_straws_145 : decode cX10_straws 145 = .ok (.laload, 1) := by decide +kernel
theorem dX10_straws_146 : decode cX10_straws 146 = .ok (.aload_n 0, 1) := by decide +kernel
theorem dX10_straws_147 : decode cX10_straws 147 = .ok (.getfield 82, 3) := by decide +kernel
theorem dX10_straws_150 : decode cX10_straws 150 = .ok (.iload 6, 2) := by decide +kernel
theorem dX10_straws_152 : decode cX10_straws 152 = .ok (.iconst 2, 1) := by decide +kernel
theorem dX10_straws_153 : decode cX10_straws 153 = .ok (.iadd, 1) := by decide +kernel
theorem dX10_straws_154 : decode cX10_straws 154 = .ok (.laload, 1) := by decide +kernel
theorem dX10_straws_155 : decode cX10_straws 155 = .ok (.invokestatic 117, 3) := by decide +kernel
theorem dX10_straws_158 : decode cX10_straws 158 = .ok (.ifCond .eq 7, 3) := by decide +kernel
theorem dX10_straws_161 : decode cX10_straws 161 = .ok (.iconst 1, 1) := by decide +kernel
theorem dX10_straws_162 : decode cX10_straws 162 = .ok (.goto 4, 3) := by decide +kernel
theorem dX10_straws_165 : decode cX10_straws 165 = .ok (.iconst 0, 1) := by decide +kernel
theorem dX10_straws_166 : decode cX10_straws 166 = .ok (.istore 5, 2) := by decide +kernel
theorem dX10_straws_168 : decode cX10_straws 168 = .ok (.iload 5, 2) := by decide +kernel
theorem dX10_straws_170 : decode cX10_straws 170 = .ok (.ifCond .eq 38, 3) := by decide +kernel
theorem dX10_straws_173 : decode cX10_straws 173 = .ok (.aload_n 0, 1) := by decide +kernel
theorem dX10_straws_174 : decode cX10_straws 174 = .ok (.aload_n 0, 1) := by decide +kernel
theorem dX10_straws_175 : decode cX10_straws 175 = .ok (.getfield 82, 3) := by decide +kernel
theorem dX10_straws_178 : decode cX10_straws 178 = .ok (.iload 6, 2) := by decide +kernel
theorem dX10_straws_180 : decode cX10_straws 180 = .ok (.laload, 1) := by decide +kernel
theorem dX10_straws_181 : decode cX10_straws 181 = .ok (.l2i, 1) := by decide +kernel
theorem dX10_straws_182 : decode cX10_straws 182 = .ok (.aload_n 0, 1) := by decide +kernel
theorem dX10_straws_183 : decode cX10_straws 183 = .ok (.getfield 82, 3) := by decide +kernel
theorem dX10_straws_186 : decode cX10_straws 186 = .ok (.iload 6, 2) := by decide +kernel
theorem dX10_straws_188 : decode cX10_straws 188 = .ok (.iconst 1, 1) := by decide +kernel
theorem dX10_straws_189 : decode cX10_straws 189 = .ok (.iadd, 1) := by decide +kernel
theorem dX10_straws_190 : decode cX10_straws 190 = .ok (.laload, 1) := by decide +kernel
theorem dX10_straws_191 : decode cX10_straws 191 = .ok (.l2i, 1) := by decide +kernel
theorem dX10_straws_192 : decode cX10_straws 192 = .ok (.aload_n 0, 1) := by decide +kernel
theorem dX10_straws_193 : decode cX10_straws 193 = .ok (.getfield 82, 3) := by decide +kernel
theorem dX10_straws_196 : decode cX10_straws 196 = .ok (.iload 6, 2) := by decide +kernel
theorem dX10_straws_198 : decode cX10_straws 198 = .ok (.iconst 2, 1) := by decide +kernel
theorem dX10_straws_199 : decode cX10_straws 199 = .ok (.iadd, 1) := by decide +kernel
theorem dX10_straws_200 : decode cX10_straws 200 = .ok (.laload, 1) := by decide +kernel
theorem dX10_straws_201 : decode cX10_straws 201 = .ok (.l2i, 1) := by decide +kernel
theorem dX10_straws_202 : decode cX10_straws 202 = .ok (.invokevirtual 120, 3) := by decide +kernel
theorem dX10_straws_205 : decode cX10_straws 205 = .ok (.iinc 4 1, 3) := by decide +kernel
theorem dX10_straws_208 : decode cX10_straws 208 = .ok (.goto (-139), 3) := by decide +kernel
theorem dX10_straws_211 : decode cX10_straws 211 = .ok (.iload 4, 2) := by decide +kernel
theorem dX10_straws_213 : decode cX10_straws 213 = .ok (.ireturn, 1) := by decide +kernel
theorem dX10_placeOf_0 : decode cX10_placeOf 0 = .ok (.iload_n 2, 1) := by decide +kernel
theorem dX10_placeOf_1 : decode cX10_placeOf 1 = .ok (.i2l, 1) := by decide +kernel
theorem dX10_placeOf_2 : decode cX10_placeOf 2 = .ok (.lconst 0, 1) := by decide +kernel
theorem dX10_placeOf_3 : decode cX10_placeOf 3 = .ok (.ldc2_w 128, 3) := by decide +kernel
theorem dX10_placeOf_6 : decode cX10_placeOf 6 = .ok (.invokestatic 105, 3) := by decide +kernel
theorem dX10_placeOf_9 : decode cX10_placeOf 9 = .ok (.ifCond .eq 22, 3) := by decide +kernel
theorem dX10_placeOf_12 : decode cX10_placeOf 12 = .ok (.aload_n 0, 1) := by decide +kernel
theorem dX10_placeOf_13 : decode cX10_placeOf 13 = .ok (.iload_n 1, 1) := by decide +kernel
theorem dX10_placeOf_14 : decode cX10_placeOf 14 = .ok (.invokevirtual 130, 3) := by decide +kernel
theorem dX10_placeOf_17 : decode cX10_placeOf 17 = .ok (.ifCond .eq 12, 3) := by decide +kernel
theorem dX10_placeOf_20 : decode cX10_placeOf 20 = .ok (.bipush 8, 2) := by decide +kernel
theorem dX10_placeOf_22 : decode cX10_placeOf 22 = .ok (.iload_n 1, 1) := by decide +kernel
theorem dX10_placeOf_23 : decode cX10_placeOf 23 = .ok (.imul, 1) := by decide +kernel
theorem dX10_placeOf_24 : decode cX10_placeOf 24 = .ok (.iload_n 2, 1) := by decide +kernel
theorem dX10_placeOf_25 : decode cX10_placeOf 25 = .ok (.iadd, 1) := by decide +kernel
theorem dX10_placeOf_26 : decode cX10_placeOf 26 = .ok (.goto 4, 3) := by decide +kernel
theorem dX10_placeOf_29 : decode cX10_placeOf 29 = .ok (.iconst (-1), 1) := by decide +kernel
theorem dX10_placeOf_30 : decode cX10_placeOf 30 = .ok (.ireturn, 1) := by decide +kernel
theorem dX10_placeOf_31 : decode cX10_placeOf 31 = .ok (.iload_n 1, 1) := by decide +kernel
theorem dX10_placeOf_32 : decode cX10_placeOf 32 = .ok (.ifCond .ne 27, 3) := by decide +kernel
theorem dX10_placeOf_35 : decode cX10_placeOf 35 = .ok (.iload_n 2, 1) := by decide +kernel
theorem dX10_placeOf_36 : decode cX10_placeOf 36 = .ok (.i2l, 1) := by decide +kernel
theorem dX10_placeOf_37 : decode cX10_placeOf 37 = .ok (.ldc2_w 133, 3) := by decide +kernel
theorem dX10_placeOf_40 : decode cX10_placeOf 40 = .ok (.ldc2_w 135, 3) := by decide +kernel
theorem dX10_placeOf_43 : decode cX10_placeOf 43 = .ok (.invokestatic 105, 3) := by decide +kernel
theorem dX10_placeOf_46 : decode cX10_placeOf 46 = .ok (.ifCond .eq 13, 3) := by decide +kernel
theorem dX10_placeOf_49 : decode cX10_placeOf 49 = .ok (.bipush 24, 2) := by decide +kernel
theorem dX10_placeOf_51 : decode cX10_placeOf 51 = .ok (.iload_n 2, 1) := by decide +kernel
theorem dX10_placeOf_52 : decode cX10_placeOf 52 = .ok (.iadd, 1) := by decide +kernel
theorem dX10_placeOf_53 : decode cX10_placeOf 53 = .ok (.bipush 8, 2) := by decide +kernel
theorem dX10_placeOf_55 : decode cX10_placeOf 55 = .ok (.isub, 1) := by decide +kernel
theorem dX10_placeOf_56 : decode cX10_placeOf 56 = .ok (.goto 4, 3) := by decide +kernel
theorem dX10_placeOf_59 : decode cX10_placeOf 59 = .ok (.iconst (-1), 1) := by decide +kernel
theorem dX10_placeOf_60 : decode cX10_placeOf 60 = .ok (.ireturn, 1) := by decide +kernel
theorem dX10_mayBecome_0 : decode cX10_mayBecome 0 = .ok (.iload_n 0, 1) := by decide +kernel
theorem dX10_mayBecome_1 : decode cX10_mayBecome 1 = .ok (.tableswitch 145 0 11 #[63, 73, 145, 83, 93, 103, 113, 145, 125, 145, 125, 135], 63) := by decide +kernel
theorem dX10_mayBecome_64 : decode cX10_mayBecome 64 = .ok (.iload_n 1, 1) := by decide +kernel
theorem dX10_mayBecome_65 : decode cX10_mayBecome 65 = .ok (.i2l, 1) := by decide +kernel
theorem dX10_mayBecome_66 : decode cX10_mayBecome 66 = .ok (.lconst 0, 1) := by decide +kernel
theorem dX10_mayBecome_67 : decode cX10_mayBecome 67 = .ok (.ldc2_w 109, 3) := by decide +kernel
theorem dX10_mayBecome_70 : decode cX10_mayBecome 70 = .ok (.invokestatic 105, 3) := by decide +kernel
theorem dX10_mayBecome_73 : decode cX10_mayBecome 73 = .ok (.ireturn, 1) := by decide +kernel
theorem dX10_mayBecome_74 : decode cX10_mayBecome 74 = .ok (.iload_n 1, 1) := by decide +kernel
theorem dX10_mayBecome_75 : decode cX10_mayBecome 75 = .ok (.i2l, 1) := by decide +kernel
theorem dX10_mayBecome_76 : decode cX10_mayBecome 76 = .ok (.lconst 1, 1) := by decide +kernel
theorem dX10_mayBecome_77 : decode cX10_mayBecome 77 = .ok (.ldc2_w 111, 3) := by decide +kernel
theorem dX10_mayBecome_80 : decode cX10_mayBecome 80 = .ok (.invokestatic 105, 3) := by decide +kernel
theorem dX10_mayBecome_83 : decode cX10_mayBecome 83 = .ok (.ireturn, 1) := by decide +kernel
theorem dX10_mayBecome_84 : decode cX10_mayBecome 84 = .ok (.iload_n 1, 1) := by decide +kernel
theorem dX10_mayBecome_85 : decode cX10_mayBecome 85 = .ok (.i2l, 1) := by decide +kernel
theorem dX10_mayBecome_86 : decode cX10_mayBecome 86 = .ok (.lconst 1, 1) := by decide +kernel
theorem dX10_mayBecome_87 : decode cX10_mayBecome 87 = .ok (.ldc2_w 137, 3) := by decide +kernel
theorem dX10_mayBecome_90 : decode cX10_mayBecome 90 = .ok (.invokestatic 105, 3) := by decide +kernel
theorem dX10_mayBecome_93 : decode cX10_mayBecome 93 = .ok (.ireturn, 1) := by decide +kernel
theorem dX10_mayBecome_94 : decode cX10_mayBecome 94 = .ok (.iload_n 1, 1) := by decide +kernel
theorem dX10_mayBecome_95 : decode cX10_mayBecome 95 = .ok (.i2l, 1) := by decide +kernel
theorem dX10_mayBecome_96 : decode cX10_mayBecome 96 = .ok (.lconst 1, 1) := by decide +kernel
theorem dX10_mayBecome_97 : decode cX10_mayBecome 97 = .ok (.ldc2_w 139, 3) := by decide +kernel
theorem dX10_mayBecome_100 : decode cX10_mayBecome 100 = .ok (.invokestatic 105, 3) := by decide +kernel
theorem dX10_mayBecome_103 : decode cX10_mayBecome 103 = .ok (.ireturn, 1) := by decide +kernel
theorem dX10_mayBecome_104 : decode cX10_mayBecome 104 = .ok (.iload_n 1, 1) := by decide +kernel
theorem dX10_mayBecome_105 : decode cX10_mayBecome 105 = .ok (.i2l, 1) := by decide +kernel
theorem dX10_mayBecome_106 : decode cX10_mayBecome 106 = .ok (.lconst 0, 1) := by decide +kernel
theorem dX10_mayBecome_107 : decode cX10_mayBecome 107 = .ok (.ldc2_w 139, 3) := by decide +kernel
theorem dX10_mayBecome_110 : decode cX10_mayBecome 110 = .ok (.invokestatic 105, 3) := by decide +kernel
theorem dX10_mayBecome_113 : decode cX10_mayBecome 113 = .ok (.ireturn, 1) := by decide +kernel
theorem dX10_mayBecome_114 : decode cX10_mayBecome 114 = .ok (.iload_n 1, 1) := by decide +kernel
theorem dX10_mayBecome_115 : decode cX10_mayBecome 115 = .ok (.i2l, 1) := by decide +kernel
theorem dX10_mayBecome_116 : decode cX10_mayBecome 116 = .ok (.ldc2_w 141, 3) := by decide +kernel
theorem dX10_mayBecome_119 : decode cX10_mayBecome 119 = .ok (.ldc2_w 113, 3) := by decide +kernel
theorem dX10_mayBecome_122 : decode cX10_mayBecome 122 = .ok (.invokestatic 105, 3) := by decide +kernel
theorem dX10_mayBecome_125 : decode cX10_mayBecome 125 = .ok (.ireturn, 1) := by decide +kernel
theorem dX10_mayBecome_126 : decode cX10_mayBecome 126 = .ok (.iload_n 1, 1) := by decide +kernel
theorem dX10_mayBecome_127 : decode cX10_mayBecome 127 = .ok (.i2l, 1) := by decide +kernel
theorem dX10_mayBecome_128 : decode cX10_mayBecome 128 = .ok (.lconst 0, 1) := by decide +kernel
theorem dX10_mayBecome_129 : decode cX10_mayBecome 129 = .ok (.ldc2_w 111, 3) := by decide +kernel
theorem dX10_mayBecome_132 : decode cX10_mayBecome 132 = .ok (.invokestatic 105, 3) := by decide +kernel
theorem dX10_mayBecome_135 : decode cX10_mayBecome 135 = .ok (.ireturn, 1) := by decide +kernel
theorem dX10_mayBecome_136 : decode cX10_mayBecome 136 = .ok (.iload_n 1, 1) := by decide +kernel
theorem dX10_mayBecome_137 : decode cX10_mayBecome 137 = .ok (.i2l, 1) := by decide +kernel
theorem dX10_mayBecome_138 : decode cX10_mayBecome 138 = .ok (.lconst 0, 1) := by decide +kernel
theorem dX10_mayBecome_139 : decode cX10_mayBecome 139 = .ok (.ldc2_w 143, 3) := by decide +kernel
theorem dX10_mayBecome_142 : decode cX10_mayBecome 142 = .ok (.invokestatic 105, 3) := by decide +kernel
theorem dX10_mayBecome_145 : decode cX10_mayBecome 145 = .ok (.ireturn, 1) := by decide +kernel
theorem dX10_mayBecome_146 : decode cX10_mayBecome 146 = .ok (.iload_n 1, 1) := by decide +kernel
theorem dX10_mayBecome_147 : decode cX10_mayBecome 147 = .ok (.i2l, 1) := by decide +kernel
theorem dX10_mayBecome_148 : decode cX10_mayBecome 148 = .ok (.lconst 0, 1) := by decide +kernel
theorem dX10_mayBecome_149 : decode cX10_mayBecome 149 = .ok (.ldc2_w 113, 3) := by decide +kernel
theorem dX10_mayBecome_152 : decode cX10_mayBecome 152 = .ok (.invokestatic 105, 3) := by decide +kernel
theorem dX10_mayBecome_155 : decode cX10_mayBecome 155 = .ok (.ireturn, 1) := by decide +kernel
theorem dX10_mend_0 : decode cX10_mend 0 = .ok (.aload_n 0, 1) := by decide +kernel
theorem dX10_mend_1 : decode cX10_mend 1 = .ok (.iload_n 1, 1) := by decide +kernel
theorem dX10_mend_2 : decode cX10_mend 2 = .ok (.iload_n 2, 1) := by decide +kernel
theorem dX10_mend_3 : decode cX10_mend 3 = .ok (.invokevirtual 145, 3) := by decide +kernel
theorem dX10_mend_6 : decode cX10_mend 6 = .ok (.istore 4, 2) := by decide +kernel
theorem dX10_mend_8 : decode cX10_mend 8 = .ok (.iload 4, 2) := by decide +kernel
theorem dX10_mend_10 : decode cX10_mend 10 = .ok (.ifCond .lt 21, 3) := by decide +kernel
theorem dX10_mend_13 : decode cX10_mend 13 = .ok (.iload_n 2, 1) := by decide +kernel
theorem dX10_mend_14 : decode cX10_mend 14 = .ok (.iload_n 3, 1) := by decide +kernel
theorem dX10_mend_15 : decode cX10_mend 15 = .ok (.invokestatic 149, 3) := by decide +kernel
theorem dX10_mend_18 : decode cX10_mend 18 = .ok (.ifCond .eq 13, 3) := by decide +kernel
theorem dX10_mend_21 : decode cX10_mend 21 = .ok (.aload_n 0, 1) := by decide +kernel
theorem dX10_mend_22 : decode cX10_mend 22 = .ok (.iload 4, 2) := by decide +kernel
theorem dX10_mend_24 : decode cX10_mend 24 = .ok (.iload_n 3, 1) := by decide +kernel
theorem dX10_mend_25 : decode cX10_mend 25 = .ok (.invokevirtual 153, 3) := by decide +kernel
theorem dX10_mend_28 : decode cX10_mend 28 = .ok (.goto 5, 3) := by decide +kernel
theorem dX10_mend_31 : decode cX10_mend 31 = .ok (.ldc 156, 2) := by decide +kernel
theorem dX10_mend_33 : decode cX10_mend 33 = .ok (.ireturn, 1) := by decide +kernel
theorem dX10_of_0 : decode cX10_of 0 = .ok (.aload_n 0, 1) := by decide +kernel
theorem dX10_of_1 : decode cX10_of 1 = .ok (.iload_n 1, 1) := by decide +kernel
theorem dX10_of_2 : decode cX10_of 2 = .ok (.iload_n 2, 1) := by decide +kernel
theorem dX10_of_3 : decode cX10_of 3 = .ok (.invokevirtual 145, 3) := by decide +kernel
theorem dX10_of_6 : decode cX10_of 6 = .ok (.istore_n 3, 1) := by decide +kernel
theorem dX10_of_7 : decode cX10_of 7 = .ok (.iload_n 3, 1) := by decide +kernel
theorem dX10_of_8 : decode cX10_of 8 = .ok (.ifCond .lt 10, 3) := by decide +kernel
theorem dX10_of_11 : decode cX10_of 11 = .ok (.aload_n 0, 1) := by decide +kernel
theorem dX10_of_12 : decode cX10_of 12 = .ok (.getfield 9, 3) := by decide +kernel
theorem dX10_of_15 : decode cX10_of 15 = .ok (.iload_n 3, 1) := by decide +kernel
theorem dX10_of_16 : decode cX10_of 16 = .ok (.iaload, 1) := by decide +kernel
theorem dX10_of_17 : decode cX10_of 17 = .ok (.ireturn, 1) := by decide +kernel
theorem dX10_of_18 : decode cX10_of 18 = .ok (.iload_n 1, 1) := by decide +kernel
theorem dX10_of_19 : decode cX10_of 19 = .ok (.ifCond .eq 6, 3) := by decide +kernel
theorem dX10_of_22 : decode cX10_of 22 = .ok (.ldc 156, 2) := by decide +kernel
theorem dX10_of_24 : decode cX10_of 24 = .ok (.ireturn, 1) := by decide +kernel
theorem dX10_of_25 : decode cX10_of 25 = .ok (.iload_n 2, 1) := by decide +kernel
theorem dX10_of_26 : decode cX10_of 26 = .ok (.bipush 12, 2) := by decide +kernel
theorem dX10_of_28 : decode cX10_of 28 = .ok (.if_icmp .ne 10, 3) := by decide +kernel
theorem dX10_of_31 : decode cX10_of 31 = .ok (.aload_n 0, 1) := by decide +kernel
theorem dX10_of_32 : decode cX10_of 32 = .ok (.getfield 93, 3) := by decide +kernel
theorem dX10_of_35 : decode cX10_of 35 = .ok (.goto 31, 3) := by decide +kernel
theorem dX10_of_38 : decode cX10_of 38 = .ok (.iload_n 2, 1) := by decide +kernel
theorem dX10_of_39 : decode cX10_of 39 = .ok (.bipush 13, 2) := by decide +kernel
theorem dX10_of_41 : decode cX10_of 41 = .ok (.if_icmp .ne 10, 3) := by decide +kernel
theorem dX10_of_44 : decode cX10_of 44 = .ok (.aload_n 0, 1) := by decide +kernel
theorem dX10_of_45 : decode cX10_of 45 = .ok (.getfield 157, 3) := by decide +kernel
theorem dX10_of_48 : decode cX10_of 48 = .ok (.goto 18, 3) := by decide +kernel
theorem dX10_of_51 : decode cX10_of 51 = .ok (.iload_n 2, 1) := by decide +kernel
theorem dX10_of_52 : decode cX10_of 52 = .ok (.bipush 14, 2) := by decide +kernel
theorem dX10_of_54 : decode cX10_of 54 = .ok (.if_icmp .ne 10, 3) := by decide +kernel
theorem dX10_of_57 : decode cX10_of 57 = .ok (.aload_n 0, 1) := by decide +kernel
theorem dX10_of_58 : decode cX10_of 58 = .ok (.getfield 160, 3) := by decide +kernel
theorem dX10_of_61 : decode cX10_of 61 = .ok (.goto 5, 3) := by decide +kernel
theorem dX10_of_64 : decode cX10_of 64 = .ok (.ldc 156, 2) := by decide +kernel
theorem dX10_of_66 : decode cX10_of 66 = .ok (.ireturn, 1) := by decide +kernel
theorem dX10_feed_0 : decode cX10_feed 0 = .ok (.iload_n 1, 1) := by decide +kernel
theorem dX10_feed_1 : decode cX10_feed 1 = .ok (.i2l, 1) := by decide +kernel
theorem dX10_feed_2 : decode cX10_feed 2 = .ok (.lconst 0, 1) := by decide +kernel
theorem dX10_feed_3 : decode cX10_feed 3 = .ok (.ldc2_w 163, 3) := by decide +kernel
theorem dX10_feed_6 : decode cX10_feed 6 = .ok (.invokestatic 105, 3) := by decide +kernel
theorem dX10_feed_9 : decode cX10_feed 9 = .ok (.ifCond .ne 5, 3) := by decide +kernel
theorem dX10_feed_12 : decode cX10_feed 12 = .ok (.iconst (-1), 1) := by decide +kernel
theorem dX10_feed_13 : decode cX10_feed 13 = .ok (.ireturn, 1) := by decide +kernel
theorem dX10_feed_14 : decode cX10_feed 14 = .ok (.aload_n 0, 1) := by decide +kernel
theorem dX10_feed_15 : decode cX10_feed 15 = .ok (.getfield 165, 3) := by decide +kernel
theorem dX10_feed_18 : decode cX10_feed 18 = .ok (.bipush 120, 2) := by decide +kernel
theorem dX10_feed_20 : decode cX10_feed 20 = .ok (.if_icmp .ne 6, 3) := by decide +kernel
theorem dX10_feed_23 : decode cX10_feed 23 = .ok (.bipush (-3), 2) := by decide +kernel
theorem dX10_feed_25 : decode cX10_feed 25 = .ok (.ireturn, 1) := by decide +kernel
theorem dX10_feed_26 : decode cX10_feed 26 = .ok (.aload_n 0, 1) := by decide +kernel
theorem dX10_feed_27 : decode cX10_feed 27 = .ok (.getfield 25, 3) := by decide +kernel
theorem dX10_feed_30 : decode cX10_feed 30 = .ok (.aload_n 0, 1) := by decide +kernel
theorem dX10_feed_31 : decode cX10_feed 31 = .ok (.getfield 165, 3) := by decide +kernel
theorem dX10_feed_34 : decode cX10_feed 34 = .ok (.iload_n 1, 1) := by decide +kernel
theorem dX10_feed_35 : decode cX10_feed 35 = .ok (.iastore, 1) := by decide +kernel
theorem dX10_feed_36 : decode cX10_feed 36 = .ok (.aload_n 0, 1) := by decide +kernel
theorem dX10_feed_37 : decode cX10_feed 37 = .ok (.dup, 1) := by decide +kernel
theorem dX10_feed_38 : decode cX10_feed 38 = .ok (.getfield 165, 3) := by decide +kernel
theorem dX10_feed_41 : decode cX10_feed 41 = .ok (.iconst 1, 1) := by decide +kernel
theorem dX10_feed_42 : decode cX10_feed 42 = .ok (.iadd, 1) := by decide +kernel
theorem dX10_feed_43 : decode cX10_feed 43 = .ok (.putfield 165, 3) := by decide +kernel
theorem dX10_feed_46 : decode cX10_feed 46 = .ok (.aload_n 0, 1) := by decide +kernel
theorem dX10_feed_47 : decode cX10_feed 47 = .ok (.getfield 165, 3) := by decide +kernel
theorem dX10_feed_50 : decode cX10_feed 50 = .ok (.ireturn, 1) := by decide +kernel
theorem dX10_byteAt_0 : decode cX10_byteAt 0 = .ok (.aload_n 0, 1) := by decide +kernel
theorem dX10_byteAt_1 : decode cX10_byteAt 1 = .ok (.getfield 168, 3) := by decide +kernel
theorem dX10_byteAt_4 : decode cX10_byteAt 4 = .ok (.aload_n 0, 1) := by decide +kernel
theorem dX10_byteAt_5 : decode cX10_byteAt 5 = .ok (.getfield 171, 3) := by decide +kernel
theorem dX10_byteAt_8 : decode cX10_byteAt 8 = .ok (.if_icmp .ge 39, 3) := by decide +kernel
theorem dX10_byteAt_11 : decode cX10_byteAt 11 = .ok (.aload_n 0, 1) := by decide +kernel
theorem dX10_byteAt_12 : decode cX10_byteAt 12 = .ok (.getfield 174, 3) := by decide +kernel
theorem dX10_byteAt_15 : decode cX10_byteAt 15 = .ok (.ifCond .ge 15, 3) := by decide +kernel
theorem dX10_byteAt_18 : decode cX10_byteAt 18 = .ok (.aload_n 0, 1) := by decide +kernel
theorem dX10_byteAt_19 : decode cX10_byteAt 19 = .ok (.getfield 25, 3) := by decide +kernel
theorem dX10_byteAt_22 : decode cX10_byteAt 22 = .ok (.aload_n 0, 1) := by decide +kernel
theorem dX10_byteAt_23 : decode cX10_byteAt 23 = .ok (.getfield 168, 3) := by decide +kernel
theorem dX10_byteAt_26 : decode cX10_byteAt 26 = .ok (.iaload, 1) := by decide +kernel
theorem dX10_byteAt_27 : decode cX10_byteAt 27 = .ok (.goto 21, 3) := by decide +kernel
theorem dX10_byteAt_30 : decode cX10_byteAt 30 = .ok (.aload_n 0, 1) := by decide +kernel
theorem dX10_byteAt_31 : decode cX10_byteAt 31 = .ok (.getfield 28, 3) := by decide +kernel
theorem dX10_byteAt_34 : decode cX10_byteAt 34 = .ok (.aload_n 0, 1) := by decide +kernel
theorem dX10_byteAt_35 : decode cX10_byteAt 35 = .ok (.getfield 174, 3) := by decide +kernel
theorem dX10_byteAt_38 : decode cX10_byteAt 38 = .ok (.aload_n 0, 1) := by decide +kernel
theorem dX10_byteAt_39 : decode cX10_byteAt 39 = .ok (.getfield 168, 3) := by decide +kernel
theorem dX10_byteAt_42 : decode cX10_byteAt 42 = .ok (.iadd, 1) := by decide +kernel
theorem dX10_byteAt_43 : decode cX10_byteAt 43 = .ok (.iaload, 1) := by decide +kernel
theorem dX10_byteAt_44 : decode cX10_byteAt 44 = .ok (.goto 4, 3) := by decide +kernel
theorem dX10_byteAt_47 : decode cX10_byteAt 47 = .ok (.iconst 0, 1) := by decide +kernel
theorem dX10_byteAt_48 : decode cX10_byteAt 48 = .ok (.ireturn, 1) := by decide +kernel
theorem dX10_wrong_0 : decode cX10_wrong 0 = .ok (.aload_n 0, 1) := by decide +kernel
theorem dX10_wrong_1 : decode cX10_wrong 1 = .ok (.aload_n 0, 1) := by decide +kernel
theorem dX10_wrong_2 : decode cX10_wrong 2 = .ok (.getfield 177, 3) := by decide +kernel
theorem dX10_wrong_5 : decode cX10_wrong 5 = .ok (.ifCond .ge 10, 3) := by decide +kernel
theorem dX10_wrong_8 : decode cX10_wrong 8 = .ok (.aload_n 0, 1) := by decide +kernel
theorem dX10_wrong_9 : decode cX10_wrong 9 = .ok (.getfield 168, 3) := by decide +kernel
theorem dX10_wrong_12 : decode cX10_wrong 12 = .ok (.goto 7, 3) := by decide +kernel
theorem dX10_wrong_15 : decode cX10_wrong 15 = .ok (.aload_n 0, 1) := by decide +kernel
theorem dX10_wrong_16 : decode cX10_wrong 16 = .ok (.getfield 177, 3) := by decide +kernel
theorem dX10_wrong_19 : decode cX10_wrong 19 = .ok (.putfield 177, 3) := by decide +kernel
theorem dX10_wrong_22 : decode cX10_wrong 22 = .ok (.iconst 0, 1) := by decide +kernel
theorem dX10_wrong_23 : decode cX10_wrong 23 = .ok (.ireturn, 1) := by decide +kernel
theorem dX10_takes_0 : decode cX10_takes 0 = .ok (.aload_n 0, 1) := by decide +kernel
theorem dX10_takes_1 : decode cX10_takes 1 = .ok (.getfield 177, 3) := by decide +kernel
theorem dX10_takes_4 : decode cX10_takes 4 = .ok (.ifCond .ge 11, 3) := by decide +kernel
theorem dX10_takes_7 : decode cX10_takes 7 = .ok (.aload_n 0, 1) := by decide +kernel
theorem dX10_takes_8 : decode cX10_takes 8 = .ok (.invokevirtual 180, 3) := by decide +kernel
theorem dX10_takes_11 : decode cX10_takes 11 = .ok (.iload_n 1, 1) := by decide +kernel
theorem dX10_takes_12 : decode cX10_takes 12 = .ok (.if_icmp .eq 5, 3) := by decide +kernel
theorem dX10_takes_15 : decode cX10_takes 15 = .ok (.iconst 0, 1) := by decide +kernel
theorem dX10_takes_16 : decode cX10_takes 16 = .ok (.ireturn, 1) := by decide +kernel
theorem dX10_takes_17 : decode cX10_takes 17 = .ok (.aload_n 0, 1) := by decide +kernel
theorem dX10_takes_18 : decode cX10_takes 18 = .ok (.dup, 1) := by decide +kernel
theorem dX10_takes_19 : decode cX10_takes 19 = .ok (.getfield 168, 3) := by decide +kernel
theorem dX10_takes_22 : decode cX10_takes 22 = .ok (.iconst 1, 1) := by decide +kernel
theorem dX10_takes_23 : decode cX10_takes 23 = .ok (.iadd, 1) := by decide +kernel
theorem dX10_takes_24 : decode cX10_takes 24 = .ok (.putfield 168, 3) := by decide +kernel
theorem dX10_takes_27 : decode cX10_takes 27 = .ok (.iconst 1, 1) := by decide +kernel
theorem dX10_takes_28 : decode cX10_takes 28 = .ok (.ireturn, 1) := by decide +kernel
theorem dX10_either_0 : decode cX10_either 0 = .ok (.aload_n 0, 1) := by decide +kernel
theorem dX10_either_1 : decode cX10_either 1 = .ok (.invokevirtual 184, 3) := by decide +kernel
theorem dX10_either_4 : decode cX10_either 4 = .ok (.istore_n 1, 1) := by decide +kernel
theorem dX10_either_5 : decode cX10_either 5 = .ok (.aload_n 0, 1) := by decide +kernel
theorem dX10_either_6 : decode cX10_either 6 = .ok (.bipush 124, 2) := by decide +kernel
theorem dX10_either_8 : decode cX10_either 8 = .ok (.invokevirtual 187, 3) := by decide +kernel
theorem dX10_either_11 : decode cX10_either 11 = .ok (.ifCond .eq 25, 3) := by decide +kernel
theorem dX10_either_14 : decode cX10_either 14 = .ok (.aload_n 0, 1) := by decide +kernel
theorem dX10_either_15 : decode cX10_either 15 = .ok (.invokevirtual 184, 3) := by decide +kernel
theorem dX10_either_18 : decode cX10_either 18 = .ok (.istore_n 2, 1) := by decide +kernel
theorem dX10_either_19 : decode cX10_either 19 = .ok (.iload_n 1, 1) := by decide +kernel
theorem dX10_either_20 : decode cX10_either 20 = .ok (.ifCond .ne 7, 3) := by decide +kernel
theorem dX10_either_23 : decode cX10_either 23 = .ok (.iload_n 2, 1) := by decide +kernel
theorem dX10_either_24 : decode cX10_either 24 = .ok (.ifCond .eq 7, 3) := by decide +kernel
theorem dX10_either_27 : decode cX10_either 27 = .ok (.iconst 1, 1) := by decide +kernel
theorem dX10_either_28 : decode cX10_either 28 = .ok (.goto 4, 3) := by decide +kernel
theorem dX10_either_31 : decode cX10_either 31 = .ok (.iconst 0, 1) := by decide +kernel
theorem dX10_either_32 : decode cX10_either 32 = .ok (.istore_n 1, 1) := by decide +kernel
theorem dX10_either_33 : decode cX10_either 33 = .ok (.goto (-28), 3) := by decide +kernel
theorem dX10_either_36 : decode cX10_either 36 = .ok (.iload_n 1, 1) := by decide +kernel
theorem dX10_either_37 : decode cX10_either 37 = .ok (.ireturn, 1) := by decide +kernel
theorem dX10_bothOf_0 : decode cX10_bothOf 0 = .ok (.aload_n 0, 1) := by decide +kernel
theorem dX10_bothOf_1 : decode cX10_bothOf 1 = .ok (.invokevirtual 190, 3) := by decide +kernel
theorem dX10_bothOf_4 : decode cX10_bothOf 4 = .ok (.istore_n 1, 1) := by decide +kernel
theorem dX10_bothOf_5 : decode cX10_bothOf 5 = .ok (.aload_n 0, 1) := by decide +kernel
theorem dX10_bothOf_6 : decode cX10_bothOf 6 = .ok (.bipush 38, 2) := by decide +kernel
theorem dX10_bothOf_8 : decode cX10_bothOf 8 = .ok (.invokevirtual 187, 3) := by decide +kernel
theorem dX10_bothOf_11 : decode cX10_bothOf 11 = .ok (.ifCond .eq 25, 3) := by decide +kernel
theorem dX10_bothOf_14 : decode cX10_bothOf 14 = .ok (.aload_n 0, 1) := by decide +kernel
theorem dX10_bothOf_15 : decode cX10_bothOf 15 = .ok (.invokevirtual 190, 3) := by decide +kernel
theorem dX10_bothOf_18 : decode cX10_bothOf 18 = .ok (.istore_n 2, 1) := by decide +kernel
theorem dX10_bothOf_19 : decode cX10_bothOf 19 = .ok (.iload_n 1, 1) := by decide +kernel
theorem dX10_bothOf_20 : decode cX10_bothOf 20 = .ok (.ifCond .eq 11, 3) := by decide +kernel
theorem dX10_bothOf_23 : decode cX10_bothOf 23 = .ok (.iload_n 2, 1) := by decide +kernel
theorem dX10_bothOf_24 : decode cX10_bothOf 24 = .ok (.ifCond .eq 7, 3) := by decide +kernel
theorem dX10_bothOf_27 : decode cX10_bothOf 27 = .ok (.iconst 1, 1) := by decide +kernel
theorem dX10_bothOf_28 : decode cX10_bothOf 28 = .ok (.goto 4, 3) := by decide +kernel
theorem dX10_bothOf_31 : decode cX10_bothOf 31 = .ok (.iconst 0, 1) := by decide +kernel
theorem dX10_bothOf_32 : decode cX10_bothOf 32 = .ok (.istore_n 1, 1) := by decide +kernel
theorem dX10_bothOf_33 : decode cX10_bothOf 33 = .ok (.goto (-28), 3) := by decide +kernel
theorem dX10_bothOf_36 : decode cX10_bothOf 36 = .ok (.iload_n 1, 1) := by decide +kernel
theorem dX10_bothOf_37 : decode cX10_bothOf 37 = .ok (.ireturn, 1) := by decide +kernel
theorem dX10_compared_0 : decode cX10_compared 0 = .ok (.aload_n 0, 1) := by decide +kernel
theorem dX10_compared_1 : decode cX10_compared 1 = .ok (.invokevirtual 193, 3) := by decide +kernel
theorem dX10_compared_4 : decode cX10_compared 4 = .ok (.istore_n 1, 1) := by decide +kernel
theorem dX10_compared_5 : decode cX10_compared 5 = .ok (.aload_n 0, 1) := by decide +kernel
theorem dX10_compared_6 : decode cX10_compared 6 = .ok (.invokevirtual 180, 3) := by decide +kernel
theorem dX10_compared_9 : decode cX10_compared 9 = .ok (.istore_n 2, 1) := by decide +kernel
theorem dX10_compared_10 : decode cX10_compared 10 = .ok (.aload_n 0, 1) := by decide +kernel
theorem dX10_compared_11 : decode cX10_compared 11 = .ok (.getfield 177, 3) := by decide +kernel
theorem dX10_compared_14 : decode cX10_compared 14 = .ok (.ifCond .ge 21, 3) := by decide +kernel
theorem dX10_compared_17 : decode cX10_compared 17 = .ok (.iload_n 2, 1) := by decide +kernel
theorem dX10_compared_18 : decode cX10_compared 18 = .ok (.bipush 60, 2) := by decide +kernel
theorem dX10_compared_20 : decode cX10_compared 20 = .ok (.if_icmp .eq 17, 3) := by decide +kernel
theorem dX10_compared_23 : decode cX10_compared 23 = .ok (.iload_n 2, 1) := by decide +kernel
theorem dX10_compared_24 : decode cX10_compared 24 = .ok (.bipush 61, 2) := by decide +kernel
theorem dX10_compared_26 : decode cX10_compared 26 = .ok (.if_icmp .eq 11, 3) := by decide +kernel
theorem dX10_compared_29 : decode cX10_compared 29 = .ok (.iload_n 2, 1) := by decide +kernel
theorem dX10_compared_30 : decode cX10_compared 30 = .ok (.bipush 62, 2) := by decide +kernel
theorem dX10_compared_32 : decode cX10_compared 32 = .ok (.if_icmp .eq 5, 3) := by decide +kernel
theorem dX10_compared_35 : decode cX10_compared 35 = .ok (.iload_n 1, 1) := by decide +kernel
theorem dX10_compared_36 : decode cX10_compared 36 = .ok (.ireturn, 1) := by decide +kernel
theorem dX10_compared_37 : decode cX10_compared 37 = .ok (.aload_n 0, 1) := by decide +kernel
theorem dX10_compared_38 : decode cX10_compared 38 = .ok (.dup, 1) := by decide +kernel
theorem dX10_compared_39 : decode cX10_compared 39 = .ok (.getfield 168, 3) := by decide +kernel
theorem dX10_compared_42 : decode cX10_compared 42 = .ok (.iconst 1, 1) := by decide +kernel
theorem dX10_compared_43 : decode cX10_compared 43 = .ok (.iadd, 1) := by decide +kernel
theorem dX10_compared_44 : decode cX10_compared 44 = .ok (.putfield 168, 3) := by decide +kernel
theorem dX10_compared_47 : decode cX10_compared 47 = .ok (.aload_n 0, 1) := by decide +kernel
theorem dX10_compared_48 : decode cX10_compared 48 = .ok (.invokevirtual 193, 3) := by decide +kernel
theorem dX10_compared_51 : decode cX10_compared 51 = .ok (.istore_n 3, 1) := by decide +kernel
theorem dX10_compared_52 : decode cX10_compared 52 = .ok (.iload_n 2, 1) := by decide +kernel
theorem dX10_compared_53 : decode cX10_compared 53 = .ok (.bipush 60, 2) := by decide +kernel
theorem dX10_compared_55 : decode cX10_compared 55 = .ok (.if_icmp .ne 11, 3) := by decide +kernel
theorem dX10_compared_58 : decode cX10_compared 58 = .ok (.iload_n 1, 1) := by decide +kernel
theorem dX10_compared_59 : decode cX10_compared 59 = .ok (.iload_n 3, 1) := by decide +kernel
theorem dX10_compared_60 : decode cX10_compared 60 = .ok (.if_icmp .ge 29, 3) := by decide +kernel
theorem dX10_compared_63 : decode cX10_compared 63 = .ok (.goto 22, 3) := by decide +kernel
theorem dX10_compared_66 : decode cX10_compared 66 = .ok (.iload_n 2, 1) := by decide +kernel
theorem dX10_compared_67 : decode cX10_compared 67 = .ok (.bipush 61, 2) := by decide +kernel
theorem dX10_compared_69 : decode cX10_compared 69 = .ok (.if_icmp .ne 11, 3) := by decide +kernel
theorem dX10_compared_72 : decode cX10_compared 72 = .ok (.iload_n 1, 1) := by decide +kernel
theorem dX10_compared_73 : decode cX10_compared 73 = .ok (.iload_n 3, 1) := by decide +kernel
theorem dX10_compared_74 : decode cX10_compared 74 = .ok (.if_icmp .ne 15, 3) := by decide +kernel
theorem dX10_compared_77 : decode cX10_compared 77 = .ok (.goto 8, 3) := by decide +kernel
theorem dX10_compared_80 : decode cX10_compared 80 = .ok (.iload_n 1, 1) := by decide +kernel
theorem dX10_compared_81 : decode cX10_compared 81 = .ok (.iload_n 3, 1) := by decide +kernel
theorem dX10_compared_82 : decode cX10_compared 82 = .ok (.if_icmp .le 7, 3) := by decide +kernel
theorem dX10_compared_85 : decode cX10_compared 85 = .ok (.iconst 1, 1) := by decide +kernel
theorem dX10_compared_86 : decode cX10_compared 86 = .ok (.goto 4, 3) := by decide +kernel
theorem dX10_compared_89 : decode cX10_compared 89 = .ok (.iconst 0, 1) := by decide +kernel
theorem dX10_compared_90 : decode cX10_compared 90 = .ok (.ireturn, 1) := by decide +kernel
theorem dX10_sums_0 : decode cX10_sums 0 = .ok (.aload_n 0, 1) := by decide +kernel
theorem dX10_sums_1 : decode cX10_sums 1 = .ok (.invokevirtual 196, 3) := by decide +kernel
theorem dX10_sums_4 : decode cX10_sums 4 = .ok (.istore_n 1, 1) := by decide +kernel
theorem dX10_sums_5 : decode cX10_sums 5 = .ok (.aload_n 0, 1) := by decide +kernel
theorem dX10_sums_6 : decode cX10_sums 6 = .ok (.getfield 177, 3) := by decide +kernel
theorem dX10_sums_9 : decode cX10_sums 9 = .ok (.ifCond .ge 68, 3) := by decide +kernel
theorem dX10_sums_12 : decode cX10_sums 12 = .ok (.aload_n 0, 1) := by decide +kernel
theorem dX10_sums_13 : decode cX10_sums 13 = .ok (.invokevirtual 180, 3) := by decide +kernel
theorem dX10_sums_16 : decode cX10_sums 16 = .ok (.bipush 43, 2) := by decide +kernel
theorem dX10_sums_18 : decode cX10_sums 18 = .ok (.if_icmp .eq 12, 3) := by decide +kernel
theorem dX10_sums_21 : decode cX10_sums 21 = .ok (.aload_n 0, 1) := by decide +kernel
theorem dX10_sums_22 : decode cX10_sums 22 = .ok (.invokevirtual 180, 3) := by decide +kernel
theorem dX10_sums_25 : decode cX10_sums 25 = .ok (.bipush 45, 2) := by decide +kernel
theorem dX10_sums_27 : decode cX10_sums 27 = .ok (.if_icmp .ne 50, 3) := by decide +kernel
theorem dX10_sums_30 : decode cX10_sums 30 = .ok (.aload_n 0, 1) := by decide +kernel
theorem dX10_sums_31 : decode cX10_sums 31 = .ok (.invokevirtual 180, 3) := by decide +kernel
theorem dX10_sums_34 : decode cX10_sums 34 = .ok (.bipush 43, 2) := by decide +kernel
theorem dX10_sums_36 : decode cX10_sums 36 = .ok (.if_icmp .ne 7, 3) := by decide +kernel
theorem dX10_sums_39 : decode cX10_sums 39 = .ok (.iconst 1, 1) := by decide +kernel
theorem dX10_sums_40 : decode cX10_sums 40 = .ok (.goto 4, 3) := by decide +kernel
theorem dX10_sums_43 : decode cX10_sums 43 = .ok (.iconst 0, 1) := by decide +kernel
theorem dX10_sums_44 : decode cX10_sums 44 = .ok (.istore_n 2, 1) := by decide +kernel
theorem dX10_sums_45 : decode cX10_sums 45 = .ok (.aload_n 0, 1) := by decide +kernel
theorem dX10_sums_46 : decode cX10_sums 46 = .ok (.dup, 1) := by decide +kernel
theorem dX10_sums_47 : decode cX10_sums 47 = .ok (.getfield 168, 3) := by decide +kernel
theorem dX10_sums_50 : decode cX10_sums 50 = .ok (.iconst 1, 1) := by decide +kernel
theorem dX10_sums_51 : decode cX10_sums 51 = .ok (.iadd, 1) := by decide +kernel
theorem dX10_sums_52 : decode cX10_sums 52 = .ok (.putfield 168, 3) := by decide +kernel
theorem dX10_sums_55 : decode cX10_sums 55 = .ok (.aload_n 0, 1) := by decide +kernel
theorem dX10_sums_56 : decode cX10_sums 56 = .ok (.invokevirtual 196, 3) := by decide +kernel
theorem dX10_sums_59 : decode cX10_sums 59 = .ok (.istore_n 3, 1) := by decide +kernel
theorem dX10_sums_60 : decode cX10_sums 60 = .ok (.iload_n 2, 1) := by decide +kernel
theorem dX10_sums_61 : decode cX10_sums 61 = .ok (.ifCond .eq 9, 3) := by decide +kernel
theorem dX10_sums_64 : decode cX10_sums 64 = .ok (.iload_n 1, 1) := by decide +kernel
theorem dX10_sums_65 : decode cX10_sums 65 = .ok (.iload_n 3, 1) := by decide +kernel
theorem dX10_sums_66 : decode cX10_sums 66 = .ok (.iadd, 1) := by decide +kernel
theorem dX10_sums_67 : decode cX10_sums 67 = .ok (.goto 6, 3) := by decide +kernel
theorem dX10_sums_70 : decode cX10_sums 70 = .ok (.iload_n 1, 1) := by decide +kernel
theorem dX10_sums_71 : decode cX10_sums 71 = .ok (.iload_n 3, 1) := by decide +kernel
theorem dX10_sums_72 : decode cX10_sums 72 = .ok (.isub, 1) := by decide +kernel
theorem dX10_sums_73 : decode cX10_sums 73 = .ok (.istore_n 1, 1) := by decide +kernel
theorem dX10_sums_74 : decode cX10_sums 74 = .ok (.goto (-69), 3) := by decide +kernel
theorem dX10_sums_77 : decode cX10_sums 77 = .ok (.iload_n 1, 1) := by decide +kernel
theorem dX10_sums_78 : decode cX10_sums 78 = .ok (.ireturn, 1) := by decide +kernel
theorem dX10_product_0 : decode cX10_product 0 = .ok (.aload_n 0, 1) := by decide +kernel
theorem dX10_product_1 : decode cX10_product 1 = .ok (.invokevirtual 199, 3) := by decide +kernel
theorem dX10_product_4 : decode cX10_product 4 = .ok (.istore_n 1, 1) := by decide +kernel
theorem dX10_product_5 : decode cX10_product 5 = .ok (.aload_n 0, 1) := by decide +kernel
theorem dX10_product_6 : decode cX10_product 6 = .ok (.invokevirtual 180, 3) := by decide +kernel
theorem dX10_product_9 : decode cX10_product 9 = .ok (.istore_n 2, 1) := by decide +kernel
theorem dX10_product_10 : decode cX10_product 10 = .ok (.aload_n 0, 1) := by decide +kernel
theorem dX10_product_11 : decode cX10_product 11 = .ok (.getfield 177, 3) := by decide +kernel
theorem dX10_product_14 : decode cX10_product 14 = .ok (.ifCond .ge 80, 3) := by decide +kernel
theorem dX10_product_17 : decode cX10_product 17 = .ok (.iload_n 2, 1) := by decide +kernel
theorem dX10_product_18 : decode cX10_product 18 = .ok (.bipush 42, 2) := by decide +kernel
theorem dX10_product_20 : decode cX10_product 20 = .ok (.if_icmp .eq 15, 3) := by decide +kernel
theorem dX10_product_23 : decode cX10_product 23 = .ok (.iload_n 2, 1) := by decide +kernel
theorem dX10_product_24 : decode cX10_product 24 = .ok (.bipush 47, 2) := by decide +kernel
theorem dX10_product_26 : decode cX10_product 26 = .ok (.if_icmp .eq 9, 3) := by decide +kernel
theorem dX10_product_29 : decode cX10_product 29 = .ok (.iload_n 2, 1) := by decide +kernel
theorem dX10_product_30 : decode cX10_product 30 = .ok (.bipush 37, 2) := by decide +kernel
theorem dX10_product_32 : decode cX10_product 32 = .ok (.if_icmp .ne 62, 3) := by decide +kernel
theorem dX10_product_35 : decode cX10_product 35 = .ok (.aload_n 0, 1) := by decide +kernel
theorem dX10_product_36 : decode cX10_product 36 = .ok (.dup, 1) := by decide +kernel
theorem dX10_product_37 : decode cX10_product 37 = .ok (.getfield 168, 3) := by decide +kernel
theorem dX10_product_40 : decode cX10_product 40 = .ok (.iconst 1, 1) := by decide +kernel
theorem dX10_product_41 : decode cX10_product 41 = .ok (.iadd, 1) := by decide +kernel
theorem dX10_product_42 : decode cX10_product 42 = .ok (.putfield 168, 3) := by decide +kernel
theorem dX10_product_45 : decode cX10_product 45 = .ok (.aload_n 0, 1) := by decide +kernel
theorem dX10_product_46 : decode cX10_product 46 = .ok (.invokevirtual 199, 3) := by decide +kernel
theorem dX10_product_49 : decode cX10_product 49 = .ok (.istore_n 3, 1) := by decide +kernel
theorem dX10_product_50 : decode cX10_product 50 = .ok (.iload_n 2, 1) := by decide +kernel
theorem dX10_product_51 : decode cX10_product 51 = .ok (.bipush 42, 2) := by decide +kernel
theorem dX10_product_53 : decode cX10_product 53 = .ok (.if_icmp .ne 9, 3) := by decide +kernel
theorem dX10_product_56 : decode cX10_product 56 = .ok (.iload_n 1, 1) := by decide +kernel
theorem dX10_product_57 : decode cX10_product 57 = .ok (.iload_n 3, 1) := by decide +kernel
theorem dX10_product_58 : decode cX10_product 58 = .ok (.imul, 1) := by decide +kernel
theorem dX10_product_59 : decode cX10_product 59 = .ok (.goto 26, 3) := by decide +kernel
theorem dX10_product_62 : decode cX10_product 62 = .ok (.iload_n 3, 1) := by decide +kernel
theorem dX10_product_63 : decode cX10_product 63 = .ok (.ifCond .ne 7, 3) := by decide +kernel
theorem dX10_product_66 : decode cX10_product 66 = .ok (.iconst 0, 1) := by decide +kernel
theorem dX10_product_67 : decode cX10_product 67 = .ok (.goto 18, 3) := by decide +kernel
theorem dX10_product_70 : decode cX10_product 70 = .ok (.iload_n 2, 1) := by decide +kernel
theorem dX10_product_71 : decode cX10_product 71 = .ok (.bipush 47, 2) := by decide +kernel
theorem dX10_product_73 : decode cX10_product 73 = .ok (.if_icmp .ne 9, 3) := by decide +kernel
theorem dX10_product_76 : decode cX10_product 76 = .ok (.iload_n 1, 1) := by decide +kernel
theorem dX10_product_77 : decode cX10_product 77 = .ok (.iload_n 3, 1) := by decide +kernel
theorem dX10_product_78 : decode cX10_product 78 = .ok (.idiv, 1) := by decide +kernel
theorem dX10_product_79 : decode cX10_product 79 = .ok (.goto 6, 3) := by decide +kernel
theorem dX10_product_82 : decode cX10_product 82 = .ok (.iload_n 1, 1) := by decide +kernel
theorem dX10_product_83 : decode cX10_product 83 = .ok (.iload_n 3, 1) := by decide +kernel
theorem dX10_product_84 : decode cX10_product 84 = .ok (.irem, 1) := by decide +kernel
theorem dX10_product_85 : decode cX10_product 85 = .ok (.istore_n 1, 1) := by decide +kernel
theorem dX10_product_86 : decode cX10_product 86 = .ok (.aload_n 0, 1) := by decide +kernel
theorem dX10_product_87 : decode cX10_product 87 = .ok (.invokevirtual 180, 3) := by decide +kernel
theorem dX10_product_90 : decode cX10_product 90 = .ok (.istore_n 2, 1) := by decide +kernel
theorem dX10_product_91 : decode cX10_product 91 = .ok (.goto (-81), 3) := by decide +kernel
theorem dX10_product_94 : decode cX10_product 94 = .ok (.iload_n 1, 1) := by decide +kernel
theorem dX10_product_95 : decode cX10_product 95 = .ok (.ireturn, 1) := by decide +kernel
theorem dX10_nameOf_0 : decode cX10_nameOf 0 = .ok (.iload_n 0, 1) := by decide +kernel
theorem dX10_nameOf_1 : decode cX10_nameOf 1 = .ok (.tableswitch 107 100 119 #[103, 107, 107, 107, 107, 107, 107, 105, 101, 107, 107, 107, 95, 107, 107, 107, 99, 107, 107, 97], 95) := by decide +kernel
theorem dX10_nameOf_96 : decode cX10_nameOf 96 = .ok (.iconst 0, 1) := by decide +kernel
theorem dX10_nameOf_97 : decode cX10_nameOf 97 = .ok (.ireturn, 1) := by decide +kernel
theorem dX10_nameOf_98 : decode cX10_nameOf 98 = .ok (.iconst 1, 1) := by decide +kernel
theorem dX10_nameOf_99 : decode cX10_nameOf 99 = .ok (.ireturn, 1) := by decide +kernel
theorem dX10_nameOf_100 : decode cX10_nameOf 100 = .ok (.iconst 2, 1) := by decide +kernel
theorem dX10_nameOf_101 : decode cX10_nameOf 101 = .ok (.ireturn, 1) := by decide +kernel
theorem dX10_nameOf_102 : decode cX10_nameOf 102 = .ok (.iconst 3, 1) := by decide +kernel
theorem dX10_nameOf_103 : decode cX10_nameOf 103 = .ok (.ireturn, 1) := by decide +kernel
theorem dX10_nameOf_104 : decode cX10_nameOf 104 = .ok (.iconst 4, 1) := by decide +kernel
theorem dX10_nameOf_105 : decode cX10_nameOf 105 = .ok (.ireturn, 1) := by decide +kernel
theorem dX10_nameOf_106 : decode cX10_nameOf 106 = .ok (.iconst 5, 1) := by decide +kernel
theorem dX10_nameOf_107 : decode cX10_nameOf 107 = .ok (.ireturn, 1) := by decide +kernel
theorem dX10_nameOf_108 : decode cX10_nameOf 108 = .ok (.iconst (-1), 1) := by decide +kernel
theorem dX10_nameOf_109 : decode cX10_nameOf 109 = .ok (.ireturn, 1) := by decide +kernel
theorem dX10_one_0 : decode cX10_one 0 = .ok (.aload_n 0, 1) := by decide +kernel
theorem dX10_one_1 : decode cX10_one 1 = .ok (.getfield 177, 3) := by decide +kernel
theorem dX10_one_4 : decode cX10_one 4 = .ok (.ifCond .lt 5, 3) := by decide +kernel
theorem dX10_one_7 : decode cX10_one 7 = .ok (.iconst 0, 1) := by decide +kernel
theorem dX10_one_8 : decode cX10_one 8 = .ok (.ireturn, 1) := by decide +kernel
theorem dX10_one_9 : decode cX10_one 9 = .ok (.aload_n 0, 1) := by decide +kernel
theorem dX10_one_10 : decode cX10_one 10 = .ok (.invokevirtual 180, 3) := by decide +kernel
theorem dX10_one_13 : decode cX10_one 13 = .ok (.istore_n 1, 1) := by decide +kernel
theorem dX10_one_14 : decode cX10_one 14 = .ok (.iload_n 1, 1) := by decide +kernel
theorem dX10_one_15 : decode cX10_one 15 = .ok (.bipush 33, 2) := by decide +kernel
theorem dX10_one_17 : decode cX10_one 17 = .ok (.if_icmp .eq 15, 3) := by decide +kernel
theorem dX10_one_20 : decode cX10_one 20 = .ok (.iload_n 1, 1) := by decide +kernel
theorem dX10_one_21 : decode cX10_one 21 = .ok (.bipush 45, 2) := by decide +kernel
theorem dX10_one_23 : decode cX10_one 23 = .ok (.if_icmp .eq 9, 3) := by decide +kernel
theorem dX10_one_26 : decode cX10_one 26 = .ok (.iload_n 1, 1) := by decide +kernel
theorem dX10_one_27 : decode cX10_one 27 = .ok (.bipush 40, 2) := by decide +kernel
theorem dX10_one_29 : decode cX10_one 29 = .ok (.if_icmp .ne 116, 3) := by decide +kernel
theorem dX10_one_32 : decode cX10_one 32 = .ok (.aload_n 0, 1) := by decide +kernel
theorem dX10_one_33 : decode cX10_one 33 = .ok (.getfield 202, 3) := by decide +kernel
theorem dX10_one_36 : decode cX10_one 36 = .ok (.bipush 6, 2) := by decide +kernel
theorem dX10_one_38 : decode cX10_one 38 = .ok (.if_icmp .ne 8, 3) := by decide +kernel
theorem dX10_one_41 : decode cX10_one 41 = .ok (.aload_n 0, 1) := by decide +kernel
theorem dX10_one_42 : decode cX10_one 42 = .ok (.invokevirtual 205, 3) := by decide +kernel
theorem dX10_one_45 : decode cX10_one 45 = .ok (.ireturn, 1) := by decide +kernel
theorem dX10_one_46 : decode cX10_one 46 = .ok (.aload_n 0, 1) := by decide +kernel
theorem dX10_one_47 : decode cX10_one 47 = .ok (.dup, 1) := by decide +kernel
theorem dX10_one_48 : decode cX10_one 48 = .ok (.getfield 202, 3) := by decide +kernel
theorem dX10_one_51 : decode cX10_one 51 = .ok (.iconst 1, 1) := by decide +kernel
theorem dX10_one_52 : decode cX10_one 52 = .ok (.iadd, 1) := by decide +kernel
theorem dX10_one_53 : decode cX10_one 53 = .ok (.putfield 202, 3) := by decide +kernel
theorem dX10_one_56 : decode cX10_one 56 = .ok (.aload_n 0, 1) := by decide +kernel
theorem dX10_one_57 : decode cX10_one 57 = .ok (.dup, 1) := by decide +kernel
theorem dX10_one_58 : decode cX10_one 58 = .ok (.getfield 168, 3) := by decide +kernel
theorem dX10_one_61 : decode cX10_one 61 = .ok (.iconst 1, 1) := by decide +kernel
theorem dX10_one_62 : decode cX10_one 62 = .ok (.iadd, 1) := by decide +kernel
theorem dX10_one_63 : decode cX10_one 63 = .ok (.putfield 168, 3) := by decide +kernel
theorem dX10_one_66 : decode cX10_one 66 = .ok (.iload_n 1, 1) := by decide +kernel
theorem dX10_one_67 : decode cX10_one 67 = .ok (.bipush 40, 2) := by decide +kernel
theorem dX10_one_69 : decode cX10_one 69 = .ok (.if_icmp .ne 10, 3) := by decide +kernel
theorem dX10_one_72 : decode cX10_one 72 = .ok (.aload_n 0, 1) := by decide +kernel
theorem dX10_one_73 : decode cX10_one 73 = .ok (.invokevirtual 208, 3) := by decide +kernel
theorem dX10_one_76 : decode cX10_one 76 = .ok (.goto 7, 3) := by decide +kernel
theorem dX10_one_79 : decode cX10_one 79 = .ok (.aload_n 0, 1) := by decide +kernel
theorem dX10_one_80 : decode cX10_one 80 = .ok (.invokevirtual 199, 3) := by decide +kernel
theorem dX10_one_83 : decode cX10_one 83 = .ok (.istore_n 2, 1) := by decide +kernel
theorem dX10_one_84 : decode cX10_one 84 = .ok (.iload_n 1, 1) := by decide +kernel
theorem dX10_one_85 : decode cX10_one 85 = .ok (.bipush 40, 2) := by decide +kernel
theorem dX10_one_87 : decode cX10_one 87 = .ok (.if_icmp .ne 17, 3) := by decide +kernel
theorem dX10_one_90 : decode cX10_one 90 = .ok (.aload_n 0, 1) := by decide +kernel
theorem dX10_one_91 : decode cX10_one 91 = .ok (.bipush 41, 2) := by decide +kernel
theorem dX10_one_93 : decode cX10_one 93 = .ok (.invokevirtual 187, 3) := by decide +kernel
theorem dX10_one_96 : decode cX10_one 96 = .ok (.ifCond .ne 8, 3) := by decide +kernel
theorem dX10_one_99 : decode cX10_one 99 = .ok (.aload_n 0, 1) := by decide +kernel
theorem dX10_one_100 : decode cX10_one 100 = .ok (.invokevirtual 205, 3) := by decide +kernel
theorem dX10_one_103 : decode cX10_one 103 = .ok (.ireturn, 1) := by decide +kernel
theorem dX10_one_104 : decode cX10_one 104 = .ok (.aload_n 0, 1) := by decide +kernel
theorem dX10_one_105 : decode cX10_one 105 = .ok (.dup, 1) := by decide +kernel
theorem dX10_one_106 : decode cX10_one 106 = .ok (.getfield 202, 3) := by decide +kernel
theorem dX10_one_109 : decode cX10_one 109 = .ok (.iconst 1, 1) := by decide +kernel
theorem dX10_one_110 : decode cX10_one 110 = .ok (.isub, 1) := by decide +kernel
theorem dX10_one_111 : decode cX10_one 111 = .ok (.putfield 202, 3) := by decide +kernel
theorem dX10_one_114 : decode cX10_one 114 = .ok (.iload_n 1, 1) := by decide +kernel
theorem dX10_one_115 : decode cX10_one 115 = .ok (.bipush 40, 2) := by decide +kernel
theorem dX10_one_117 : decode cX10_one 117 = .ok (.if_icmp .ne 7, 3) := by decide +kernel
theorem dX10_one_120 : decode cX10_one 120 = .ok (.iload_n 2, 1) := by decide +kernel
theorem dX10_one_121 : decode cX10_one 121 = .ok (.goto 23, 3) := by decide +kernel
theorem dX10_one_124 : decode cX10_one 124 = .ok (.iload_n 1, 1) := by decide +kernel
theorem dX10_one_125 : decode cX10_one 125 = .ok (.bipush 45, 2) := by decide +kernel
theorem dX10_one_127 : decode cX10_one 127 = .ok (.if_icmp .ne 8, 3) := by decide +kernel
theorem dX10_one_130 : decode cX10_one 130 = .ok (.iload_n 2, 1) := by decide +kernel
theorem dX10_one_131 : decode cX10_one 131 = .ok (.ineg, 1) := by decide +kernel
theorem dX10_one_132 : decode cX10_one 132 = .ok (.goto 12, 3) := by decide +kernel
theorem dX10_one_135 : decode cX10_one 135 = .ok (.iload_n 2, 1) := by decide +kernel
theorem dX10_one_136 : decode cX10_one 136 = .ok (.ifCond .ne 7, 3) := by decide +kernel
theorem dX10_one_139 : decode cX10_one 139 = .ok (.iconst 1, 1) := by decide +kernel
theorem dX10_one_140 : decode cX10_one 140 = .ok (.goto 4, 3) := by decide +kernel
theorem dX10_one_143 : decode cX10_one 143 = .ok (.iconst 0, 1) := by decide +kernel
theorem dX10_one_144 : decode cX10_one 144 = .ok (.ireturn, 1) := by decide +kernel
theorem dX10_one_145 : decode cX10_one 145 = .ok (.iload_n 1, 1) := by decide +kernel
theorem dX10_one_146 : decode cX10_one 146 = .ok (.invokestatic 211, 3) := by decide +kernel
theorem dX10_one_149 : decode cX10_one 149 = .ok (.istore_n 2, 1) := by decide +kernel
theorem dX10_one_150 : decode cX10_one 150 = .ok (.iload_n 2, 1) := by decide +kernel
theorem dX10_one_151 : decode cX10_one 151 = .ok (.ifCond .lt 20, 3) := by decide +kernel
theorem dX10_one_154 : decode cX10_one 154 = .ok (.aload_n 0, 1) := by decide +kernel
theorem dX10_one_155 : decode cX10_one 155 = .ok (.dup, 1) := by decide +kernel
theorem dX10_one_156 : decode cX10_one 156 = .ok (.getfield 168, 3) := by decide +kernel
theorem dX10_one_159 : decode cX10_one 159 = .ok (.iconst 1, 1) := by decide +kernel
theorem dX10_one_160 : decode cX10_one 160 = .ok (.iadd, 1) := by decide +kernel
theorem dX10_one_161 : decode cX10_one 161 = .ok (.putfield 168, 3) := by decide +kernel
theorem dX10_one_164 : decode cX10_one 164 = .ok (.aload_n 0, 1) := by decide +kernel
theorem dX10_one_165 : decode cX10_one 165 = .ok (.getfield 31, 3) := by decide +kernel
theorem dX10_one_168 : decode cX10_one 168 = .ok (.iload_n 2, 1) := by decide +kernel
theorem dX10_one_169 : decode cX10_one 169 = .ok (.iaload, 1) := by decide +kernel
theorem dX10_one_170 : decode cX10_one 170 = .ok (.ireturn, 1) := by decide +kernel
theorem dX10_one_171 : decode cX10_one 171 = .ok (.iconst 0, 1) := by decide +kernel
theorem dX10_one_172 : decode cX10_one 172 = .ok (.istore_n 3, 1) := by decide +kernel
theorem dX10_one_173 : decode cX10_one 173 = .ok (.iconst 0, 1) := by decide +kernel
theorem dX10_one_174 : decode cX10_one 174 = .ok (.istore 4, 2) := by decide +kernel
theorem dX10_one_176 : decode cX10_one 176 = .ok (.iload 4, 2) := by decide +kernel
theorem dX10_one_178 : decode cX10_one 178 = .ok (.iconst 4, 1) := by decide +kernel
theorem dX10_one_179 : decode cX10_one 179 = .ok (.if_icmp .ge 50, 3) := by decide +kernel
theorem dX10_one_182 : decode cX10_one 182 = .ok (.aload_n 0, 1) := by decide +kernel
theorem dX10_one_183 : decode cX10_one 183 = .ok (.invokevirtual 180, 3) := by decide +kernel
theorem dX10_one_186 : decode cX10_one 186 = .ok (.bipush 48, 2) := by decide +kernel
theorem dX10_one_188 : decode cX10_one 188 = .ok (.if_icmp .lt 41, 3) := by decide +kernel
theorem dX10_one_191 : decode cX10_one 191 = .ok (.aload_n 0, 1) := by decide +kernel
theorem dX10_one_192 : decode cX10_one 192 = .ok (.invokevirtual 180, 3) := by decide +kernel
theorem dX10_one_195 : decode cX10_one 195 = .ok (.bipush 57, 2) := by decide +kernel
theorem dX10_one_197 : decode cX10_one 197 = .ok (.if_icmp .gt 32, 3) := by decide +kernel
theorem dX10_one_200 : decode cX10_one 200 = .ok (.bipush 10, 2) := by decide +kernel
theorem dX10_one_202 : decode cX10_one 202 = .ok (.iload_n 3, 1) := by decide +kernel
theorem dX10_one_203 : decode cX10_one 203 = .ok (.imul, 1) := by decide +kernel
theorem dX10_one_204 : decode cX10_one 204 = .ok (.aload_n 0, 1) := by decide +kernel
theorem dX10_one_205 : decode cX10_one 205 = .ok (.invokevirtual 180, 3) := by decide +kernel
theorem dX10_one_208 : decode cX10_one 208 = .ok (.iadd, 1) := by decide +kernel
theorem dX10_one_209 : decode cX10_one 209 = .ok (.bipush 48, 2) := by decide +kernel
theorem dX10_one_211 : decode cX10_one 211 = .ok (.isub, 1) := by decide +kernel
theorem dX10_one_212 : decode cX10_one 212 = .ok (.istore_n 3, 1) := by decide +kernel
theorem dX10_one_213 : decode cX10_one 213 = .ok (.iinc 4 1, 3) := by decide +kernel
theorem dX10_one_216 : decode cX10_one 216 = .ok (.aload_n 0, 1) := by decide +kernel
theorem dX10_one_217 : decode cX10_one 217 = .ok (.dup, 1) := by decide +kernel
theorem dX10_one_218 : decode cX10_one 218 = .ok (.getfield 168, 3) := by decide +kernel
theorem dX10_one_221 : decode cX10_one 221 = .ok (.iconst 1, 1) := by decide +kernel
theorem dX10_one_222 : decode cX10_one 222 = .ok (.iadd, 1) := by decide +kernel
theorem dX10_one_223 : decode cX10_one 223 = .ok (.putfield 168, 3) := by decide +kernel
theorem dX10_one_226 : decode cX10_one 226 = .ok (.goto (-50), 3) := by decide +kernel
theorem dX10_one_229 : decode cX10_one 229 = .ok (.iload 4, 2) := by decide +kernel
theorem dX10_one_231 : decode cX10_one 231 = .ok (.ifCond .ne 10, 3) := by decide +kernel
theorem dX10_one_234 : decode cX10_one 234 = .ok (.aload_n 0, 1) := by decide +kernel
theorem dX10_one_235 : decode cX10_one 235 = .ok (.invokevirtual 205, 3) := by decide +kernel
theorem dX10_one_238 : decode cX10_one 238 = .ok (.goto 4, 3) := by decide +kernel
theorem dX10_one_241 : decode cX10_one 241 = .ok (.iload_n 3, 1) := by decide +kernel
theorem dX10_one_242 : decode cX10_one 242 = .ok (.ireturn, 1) := by decide +kernel
theorem dX10_workOut_0 : decode cX10_workOut 0 = .ok (.aload_n 0, 1) := by decide +kernel
theorem dX10_workOut_1 : decode cX10_workOut 1 = .ok (.iload_n 1, 1) := by decide +kernel
theorem dX10_workOut_2 : decode cX10_workOut 2 = .ok (.putfield 174, 3) := by decide +kernel
theorem dX10_workOut_5 : decode cX10_workOut 5 = .ok (.aload_n 0, 1) := by decide +kernel
theorem dX10_workOut_6 : decode cX10_workOut 6 = .ok (.iconst 0, 1) := by decide +kernel
theorem dX10_workOut_7 : decode cX10_workOut 7 = .ok (.putfield 168, 3) := by decide +kernel
theorem dX10_workOut_10 : decode cX10_workOut 10 = .ok (.aload_n 0, 1) := by decide +kernel
theorem dX10_workOut_11 : decode cX10_workOut 11 = .ok (.iload_n 2, 1) := by decide +kernel
theorem dX10_workOut_12 : decode cX10_workOut 12 = .ok (.putfield 171, 3) := by decide +kernel
theorem dX10_workOut_15 : decode cX10_workOut 15 = .ok (.aload_n 0, 1) := by decide +kernel
theorem dX10_workOut_16 : decode cX10_workOut 16 = .ok (.iconst (-1), 1) := by decide +kernel
theorem dX10_workOut_17 : decode cX10_workOut 17 = .ok (.putfield 177, 3) := by decide +kernel
theorem dX10_workOut_20 : decode cX10_workOut 20 = .ok (.aload_n 0, 1) := by decide +kernel
theorem dX10_workOut_21 : decode cX10_workOut 21 = .ok (.iconst 0, 1) := by decide +kernel
theorem dX10_workOut_22 : decode cX10_workOut 22 = .ok (.putfield 202, 3) := by decide +kernel
theorem dX10_workOut_25 : decode cX10_workOut 25 = .ok (.iconst 0, 1) := by decide +kernel
theorem dX10_workOut_26 : decode cX10_workOut 26 = .ok (.istore_n 3, 1) := by decide +kernel
theorem dX10_workOut_27 : decode cX10_workOut 27 = .ok (.iconst 0, 1) := by decide +kernel
theorem dX10_workOut_28 : decode cX10_workOut 28 = .ok (.istore 4, 2) := by decide +kernel
theorem dX10_workOut_30 : decode cX10_workOut 30 = .ok (.iconst 1, 1) := by decide +kernel
theorem dX10_workOut_31 : decode cX10_workOut 31 = .ok (.istore 5, 2) := by decide +kernel
theorem dX10_workOut_33 : decode cX10_workOut 33 = .ok (.iload 5, 2) := by decide +kernel
theorem dX10_workOut_35 : decode cX10_workOut 35 = .ok (.ifCond .eq 72, 3) := by decide +kernel
theorem dX10_workOut_38 : decode cX10_workOut 38 = .ok (.aload_n 0, 1) := by decide +kernel
theorem dX10_workOut_39 : decode cX10_workOut 39 = .ok (.invokevirtual 208, 3) := by decide +kernel
theorem dX10_workOut_42 : decode cX10_workOut 42 = .ok (.istore 6, 2) := by decide +kernel
theorem dX10_workOut_44 : decode cX10_workOut 44 = .ok (.iconst 1, 1) := by decide +kernel
theorem dX10_workOut_45 : decode cX10_workOut 45 = .ok (.istore 7, 2) := by decide +kernel
theorem dX10_workOut_47 : decode cX10_workOut 47 = .ok (.aload_n 0, 1) := by decide +kernel
theorem dX10_workOut_48 : decode cX10_workOut 48 = .ok (.bipush 63, 2) := by decide +kernel
theorem dX10_workOut_50 : decode cX10_workOut 50 = .ok (.invokevirtual 187, 3) := by decide +kernel
theorem dX10_workOut_53 : decode cX10_workOut 53 = .ok (.ifCond .eq 21, 3) := by decide +kernel
theorem dX10_workOut_56 : decode cX10_workOut 56 = .ok (.iload 6, 2) := by decide +kernel
theorem dX10_workOut_58 : decode cX10_workOut 58 = .ok (.ifCond .eq 7, 3) := by decide +kernel
theorem dX10_workOut_61 : decode cX10_workOut 61 = .ok (.iconst 1, 1) := by decide +kernel
theorem dX10_workOut_62 : decode cX10_workOut 62 = .ok (.goto 4, 3) := by decide +kernel
theorem dX10_workOut_65 : decode cX10_workOut 65 = .ok (.iconst 0, 1) := by decide +kernel
theorem dX10_workOut_66 : decode cX10_workOut 66 = .ok (.istore 7, 2) := by decide +kernel
theorem dX10_workOut_68 : decode cX10_workOut 68 = .ok (.aload_n 0, 1) := by decide +kernel
theorem dX10_workOut_69 : decode cX10_workOut 69 = .ok (.invokevirtual 208, 3) := by decide +kernel
theorem dX10_workOut_72 : decode cX10_workOut 72 = .ok (.istore 6, 2) := by decide +kernel
theorem dX10_workOut_74 : decode cX10_workOut 74 = .ok (.aload_n 0, 1) := by decide +kernel
theorem dX10_workOut_75 : decode cX10_workOut 75 = .ok (.getfield 177, 3) := by decide +kernel
theorem dX10_workOut_78 : decode cX10_workOut 78 = .ok (.ifCond .ge 18, 3) := by decide +kernel
theorem dX10_workOut_81 : decode cX10_workOut 81 = .ok (.iload 7, 2) := by decide +kernel
theorem dX10_workOut_83 : decode cX10_workOut 83 = .ok (.ifCond .eq 13, 3) := by decide +kernel
theorem dX10_workOut_86 : decode cX10_workOut 86 = .ok (.iload_n 3, 1) := by decide +kernel
theorem dX10_workOut_87 : decode cX10_workOut 87 = .ok (.ifCond .ne 9, 3) := by decide +kernel
theorem dX10_workOut_90 : decode cX10_workOut 90 = .ok (.iconst 1, 1) := by decide +kernel
theorem dX10_workOut_91 : decode cX10_workOut 91 = .ok (.istore_n 3, 1) := by decide +kernel
theorem dX10_workOut_92 : decode cX10_workOut 92 = .ok (.iload 6, 2) := by decide +kernel
theorem dX10_workOut_94 : decode cX10_workOut 94 = .ok (.istore 4, 2) := by decide +kernel
theorem dX10_workOut_96 : decode cX10_workOut 96 = .ok (.aload_n 0, 1) := by decide +kernel
theorem dX10_workOut_97 : decode cX10_workOut 97 = .ok (.bipush 59, 2) := by decide +kernel
theorem dX10_workOut_99 : decode cX10_workOut 99 = .ok (.invokevirtual 187, 3) := by decide +kernel
theorem dX10_workOut_102 : decode cX10_workOut 102 = .ok (.istore 5, 2) := by decide +kernel
theorem dX10_workOut_104 : decode cX10_workOut 104 = .ok (.goto (-71), 3) := by decide +kernel
theorem dX10_workOut_107 : decode cX10_workOut 107 = .ok (.aload_n 0, 1) := by decide +kernel
theorem dX10_workOut_108 : decode cX10_workOut 108 = .ok (.getfield 177, 3) := by decide +kernel
theorem dX10_workOut_111 : decode cX10_workOut 111 = .ok (.ifCond .ge 19, 3) := by decide +kernel
theorem dX10_workOut_114 : decode cX10_workOut 114 = .ok (.aload_n 0, 1) := by decide +kernel
theorem dX10_workOut_115 : decode cX10_workOut 115 = .ok (.getfield 168, 3) := by decide +kernel
theorem dX10_workOut_118 : decode cX10_workOut 118 = .ok (.aload_n 0, 1) := by decide +kernel
theorem dX10_workOut_119 : decode cX10_workOut 119 = .ok (.getfield 171, 3) := by decide +kernel
theorem dX10_workOut_122 : decode cX10_workOut 122 = .ok (.if_icmp .ge 8, 3) := by decide +kernel
theorem dX10_workOut_125 : decode cX10_workOut 125 = .ok (.aload_n 0, 1) := by decide +kernel
theorem dX10_workOut_126 : decode cX10_workOut 126 = .ok (.invokevirtual 205, 3) := by decide +kernel
theorem dX10_workOut_129 : decode cX10_workOut 129 = .ok (.ireturn, 1) := by decide +kernel
theorem dX10_workOut_130 : decode cX10_workOut 130 = .ok (.iload 4, 2) := by decide +kernel
theorem dX10_workOut_132 : decode cX10_workOut 132 = .ok (.ireturn, 1) := by decide +kernel
theorem dX10_law_0 : decode cX10_law 0 = .ok (.aload_n 0, 1) := by decide +kernel
theorem dX10_law_1 : decode cX10_law 1 = .ok (.iconst (-1), 1) := by decide +kernel
theorem dX10_law_2 : decode cX10_law 2 = .ok (.aload_n 0, 1) := by decide +kernel
theorem dX10_law_3 : decode cX10_law 3 = .ok (.getfield 165, 3) := by decide +kernel
theorem dX10_law_6 : decode cX10_law 6 = .ok (.invokevirtual 215, 3) := by decide +kernel
theorem dX10_law_9 : decode cX10_law 9 = .ok (.istore_n 1, 1) := by decide +kernel
theorem dX10_law_10 : decode cX10_law 10 = .ok (.aload_n 0, 1) := by decide +kernel
theorem dX10_law_11 : decode cX10_law 11 = .ok (.getfield 165, 3) := by decide +kernel
theorem dX10_law_14 : decode cX10_law 14 = .ok (.istore_n 2, 1) := by decide +kernel
theorem dX10_law_15 : decode cX10_law 15 = .ok (.aload_n 0, 1) := by decide +kernel
theorem dX10_law_16 : decode cX10_law 16 = .ok (.iconst 0, 1) := by decide +kernel
theorem dX10_law_17 : decode cX10_law 17 = .ok (.putfield 165, 3) := by decide +kernel
theorem dX10_law_20 : decode cX10_law 20 = .ok (.aload_n 0, 1) := by decide +kernel
theorem dX10_law_21 : decode cX10_law 21 = .ok (.getfield 177, 3) := by decide +kernel
theorem dX10_law_24 : decode cX10_law 24 = .ok (.ifCond .lt 11, 3) := by decide +kernel
theorem dX10_law_27 : decode cX10_law 27 = .ok (.bipush (-100), 2) := by decide +kernel
theorem dX10_law_29 : decode cX10_law 29 = .ok (.aload_n 0, 1) := by decide +kernel
theorem dX10_law_30 : decode cX10_law 30 = .ok (.getfield 177, 3) := by decide +kernel
theorem dX10_law_33 : decode cX10_law 33 = .ok (.isub, 1) := by decide +kernel
theorem dX10_law_34 : decode cX10_law 34 = .ok (.ireturn, 1) := by decide +kernel
theorem dX10_law_35 : decode cX10_law 35 = .ok (.iconst 0, 1) := by decide +kernel
theorem dX10_law_36 : decode cX10_law 36 = .ok (.istore_n 3, 1) := by decide +kernel
theorem dX10_law_37 : decode cX10_law 37 = .ok (.iload_n 3, 1) := by decide +kernel
theorem dX10_law_38 : decode cX10_law 38 = .ok (.iload_n 2, 1) := by decide +kernel
theorem dX10_law_39 : decode cX10_law 39 = .ok (.if_icmp .ge 21, 3) := by decide +kernel
theorem dX10_law_42 : decode cX10_law 42 = .ok (.aload_n 0, 1) := by decide +kernel
theorem dX10_law_43 : decode cX10_law 43 = .ok (.getfield 28, 3) := by decide +kernel
theorem dX10_law_46 : decode cX10_law 46 = .ok (.iload_n 3, 1) := by decide +kernel
theorem dX10_law_47 : decode cX10_law 47 = .ok (.aload_n 0, 1) := by decide +kernel
theorem dX10_law_48 : decode cX10_law 48 = .ok (.getfield 25, 3) := by decide +kernel
theorem dX10_law_51 : decode cX10_law 51 = .ok (.iload_n 3, 1) := by decide +kernel
theorem dX10_law_52 : decode cX10_law 52 = .ok (.iaload, 1) := by decide +kernel
theorem dX10_law_53 : decode cX10_law 53 = .ok (.iastore, 1) := by decide +kernel
theorem dX10_law_54 : decode cX10_law 54 = .ok (.iinc 3 1, 3) := by decide +kernel
theorem dX10_law_57 : decode cX10_law 57 = .ok (.goto (-20), 3) := by decide +kernel
theorem dX10_law_60 : decode cX10_law 60 = .ok (.aload_n 0, 1) := by decide +kernel
theorem dX10_law_61 : decode cX10_law 61 = .ok (.iload_n 2, 1) := by decide +kernel
theorem dX10_law_62 : decode cX10_law 62 = .ok (.putfield 89, 3) := by decide +kernel
theorem dX10_law_65 : decode cX10_law 65 = .ok (.iconst 1, 1) := by decide +kernel
theorem dX10_law_66 : decode cX10_law 66 = .ok (.ireturn, 1) := by decide +kernel
theorem dX10_wantsAt_0 : decode cX10_wantsAt 0 = .ok (.aload_n 0, 1) := by decide +kernel
theorem dX10_wantsAt_1 : decode cX10_wantsAt 1 = .ok (.iload_n 1, 1) := by decide +kernel
theorem dX10_wantsAt_2 : decode cX10_wantsAt 2 = .ok (.iconst 0, 1) := by decide +kernel
theorem dX10_wantsAt_3 : decode cX10_wantsAt 3 = .ok (.invokevirtual 218, 3) := by decide +kernel
theorem dX10_wantsAt_6 : decode cX10_wantsAt 6 = .ok (.aload_n 0, 1) := by decide +kernel
theorem dX10_wantsAt_7 : decode cX10_wantsAt 7 = .ok (.iload_n 1, 1) := by decide +kernel
theorem dX10_wantsAt_8 : decode cX10_wantsAt 8 = .ok (.iconst 1, 1) := by decide +kernel
theorem dX10_wantsAt_9 : decode cX10_wantsAt 9 = .ok (.invokevirtual 218, 3) := by decide +kernel
theorem dX10_wantsAt_12 : decode cX10_wantsAt 12 = .ok (.imul, 1) := by decide +kernel
theorem dX10_wantsAt_13 : decode cX10_wantsAt 13 = .ok (.iconst 3, 1) := by decide +kernel
theorem dX10_wantsAt_14 : decode cX10_wantsAt 14 = .ok (.idiv, 1) := by decide +kernel
theorem dX10_wantsAt_15 : decode cX10_wantsAt 15 = .ok (.iload_n 3, 1) := by decide +kernel
theorem dX10_wantsAt_16 : decode cX10_wantsAt 16 = .ok (.aload_n 0, 1) := by decide +kernel
theorem dX10_wantsAt_17 : decode cX10_wantsAt 17 = .ok (.iload_n 1, 1) := by decide +kernel
theorem dX10_wantsAt_18 : decode cX10_wantsAt 18 = .ok (.iconst 3, 1) := by decide +kernel
theorem dX10_wantsAt_19 : decode cX10_wantsAt 19 = .ok (.invokevirtual 218, 3) := by decide +kernel
theorem dX10_wantsAt_22 : decode cX10_wantsAt 22 = .ok (.idiv, 1) := by decide +kernel
theorem dX10_wantsAt_23 : decode cX10_wantsAt 23 = .ok (.isub, 1) := by decide +kernel
theorem dX10_wantsAt_24 : decode cX10_wantsAt 24 = .ok (.istore 4, 2) := by decide +kernel
theorem dX10_wantsAt_26 : decode cX10_wantsAt 26 = .ok (.aload_n 0, 1) := by decide +kernel
theorem dX10_wantsAt_27 : decode cX10_wantsAt 27 = .ok (.getfield 89, 3) := by decide +kernel
theorem dX10_wantsAt_30 : decode cX10_wantsAt 30 = .ok (.ifCond .lt 73, 3) := by decide +kernel
theorem dX10_wantsAt_33 : decode cX10_wantsAt 33 = .ok (.aload_n 0, 1) := by decide +kernel
theorem dX10_wantsAt_34 : decode cX10_wantsAt 34 = .ok (.getfield 31, 3) := by decide +kernel
theorem dX10_wantsAt_37 : decode cX10_wantsAt 37 = .ok (.iconst 0, 1) := by decide +kernel
theorem dX10_wantsAt_38 : decode cX10_wantsAt 38 = .ok (.aload_n 0, 1) := by decide +kernel
theorem dX10_wantsAt_39 : decode cX10_wantsAt 39 = .ok (.iload_n 1, 1) := by decide +kernel
theorem dX10_wantsAt_40 : decode cX10_wantsAt 40 = .ok (.iconst 0, 1) := by decide +kernel
theorem dX10_wantsAt_41 : decode cX10_wantsAt 41 = .ok (.invokevirtual 218, 3) := by decide +kernel
theorem dX10_wantsAt_44 : decode cX10_wantsAt 44 = .ok (.iastore, 1) := by decide +kernel
theorem dX10_wantsAt_45 : decode cX10_wantsAt 45 = .ok (.aload_n 0, 1) := by decide +kernel
theorem dX10_wantsAt_46 : decode cX10_wantsAt 46 = .ok (.getfield 31, 3) := by decide +kernel
theorem dX10_wantsAt_49 : decode cX10_wantsAt 49 = .ok (.iconst 1, 1) := by decide +kernel
theorem dX10_wantsAt_50 : decode cX10_wantsAt 50 = .ok (.aload_n 0, 1) := by decide +kernel
theorem dX10_wantsAt_51 : decode cX10_wantsAt 51 = .ok (.iload_n 1, 1) := by decide +kernel
theorem dX10_wantsAt_52 : decode cX10_wantsAt 52 = .ok (.iconst 1, 1) := by decide +kernel
theorem dX10_wantsAt_53 : decode cX10_wantsAt 53 = .ok (.invokevirtual 218, 3) := by decide +kernel
theorem dX10_wantsAt_56 : decode cX10_wantsAt 56 = .ok (.iastore, 1) := by decide +kernel
theorem dX10_wantsAt_57 : decode cX10_wantsAt 57 = .ok (.aload_n 0, 1) := by decide +kernel
theorem dX10_wantsAt_58 : decode cX10_wantsAt 58 = .ok (.getfield 31, 3) := by decide +kernel
theorem dX10_wantsAt_61 : decode cX10_wantsAt 61 = .ok (.iconst 2, 1) := by decide +kernel
theorem dX10_wantsAt_62 : decode cX10_wantsAt 62 = .ok (.iload_n 3, 1) := by decide +kernel
theorem dX10_wantsAt_63 : decode cX10_wantsAt 63 = .ok (.iastore, 1) := by decide +kernel
theorem dX10_wantsAt_64 : decode cX10_wantsAt 64 = .ok (.aload_n 0, 1) := by decide +kernel
theorem dX10_wantsAt_65 : decode cX10_wantsAt 65 = .ok (.getfield 31, 3) := by decide +kernel
theorem dX10_wantsAt_68 : decode cX10_wantsAt 68 = .ok (.iconst 3, 1) := by decide +kernel
theorem dX10_wantsAt_69 : decode cX10_wantsAt 69 = .ok (.iload_n 2, 1) := by decide +kernel
theorem dX10_wantsAt_70 : decode cX10_wantsAt 70 = .ok (.iastore, 1) := by decide +kernel
theorem dX10_wantsAt_71 : decode cX10_wantsAt 71 = .ok (.aload_n 0, 1) := by decide +kernel
theorem dX10_wantsAt_72 : decode cX10_wantsAt 72 = .ok (.getfield 31, 3) := by decide +kernel
theorem dX10_wantsAt_75 : decode cX10_wantsAt 75 = .ok (.iconst 4, 1) := by decide +kernel
theorem dX10_wantsAt_76 : decode cX10_wantsAt 76 = .ok (.iload_n 2, 1) := by decide +kernel
theorem dX10_wantsAt_77 : decode cX10_wantsAt 77 = .ok (.aload_n 0, 1) := by decide +kernel
theorem dX10_wantsAt_78 : decode cX10_wantsAt 78 = .ok (.iload_n 1, 1) := by decide +kernel
theorem dX10_wantsAt_79 : decode cX10_wantsAt 79 = .ok (.iconst 2, 1) := by decide +kernel
theorem dX10_wantsAt_80 : decode cX10_wantsAt 80 = .ok (.invokevirtual 218, 3) := by decide +kernel
theorem dX10_wantsAt_83 : decode cX10_wantsAt 83 = .ok (.isub, 1) := by decide +kernel
theorem dX10_wantsAt_84 : decode cX10_wantsAt 84 = .ok (.iastore, 1) := by decide +kernel
theorem dX10_wantsAt_85 : decode cX10_wantsAt 85 = .ok (.aload_n 0, 1) := by decide +kernel
theorem dX10_wantsAt_86 : decode cX10_wantsAt 86 = .ok (.getfield 31, 3) := by decide +kernel
theorem dX10_wantsAt_89 : decode cX10_wantsAt 89 = .ok (.iconst 5, 1) := by decide +kernel
theorem dX10_wantsAt_90 : decode cX10_wantsAt 90 = .ok (.iload_n 1, 1) := by decide +kernel
theorem dX10_wantsAt_91 : decode cX10_wantsAt 91 = .ok (.iastore, 1) := by decide +kernel
theorem dX10_wantsAt_92 : decode cX10_wantsAt 92 = .ok (.aload_n 0, 1) := by decide +kernel
theorem dX10_wantsAt_93 : decode cX10_wantsAt 93 = .ok (.iconst 0, 1) := by decide +kernel
theorem dX10_wantsAt_94 : decode cX10_wantsAt 94 = .ok (.aload_n 0, 1) := by decide +kernel
theorem dX10_wantsAt_95 : decode cX10_wantsAt 95 = .ok (.getfield 89, 3) := by decide +kernel
theorem dX10_wantsAt_98 : decode cX10_wantsAt 98 = .ok (.invokevirtual 215, 3) := by decide +kernel
theorem dX10_wantsAt_101 : decode cX10_wantsAt 101 = .ok (.istore 4, 2) := by decide +kernel
theorem dX10_wantsAt_103 : decode cX10_wantsAt 103 = .ok (.iload 4, 2) := by decide +kernel
theorem dX10_wantsAt_105 : decode cX10_wantsAt 105 = .ok (.ifCond .ge 7, 3) := by decide +kernel
theorem dX10_wantsAt_108 : decode cX10_wantsAt 108 = .ok (.iconst 0, 1) := by decide +kernel
theorem dX10_wantsAt_109 : decode cX10_wantsAt 109 = .ok (.goto 17, 3) := by decide +kernel
theorem dX10_wantsAt_112 : decode cX10_wantsAt 112 = .ok (.iload 4, 2) := by decide +kernel
theorem dX10_wantsAt_114 : decode cX10_wantsAt 114 = .ok (.bipush 99, 2) := by decide +kernel
theorem dX10_wantsAt_116 : decode cX10_wantsAt 116 = .ok (.if_icmp .le 8, 3) := by decide +kernel
theorem dX10_wantsAt_119 : decode cX10_wantsAt 119 = .ok (.bipush 99, 2) := by decide +kernel
theorem dX10_wantsAt_121 : decode cX10_wantsAt 121 = .ok (.goto 5, 3) := by decide +kernel
theorem dX10_wantsAt_124 : decode cX10_wantsAt 124 = .ok (.iload 4, 2) := by decide +kernel
theorem dX10_wantsAt_126 : decode cX10_wantsAt 126 = .ok (.ireturn, 1) := by decide +kernel
theorem dX10_wants_0 : decode cX10_wants 0 = .ok (.aload_n 0, 1) := by decide +kernel
theorem dX10_wants_1 : decode cX10_wants 1 = .ok (.iload_n 1, 1) := by decide +kernel
theorem dX10_wants_2 : decode cX10_wants 2 = .ok (.invokevirtual 130, 3) := by decide +kernel
theorem dX10_wants_5 : decode cX10_wants 5 = .ok (.ifCond .eq 37, 3) := by decide +kernel
theorem dX10_wants_8 : decode cX10_wants 8 = .ok (.iload_n 2, 1) := by decide +kernel
theorem dX10_wants_9 : decode cX10_wants 9 = .ok (.i2l, 1) := by decide +kernel
theorem dX10_wants_10 : decode cX10_wants 10 = .ok (.lconst 0, 1) := by decide +kernel
theorem dX10_wants_11 : decode cX10_wants 11 = .ok (.ldc2_w 113, 3) := by decide +kernel
theorem dX10_wants_14 : decode cX10_wants 14 = .ok (.invokestatic 105, 3) := by decide +kernel
theorem dX10_wants_17 : decode cX10_wants 17 = .ok (.ifCond .eq 25, 3) := by decide +kernel
theorem dX10_wants_20 : decode cX10_wants 20 = .ok (.iload_n 3, 1) := by decide +kernel
theorem dX10_wants_21 : decode cX10_wants 21 = .ok (.i2l, 1) := by decide +kernel
theorem dX10_wants_22 : decode cX10_wants 22 = .ok (.lconst 0, 1) := by decide +kernel
theorem dX10_wants_23 : decode cX10_wants 23 = .ok (.ldc2_w 113, 3) := by decide +kernel
theorem dX10_wants_26 : decode cX10_wants 26 = .ok (.invokestatic 105, 3) := by decide +kernel
theorem dX10_wants_29 : decode cX10_wants 29 = .ok (.ifCond .eq 13, 3) := by decide +kernel
theorem dX10_wants_32 : decode cX10_wants 32 = .ok (.aload_n 0, 1) := by decide +kernel
theorem dX10_wants_33 : decode cX10_wants 33 = .ok (.iload_n 1, 1) := by decide +kernel
theorem dX10_wants_34 : decode cX10_wants 34 = .ok (.iload_n 2, 1) := by decide +kernel
theorem dX10_wants_35 : decode cX10_wants 35 = .ok (.iload_n 3, 1) := by decide +kernel
theorem dX10_wants_36 : decode cX10_wants 36 = .ok (.invokevirtual 221, 3) := by decide +kernel
theorem dX10_wants_39 : decode cX10_wants 39 = .ok (.goto 4, 3) := by decide +kernel
theorem dX10_wants_42 : decode cX10_wants 42 = .ok (.iconst (-1), 1) := by decide +kernel
theorem dX10_wants_43 : decode cX10_wants 43 = .ok (.ireturn, 1) := by decide +kernel
theorem dX10_begins1_0 : decode cX10_begins1 0 = .ok (.aload_n 0, 1) := by decide +kernel
theorem dX10_begins1_1 : decode cX10_begins1 1 = .ok (.aload_n 0, 1) := by decide +kernel
theorem dX10_begins1_2 : decode cX10_begins1 2 = .ok (.getfield 93, 3) := by decide +kernel
theorem dX10_begins1_5 : decode cX10_begins1 5 = .ok (.putfield 225, 3) := by decide +kernel
theorem dX10_begins1_8 : decode cX10_begins1 8 = .ok (.aload_n 0, 1) := by decide +kernel
theorem dX10_begins1_9 : decode cX10_begins1 9 = .ok (.aload_n 0, 1) := by decide +kernel
theorem dX10_begins1_10 : decode cX10_begins1 10 = .ok (.getfield 157, 3) := by decide +kernel
theorem dX10_begins1_13 : decode cX10_begins1 13 = .ok (.putfield 228, 3) := by decide +kernel
theorem dX10_begins1_16 : decode cX10_begins1 16 = .ok (.aload_n 0, 1) := by decide +kernel
theorem dX10_begins1_17 : decode cX10_begins1 17 = .ok (.aload_n 0, 1) := by decide +kernel
theorem dX10_begins1_18 : decode cX10_begins1 18 = .ok (.getfield 160, 3) := by decide +kernel
theorem dX10_begins1_21 : decode cX10_begins1 21 = .ok (.putfield 231, 3) := by decide +kernel
theorem dX10_begins1_24 : decode cX10_begins1 24 = .ok (.aload_n 0, 1) := by decide +kernel
theorem dX10_begins1_25 : decode cX10_begins1 25 = .ok (.iconst 1, 1) := by decide +kernel
theorem dX10_begins1_26 : decode cX10_begins1 26 = .ok (.aload_n 0, 1) := by decide +kernel
theorem dX10_begins1_27 : decode cX10_begins1 27 = .ok (.getfield 102, 3) := by decide +kernel
theorem dX10_begins1_30 : decode cX10_begins1 30 = .ok (.ishl, 1) := by decide +kernel
theorem dX10_begins1_31 : decode cX10_begins1 31 = .ok (.iconst 1, 1) := by decide +kernel
theorem dX10_begins1_32 : decode cX10_begins1 32 = .ok (.isub, 1) := by decide +kernel
theorem dX10_begins1_33 : decode cX10_begins1 33 = .ok (.putfield 234, 3) := by decide +kernel
theorem dX10_begins1_36 : decode cX10_begins1 36 = .ok (.aload_n 0, 1) := by decide +kernel
theorem dX10_begins1_37 : decode cX10_begins1 37 = .ok (.iconst 0, 1) := by decide +kernel
theorem dX10_begins1_38 : decode cX10_begins1 38 = .ok (.putfield 237, 3) := by decide +kernel
theorem dX10_begins1_41 : decode cX10_begins1 41 = .ok (.aload_n 0, 1) := by decide +kernel
theorem dX10_begins1_42 : decode cX10_begins1 42 = .ok (.iconst 0, 1) := by decide +kernel
theorem dX10_begins1_43 : decode cX10_begins1 43 = .ok (.putfield 241, 3) := by decide +kernel
theorem dX10_begins1_46 : decode cX10_begins1 46 = .ok (.iconst 0, 1) := by decide +kernel
theorem dX10_begins1_47 : decode cX10_begins1 47 = .ok (.istore_n 1, 1) := by decide +kernel
theorem dX10_begins1_48 : decode cX10_begins1 48 = .ok (.iload_n 1, 1) := by decide +kernel
theorem dX10_begins1_49 : decode cX10_begins1 49 = .ok (.iconst 3, 1) := by decide +kernel
theorem dX10_begins1_50 : decode cX10_begins1 50 = .ok (.if_icmp .ge 35, 3) := by decide +kernel
theorem dX10_begins1_53 : decode cX10_begins1 53 = .ok (.aload_n 0, 1) := by decide +kernel
theorem dX10_begins1_54 : decode cX10_begins1 54 = .ok (.getfield 34, 3) := by decide +kernel
theorem dX10_begins1_57 : decode cX10_begins1 57 = .ok (.iload_n 1, 1) := by decide +kernel
theorem dX10_begins1_58 : decode cX10_begins1 58 = .ok (.aload_n 0, 1) := by decide +kernel
theorem dX10_begins1_59 : decode cX10_begins1 59 = .ok (.getfield 22, 3) := by decide +kernel
theorem dX10_begins1_62 : decode cX10_begins1 62 = .ok (.iload_n 1, 1) := by decide +kernel
theorem dX10_begins1_63 : decode cX10_begins1 63 = .ok (.iaload, 1) := by decide +kernel
theorem dX10_begins1_64 : decode cX10_begins1 64 = .ok (.iastore, 1) := by decide +kernel
theorem dX10_begins1_65 : decode cX10_begins1 65 = .ok (.aload_n 0, 1) := by decide +kernel
theorem dX10_begins1_66 : decode cX10_begins1 66 = .ok (.getfield 37, 3) := by decide +kernel
theorem dX10_begins1_69 : decode cX10_begins1 69 = .ok (.iload_n 1, 1) := by decide +kernel
theorem dX10_begins1_70 : decode cX10_begins1 70 = .ok (.iconst 0, 1) := by decide +kernel
theorem dX10_begins1_71 : decode cX10_begins1 71 = .ok (.iastore, 1) := by decide +kernel
theorem dX10_begins1_72 : decode cX10_begins1 72 = .ok (.aload_n 0, 1) := by decide +kernel
theorem dX10_begins1_73 : decode cX10_begins1 73 = .ok (.getfield 40, 3) := by decide +kernel
theorem dX10_begins1_76 : decode cX10_begins1 76 = .ok (.iload_n 1, 1) := by decide +kernel
theorem dX10_begins1_77 : decode cX10_begins1 77 = .ok (.iconst 0, 1) := by decide +kernel
theorem dX10_begins1_78 : decode cX10_begins1 78 = .ok (.iastore, 1) := by decide +kernel
theorem dX10_begins1_79 : decode cX10_begins1 79 = .ok (.iinc 1 1, 3) := by decide +kernel
theorem dX10_begins1_82 : decode cX10_begins1 82 = .ok (.goto (-34), 3) := by decide +kernel
theorem dX10_begins1_85 : decode cX10_begins1 85 = .ok (.return_, 1) := by decide +kernel
theorem dX10_draws_0 : decode cX10_draws 0 = .ok (.aload_n 0, 1) := by decide +kernel
theorem dX10_draws_1 : decode cX10_draws 1 = .ok (.getfield 237, 3) := by decide +kernel
theorem dX10_draws_4 : decode cX10_draws 4 = .ok (.ifCond .ne 21, 3) := by decide +kernel
theorem dX10_draws_7 : decode cX10_draws 7 = .ok (.aload_n 0, 1) := by decide +kernel
theorem dX10_draws_8 : decode cX10_draws 8 = .ok (.getfield 231, 3) := by decide +kernel
theorem dX10_draws_11 : decode cX10_draws 11 = .ok (.aload_n 0, 1) := by decide +kernel
theorem dX10_draws_12 : decode cX10_draws 12 = .ok (.iload_n 1, 1) := by decide +kernel
theorem dX10_draws_13 : decode cX10_draws 13 = .ok (.bipush 7, 2) := by decide +kernel
theorem dX10_draws_15 : decode cX10_draws 15 = .ok (.invokevirtual 218, 3) := by decide +kernel
theorem dX10_draws_18 : decode cX10_draws 18 = .ok (.if_icmp .lt 7, 3) := by decide +kernel
theorem dX10_draws_21 : decode cX10_draws 21 = .ok (.iconst 1, 1) := by decide +kernel
theorem dX10_draws_22 : decode cX10_draws 22 = .ok (.goto 4, 3) := by decide +kernel
theorem dX10_draws_25 : decode cX10_draws 25 = .ok (.iconst 0, 1) := by decide +kernel
theorem dX10_draws_26 : decode cX10_draws 26 = .ok (.istore_n 2, 1) := by decide +kernel
theorem dX10_draws_27 : decode cX10_draws 27 = .ok (.aload_n 0, 1) := by decide +kernel
theorem dX10_draws_28 : decode cX10_draws 28 = .ok (.getfield 234, 3) := by decide +kernel
theorem dX10_draws_31 : decode cX10_draws 31 = .ok (.iload_n 1, 1) := by decide +kernel
theorem dX10_draws_32 : decode cX10_draws 32 = .ok (.invokestatic 244, 3) := by decide +kernel
theorem dX10_draws_35 : decode cX10_draws 35 = .ok (.ifCond .eq 38, 3) := by decide +kernel
theorem dX10_draws_38 : decode cX10_draws 38 = .ok (.iload_n 2, 1) := by decide +kernel
theorem dX10_draws_39 : decode cX10_draws 39 = .ok (.ifCond .ne 34, 3) := by decide +kernel
theorem dX10_draws_42 : decode cX10_draws 42 = .ok (.aload_n 0, 1) := by decide +kernel
theorem dX10_draws_43 : decode cX10_draws 43 = .ok (.getfield 231, 3) := by decide +kernel
theorem dX10_draws_46 : decode cX10_draws 46 = .ok (.aload_n 0, 1) := by decide +kernel
theorem dX10_draws_47 : decode cX10_draws 47 = .ok (.iload_n 1, 1) := by decide +kernel
theorem dX10_draws_48 : decode cX10_draws 48 = .ok (.iconst 4, 1) := by decide +kernel
theorem dX10_draws_49 : decode cX10_draws 49 = .ok (.invokevirtual 218, 3) := by decide +kernel
theorem dX10_draws_52 : decode cX10_draws 52 = .ok (.aload_n 0, 1) := by decide +kernel
theorem dX10_draws_53 : decode cX10_draws 53 = .ok (.iload_n 1, 1) := by decide +kernel
theorem dX10_draws_54 : decode cX10_draws 54 = .ok (.iconst 5, 1) := by decide +kernel
theorem dX10_draws_55 : decode cX10_draws 55 = .ok (.invokevirtual 218, 3) := by decide +kernel
theorem dX10_draws_58 : decode cX10_draws 58 = .ok (.iadd, 1) := by decide +kernel
theorem dX10_draws_59 : decode cX10_draws 59 = .ok (.irem, 1) := by decide +kernel
theorem dX10_draws_60 : decode cX10_draws 60 = .ok (.aload_n 0, 1) := by decide +kernel
theorem dX10_draws_61 : decode cX10_draws 61 = .ok (.iload_n 1, 1) := by decide +kernel
theorem dX10_draws_62 : decode cX10_draws 62 = .ok (.iconst 4, 1) := by decide +kernel
theorem dX10_draws_63 : decode cX10_draws 63 = .ok (.invokevirtual 218, 3) := by decide +kernel
theorem dX10_draws_66 : decode cX10_draws 66 = .ok (.if_icmp .ge 7, 3) := by decide +kernel
theorem dX10_draws_69 : decode cX10_draws 69 = .ok (.iconst 1, 1) := by decide +kernel
theorem dX10_draws_70 : decode cX10_draws 70 = .ok (.goto 4, 3) := by decide +kernel
theorem dX10_draws_73 : decode cX10_draws 73 = .ok (.iconst 0, 1) := by decide +kernel
theorem dX10_draws_74 : decode cX10_draws 74 = .ok (.ireturn, 1) := by decide +kernel
theorem dX10_wantsNow_0 : decode cX10_wantsNow 0 = .ok (.aload_n 0, 1) := by decide +kernel
theorem dX10_wantsNow_1 : decode cX10_wantsNow 1 = .ok (.iload_n 1, 1) := by decide +kernel
theorem dX10_wantsNow_2 : decode cX10_wantsNow 2 = .ok (.iconst 2, 1) := by decide +kernel
theorem dX10_wantsNow_3 : decode cX10_wantsNow 3 = .ok (.invokevirtual 218, 3) := by decide +kernel
theorem dX10_wantsNow_6 : decode cX10_wantsNow 6 = .ok (.istore_n 2, 1) := by decide +kernel
theorem dX10_wantsNow_7 : decode cX10_wantsNow 7 = .ok (.aload_n 0, 1) := by decide +kernel
theorem dX10_wantsNow_8 : decode cX10_wantsNow 8 = .ok (.iload_n 1, 1) := by decide +kernel
theorem dX10_wantsNow_9 : decode cX10_wantsNow 9 = .ok (.invokevirtual 247, 3) := by decide +kernel
theorem dX10_wantsNow_12 : decode cX10_wantsNow 12 = .ok (.ifCond .eq 22, 3) := by decide +kernel
theorem dX10_wantsNow_15 : decode cX10_wantsNow 15 = .ok (.aload_n 0, 1) := by decide +kernel
theorem dX10_wantsNow_16 : decode cX10_wantsNow 16 = .ok (.getfield 241, 3) := by decide +kernel
theorem dX10_wantsNow_19 : decode cX10_wantsNow 19 = .ok (.iload_n 1, 1) := by decide +kernel
theorem dX10_wantsNow_20 : decode cX10_wantsNow 20 = .ok (.invokestatic 244, 3) := by decide +kernel
theorem dX10_wantsNow_23 : decode cX10_wantsNow 23 = .ok (.ifCond .ne 11, 3) := by decide +kernel
theorem dX10_wantsNow_26 : decode cX10_wantsNow 26 = .ok (.aload_n 0, 1) := by decide +kernel
theorem dX10_wantsNow_27 : decode cX10_wantsNow 27 = .ok (.getfield 225, 3) := by decide +kernel
theorem dX10_wantsNow_30 : decode cX10_wantsNow 30 = .ok (.iload_n 2, 1) := by decide +kernel
theorem dX10_wantsNow_31 : decode cX10_wantsNow 31 = .ok (.if_icmp .gt 5, 3) := by decide +kernel
theorem dX10_wantsNow_34 : decode cX10_wantsNow 34 = .ok (.iconst 0, 1) := by decide +kernel
theorem dX10_wantsNow_35 : decode cX10_wantsNow 35 = .ok (.ireturn, 1) := by decide +kernel
theorem dX10_wantsNow_36 : decode cX10_wantsNow 36 = .ok (.aload_n 0, 1) := by decide +kernel
theorem dX10_wantsNow_37 : decode cX10_wantsNow 37 = .ok (.iload_n 1, 1) := by decide +kernel
theorem dX10_wantsNow_38 : decode cX10_wantsNow 38 = .ok (.aload_n 0, 1) := by decide +kernel
theorem dX10_wantsNow_39 : decode cX10_wantsNow 39 = .ok (.getfield 225, 3) := by decide +kernel
theorem dX10_wantsNow_42 : decode cX10_wantsNow 42 = .ok (.aload_n 0, 1) := by decide +kernel
theorem dX10_wantsNow_43 : decode cX10_wantsNow 43 = .ok (.getfield 34, 3) := by decide +kernel
theorem dX10_wantsNow_46 : decode cX10_wantsNow 46 = .ok (.iload_n 1, 1) := by decide +kernel
theorem dX10_wantsNow_47 : decode cX10_wantsNow 47 = .ok (.iaload, 1) := by decide +kernel
theorem dX10_wantsNow_48 : decode cX10_wantsNow 48 = .ok (.invokevirtual 221, 3) := by decide +kernel
theorem dX10_wantsNow_51 : decode cX10_wantsNow 51 = .ok (.istore_n 3, 1) := by decide +kernel
theorem dX10_wantsNow_52 : decode cX10_wantsNow 52 = .ok (.aload_n 0, 1) := by decide +kernel
theorem dX10_wantsNow_53 : decode cX10_wantsNow 53 = .ok (.getfield 225, 3) := by decide +kernel
theorem dX10_wantsNow_56 : decode cX10_wantsNow 56 = .ok (.aload_n 0, 1) := by decide +kernel
theorem dX10_wantsNow_57 : decode cX10_wantsNow 57 = .ok (.iload_n 1, 1) := by decide +kernel
theorem dX10_wantsNow_58 : decode cX10_wantsNow 58 = .ok (.bipush 6, 2) := by decide +kernel
theorem dX10_wantsNow_60 : decode cX10_wantsNow 60 = .ok (.invokevirtual 218, 3) := by decide +kernel
theorem dX10_wantsNow_63 : decode cX10_wantsNow 63 = .ok (.if_icmp .ge 9, 3) := by decide +kernel
theorem dX10_wantsNow_66 : decode cX10_wantsNow 66 = .ok (.iload_n 3, 1) := by decide +kernel
theorem dX10_wantsNow_67 : decode cX10_wantsNow 67 = .ok (.iconst 2, 1) := by decide +kernel
theorem dX10_wantsNow_68 : decode cX10_wantsNow 68 = .ok (.idiv, 1) := by decide +kernel
theorem dX10_wantsNow_69 : decode cX10_wantsNow 69 = .ok (.goto 4, 3) := by decide +kernel
theorem dX10_wantsNow_72 : decode cX10_wantsNow 72 = .ok (.iload_n 3, 1) := by decide +kernel
theorem dX10_wantsNow_73 : decode cX10_wantsNow 73 = .ok (.istore_n 3, 1) := by decide +kernel
theorem dX10_wantsNow_74 : decode cX10_wantsNow 74 = .ok (.iload_n 3, 1) := by decide +kernel
theorem dX10_wantsNow_75 : decode cX10_wantsNow 75 = .ok (.aload_n 0, 1) := by decide +kernel
theorem dX10_wantsNow_76 : decode cX10_wantsNow 76 = .ok (.getfield 225, 3) := by decide +kernel
theorem dX10_wantsNow_79 : decode cX10_wantsNow 79 = .ok (.iload_n 2, 1) := by decide +kernel
theorem dX10_wantsNow_80 : decode cX10_wantsNow 80 = .ok (.isub, 1) := by decide +kernel
theorem dX10_wantsNow_81 : decode cX10_wantsNow 81 = .ok (.if_icmp .le 12, 3) := by decide +kernel
theorem dX10_wantsNow_84 : decode cX10_wantsNow 84 = .ok (.aload_n 0, 1) := by decide +kernel
theorem dX10_wantsNow_85 : decode cX10_wantsNow 85 = .ok (.getfield 225, 3) := by decide +kernel
theorem dX10_wantsNow_88 : decode cX10_wantsNow 88 = .ok (.iload_n 2, 1) := by decide +kernel
theorem dX10_wantsNow_89 : decode cX10_wantsNow 89 = .ok (.isub, 1) := by decide +kernel
theorem dX10_wantsNow_90 : decode cX10_wantsNow 90 = .ok (.goto 4, 3) := by decide +kernel
theorem dX10_wantsNow_93 : decode cX10_wantsNow 93 = .ok (.iload_n 3, 1) := by decide +kernel
theorem dX10_wantsNow_94 : decode cX10_wantsNow 94 = .ok (.ireturn, 1) := by decide +kernel
theorem dX10_secondGoes_0 : decode cX10_secondGoes 0 = .ok (.iconst 0, 1) := by decide +kernel
theorem dX10_secondGoes_1 : decode cX10_secondGoes 1 = .ok (.istore_n 1, 1) := by decide +kernel
theorem dX10_secondGoes_2 : decode cX10_secondGoes 2 = .ok (.iconst 0, 1) := by decide +kernel
theorem dX10_secondGoes_3 : decode cX10_secondGoes 3 = .ok (.istore_n 2, 1) := by decide +kernel
theorem dX10_secondGoes_4 : decode cX10_secondGoes 4 = .ok (.iload_n 2, 1) := by decide +kernel
theorem dX10_secondGoes_5 : decode cX10_secondGoes 5 = .ok (.aload_n 0, 1) := by decide +kernel
theorem dX10_secondGoes_6 : decode cX10_secondGoes 6 = .ok (.getfield 102, 3) := by decide +kernel
theorem dX10_secondGoes_9 : decode cX10_secondGoes 9 = .ok (.if_icmp .ge 29, 3) := by decide +kernel
theorem dX10_secondGoes_12 : decode cX10_secondGoes 12 = .ok (.aload_n 0, 1) := by decide +kernel
theorem dX10_secondGoes_13 : decode cX10_secondGoes 13 = .ok (.getfield 43, 3) := by decide +kernel
theorem dX10_secondGoes_16 : decode cX10_secondGoes 16 = .ok (.iload_n 2, 1) := by decide +kernel
theorem dX10_secondGoes_17 : decode cX10_secondGoes 17 = .ok (.aload_n 0, 1) := by decide +kernel
theorem dX10_secondGoes_18 : decode cX10_secondGoes 18 = .ok (.iload_n 2, 1) := by decide +kernel
theorem dX10_secondGoes_19 : decode cX10_secondGoes 19 = .ok (.invokevirtual 250, 3) := by decide +kernel
theorem dX10_secondGoes_22 : decode cX10_secondGoes 22 = .ok (.iastore, 1) := by decide +kernel
theorem dX10_secondGoes_23 : decode cX10_secondGoes 23 = .ok (.iload_n 1, 1) := by decide +kernel
theorem dX10_secondGoes_24 : decode cX10_secondGoes 24 = .ok (.aload_n 0, 1) := by decide +kernel
theorem dX10_secondGoes_25 : decode cX10_secondGoes 25 = .ok (.getfield 43, 3) := by decide +kernel
theorem dX10_secondGoes_28 : decode cX10_secondGoes 28 = .ok (.iload_n 2, 1) := by decide +kernel
theorem dX10_secondGoes_29 : decode cX10_secondGoes 29 = .ok (.iaload, 1) := by decide +kernel
theorem dX10_secondGoes_30 : decode cX10_secondGoes 30 = .ok (.iadd, 1) := by decide +kernel
theorem dX10_secondGoes_31 : decode cX10_secondGoes 31 = .ok (.istore_n 1, 1) := by decide +kernel
theorem dX10_secondGoes_32 : decode cX10_secondGoes 32 = .ok (.iinc 2 1, 3) := by decide +kernel
theorem dX10_secondGoes_35 : decode cX10_secondGoes 35 = .ok (.goto (-31), 3) := by decide +kernel
theorem dX10_secondGoes_38 : decode cX10_secondGoes 38 = .ok (.iconst 0, 1) := by decide +kernel
theorem dX10_secondGoes_39 : decode cX10_secondGoes 39 = .ok (.istore_n 2, 1) := by decide +kernel
theorem dX10_secondGoes_40 : decode cX10_secondGoes 40 = .ok (.iconst 0, 1) := by decide +kernel
theorem dX10_secondGoes_41 : decode cX10_secondGoes 41 = .ok (.istore_n 3, 1) := by decide +kernel
theorem dX10_secondGoes_42 : decode cX10_secondGoes 42 = .ok (.iload_n 3, 1) := by decide +kernel
theorem dX10_secondGoes_43 : decode cX10_secondGoes 43 = .ok (.aload_n 0, 1) := by decide +kernel
theorem dX10_secondGoes_44 : decode cX10_secondGoes 44 = .ok (.getfield 102, 3) := by decide +kernel
theorem dX10_secondGoes_47 : decode cX10_secondGoes 47 = .ok (.if_icmp .ge 126, 3) := by decide +kernel
theorem dX10_secondGoes_50 : decode cX10_secondGoes 50 = .ok (.aload_n 0, 1) := by decide +kernel
theorem dX10_secondGoes_51 : decode cX10_secondGoes 51 = .ok (.iload_n 3, 1) := by decide +kernel
theorem dX10_secondGoes_52 : decode cX10_secondGoes 52 = .ok (.invokevirtual 247, 3) := by decide +kernel
theorem dX10_secondGoes_55 : decode cX10_secondGoes 55 = .ok (.istore 4, 2) := by decide +kernel
theorem dX10_secondGoes_57 : decode cX10_secondGoes 57 = .ok (.iload_n 1, 1) := by decide +kernel
theorem dX10_secondGoes_58 : decode cX10_secondGoes 58 = .ok (.aload_n 0, 1) := by decide +kernel
theorem dX10_secondGoes_59 : decode cX10_secondGoes 59 = .ok (.getfield 225, 3) := by decide +kernel
theorem dX10_secondGoes_62 : decode cX10_secondGoes 62 = .ok (.if_icmp .le 19, 3) := by decide +kernel
theorem dX10_secondGoes_65 : decode cX10_secondGoes 65 = .ok (.aload_n 0, 1) := by decide +kernel
theorem dX10_secondGoes_66 : decode cX10_secondGoes 66 = .ok (.getfield 43, 3) := by decide +kernel
theorem dX10_secondGoes_69 : decode cX10_secondGoes 69 = .ok (.iload_n 3, 1) := by decide +kernel
theorem dX10_secondGoes_70 : decode cX10_secondGoes 70 = .ok (.iaload, 1) := by decide +kernel
theorem dX10_secondGoes_71 : decode cX10_secondGoes 71 = .ok (.aload_n 0, 1) := by decide +kernel
theorem dX10_secondGoes_72 : decode cX10_secondGoes 72 = .ok (.getfield 225, 3) := by decide +kernel
theorem dX10_secondGoes_75 : decode cX10_secondGoes 75 = .ok (.imul, 1) := by decide +kernel
theorem dX10_secondGoes_76 : decode cX10_secondGoes 76 = .ok (.iload_n 1, 1) := by decide +kernel
theorem dX10_secondGoes_77 : decode cX10_secondGoes 77 = .ok (.idiv, 1) := by decide +kernel
theorem dX10_secondGoes_78 : decode cX10_secondGoes 78 = .ok (.goto 9, 3) := by decide +kernel
theorem dX10_secondGoes_81 : decode cX10_secondGoes 81 = .ok (.aload_n 0, 1) := by decide +kernel
theorem dX10_secondGoes_82 : decode cX10_secondGoes 82 = .ok (.getfield 43, 3) := by decide +kernel
theorem dX10_secondGoes_85 : decode cX10_secondGoes 85 = .ok (.iload_n 3, 1) := by decide +kernel
theorem dX10_secondGoes_86 : decode cX10_secondGoes 86 = .ok (.iaload, 1) := by decide +kernel
theorem dX10_secondGoes_87 : decode cX10_secondGoes 87 = .ok (.istore 5, 2) := by decide +kernel
theorem dX10_secondGoes_89 : decode cX10_secondGoes 89 = .ok (.aload_n 0, 1) := by decide +kernel
theorem dX10_secondGoes_90 : decode cX10_secondGoes 90 = .ok (.getfield 37, 3) := by decide +kernel
theorem dX10_secondGoes_93 : decode cX10_secondGoes 93 = .ok (.iload_n 3, 1) := by decide +kernel
theorem dX10_secondGoes_94 : decode cX10_secondGoes 94 = .ok (.dup2, 1) := by decide +kernel
theorem dX10_secondGoes_95 : decode cX10_secondGoes 95 = .ok (.iaload, 1) := by decide +kernel
theorem dX10_secondGoes_96 : decode cX10_secondGoes 96 = .ok (.iload 5, 2) := by decide +kernel
theorem dX10_secondGoes_98 : decode cX10_secondGoes 98 = .ok (.iadd, 1) := by decide +kernel
theorem dX10_secondGoes_99 : decode cX10_secondGoes 99 = .ok (.iastore, 1) := by decide +kernel
theorem dX10_secondGoes_100 : decode cX10_secondGoes 100 = .ok (.iload_n 2, 1) := by decide +kernel
theorem dX10_secondGoes_101 : decode cX10_secondGoes 101 = .ok (.iload 5, 2) := by decide +kernel
theorem dX10_secondGoes_103 : decode cX10_secondGoes 103 = .ok (.iadd, 1) := by decide +kernel
theorem dX10_secondGoes_104 : decode cX10_secondGoes 104 = .ok (.istore_n 2, 1) := by decide +kernel
theorem dX10_secondGoes_105 : decode cX10_secondGoes 105 = .ok (.aload_n 0, 1) := by decide +kernel
theorem dX10_secondGoes_106 : decode cX10_secondGoes 106 = .ok (.getfield 40, 3) := by decide +kernel
theorem dX10_secondGoes_109 : decode cX10_secondGoes 109 = .ok (.iload_n 3, 1) := by decide +kernel
theorem dX10_secondGoes_110 : decode cX10_secondGoes 110 = .ok (.dup2, 1) := by decide +kernel
theorem dX10_secondGoes_111 : decode cX10_secondGoes 111 = .ok (.iaload, 1) := by decide +kernel
theorem dX10_secondGoes_112 : decode cX10_secondGoes 112 = .ok (.iload 4, 2) := by decide +kernel
theorem dX10_secondGoes_114 : decode cX10_secondGoes 114 = .ok (.ifCond .eq 31, 3) := by decide +kernel
theorem dX10_secondGoes_117 : decode cX10_secondGoes 117 = .ok (.aload_n 0, 1) := by decide +kernel
theorem dX10_secondGoes_118 : decode cX10_secondGoes 118 = .ok (.getfield 241, 3) := by decide +kernel
theorem dX10_secondGoes_121 : decode cX10_secondGoes 121 = .ok (.iload_n 3, 1) := by decide +kernel
theorem dX10_secondGoes_122 : decode cX10_secondGoes 122 = .ok (.invokestatic 244, 3) := by decide +kernel
theorem dX10_secondGoes_125 : decode cX10_secondGoes 125 = .ok (.ifCond .ne 20, 3) := by decide +kernel
theorem dX10_secondGoes_128 : decode cX10_secondGoes 128 = .ok (.aload_n 0, 1) := by decide +kernel
theorem dX10_secondGoes_129 : decode cX10_secondGoes 129 = .ok (.getfield 225, 3) := by decide +kernel
theorem dX10_secondGoes_132 : decode cX10_secondGoes 132 = .ok (.aload_n 0, 1) := by decide +kernel
theorem dX10_secondGoes_133 : decode cX10_secondGoes 133 = .ok (.iload_n 3, 1) := by decide +kernel
theorem dX10_secondGoes_134 : decode cX10_secondGoes 134 = .ok (.iconst 2, 1) := by decide +kernel
theorem dX10_secondGoes_135 : decode cX10_secondGoes 135 = .ok (.invokevirtual 218, 3) := by decide +kernel
theorem dX10_secondGoes_138 : decode cX10_secondGoes 138 = .ok (.if_icmp .gt 7, 3) := by decide +kernel
theorem dX10_secondGoes_141 : decode cX10_secondGoes 141 = .ok (.iconst 1, 1) := by decide +kernel
theorem dX10_secondGoes_142 : decode cX10_secondGoes 142 = .ok (.goto 4, 3) := by decide +kernel
theorem dX10_secondGoes_145 : decode cX10_secondGoes 145 = .ok (.iconst 0, 1) := by decide +kernel
theorem dX10_secondGoes_146 : decode cX10_secondGoes 146 = .ok (.iadd, 1) := by decide +kernel
theorem dX10_secondGoes_147 : decode cX10_secondGoes 147 = .ok (.iastore, 1) := by decide +kernel
theorem dX10_secondGoes_148 : decode cX10_secondGoes 148 = .ok (.aload_n 0, 1) := by decide +kernel
theorem dX10_secondGoes_149 : decode cX10_secondGoes 149 = .ok (.getfield 34, 3) := by decide +kernel
theorem dX10_secondGoes_152 : decode cX10_secondGoes 152 = .ok (.iload_n 3, 1) := by decide +kernel
theorem dX10_secondGoes_153 : decode cX10_secondGoes 153 = .ok (.dup2, 1) := by decide +kernel
theorem dX10_secondGoes_154 : decode cX10_secondGoes 154 = .ok (.iaload, 1) := by decide +kernel
theorem dX10_secondGoes_155 : decode cX10_secondGoes 155 = .ok (.iload 4, 2) := by decide +kernel
theorem dX10_secondGoes_157 : decode cX10_secondGoes 157 = .ok (.ifCond .eq 7, 3) := by decide +kernel
theorem dX10_secondGoes_160 : decode cX10_secondGoes 160 = .ok (.iconst 1, 1) := by decide +kernel
theorem dX10_secondGoes_161 : decode cX10_secondGoes 161 = .ok (.goto 4, 3) := by decide +kernel
theorem dX10_secondGoes_164 : decode cX10_secondGoes 164 = .ok (.iconst 0, 1) := by decide +kernel
theorem dX10_secondGoes_165 : decode cX10_secondGoes 165 = .ok (.iadd, 1) := by decide +kernel
theorem dX10_secondGoes_166 : decode cX10_secondGoes 166 = .ok (.iastore, 1) := by decide +kernel
theorem dX10_secondGoes_167 : decode cX10_secondGoes 167 = .ok (.iinc 3 1, 3) := by decide +kernel
theorem dX10_secondGoes_170 : decode cX10_secondGoes 170 = .ok (.goto (-128), 3) := by decide +kernel
theorem dX10_secondGoes_173 : decode cX10_secondGoes 173 = .ok (.aload_n 0, 1) := by decide +kernel
theorem dX10_secondGoes_174 : decode cX10_secondGoes 174 = .ok (.dup, 1) := by decide +kernel
theorem dX10_secondGoes_175 : decode cX10_secondGoes 175 = .ok (.getfield 225, 3) := by decide +kernel
theorem dX10_secondGoes_178 : decode cX10_secondGoes 178 = .ok (.iload_n 2, 1) := by decide +kernel
theorem dX10_secondGoes_179 : decode cX10_secondGoes 179 = .ok (.isub, 1) := by decide +kernel
theorem dX10_secondGoes_180 : decode cX10_secondGoes 180 = .ok (.putfield 225, 3) := by decide +kernel
theorem dX10_secondGoes_183 : decode cX10_secondGoes 183 = .ok (.aload_n 0, 1) := by decide +kernel
theorem dX10_secondGoes_184 : decode cX10_secondGoes 184 = .ok (.getfield 9, 3) := by decide +kernel
theorem dX10_secondGoes_187 : decode cX10_secondGoes 187 = .ok (.bipush 24, 2) := by decide +kernel
theorem dX10_secondGoes_189 : decode cX10_secondGoes 189 = .ok (.iaload, 1) := by decide +kernel
theorem dX10_secondGoes_190 : decode cX10_secondGoes 190 = .ok (.aload_n 0, 1) := by decide +kernel
theorem dX10_secondGoes_191 : decode cX10_secondGoes 191 = .ok (.getfield 228, 3) := by decide +kernel
theorem dX10_secondGoes_194 : decode cX10_secondGoes 194 = .ok (.if_icmp .ge 13, 3) := by decide +kernel
theorem dX10_secondGoes_197 : decode cX10_secondGoes 197 = .ok (.aload_n 0, 1) := by decide +kernel
theorem dX10_secondGoes_198 : decode cX10_secondGoes 198 = .ok (.getfield 9, 3) := by decide +kernel
theorem dX10_secondGoes_201 : decode cX10_secondGoes 201 = .ok (.bipush 24, 2) := by decide +kernel
theorem dX10_secondGoes_203 : decode cX10_secondGoes 203 = .ok (.iaload, 1) := by decide +kernel
theorem dX10_secondGoes_204 : decode cX10_secondGoes 204 = .ok (.goto 7, 3) := by decide +kernel
theorem dX10_secondGoes_207 : decode cX10_secondGoes 207 = .ok (.aload_n 0, 1) := by decide +kernel
theorem dX10_secondGoes_208 : decode cX10_secondGoes 208 = .ok (.getfield 228, 3) := by decide +kernel
theorem dX10_secondGoes_211 : decode cX10_secondGoes 211 = .ok (.istore_n 3, 1) := by decide +kernel
theorem dX10_secondGoes_212 : decode cX10_secondGoes 212 = .ok (.iload_n 3, 1) := by decide +kernel
theorem dX10_secondGoes_213 : decode cX10_secondGoes 213 = .ok (.sipush 999, 3) := by decide +kernel
theorem dX10_secondGoes_216 : decode cX10_secondGoes 216 = .ok (.aload_n 0, 1) := by decide +kernel
theorem dX10_secondGoes_217 : decode cX10_secondGoes 217 = .ok (.getfield 225, 3) := by decide +kernel
theorem dX10_secondGoes_220 : decode cX10_secondGoes 220 = .ok (.isub, 1) := by decide +kernel
theorem dX10_secondGoes_221 : decode cX10_secondGoes 221 = .ok (.if_icmp .ge 7, 3) := by decide +kernel
theorem dX10_secondGoes_224 : decode cX10_secondGoes 224 = .ok (.iload_n 3, 1) := by decide +kernel
theorem dX10_secondGoes_225 : decode cX10_secondGoes 225 = .ok (.goto 11, 3) := by decide +kernel
theorem dX10_secondGoes_228 : decode cX10_secondGoes 228 = .ok (.sipush 999, 3) := by decide +kernel
theorem dX10_secondGoes_231 : decode cX10_secondGoes 231 = .ok (.aload_n 0, 1) := by decide +kernel
theorem dX10_secondGoes_232 : decode cX10_secondGoes 232 = .ok (.getfield 225, 3) := by decide +kernel
theorem dX10_secondGoes_235 : decode cX10_secondGoes 235 = .ok (.isub, 1) := by decide +kernel
theorem dX10_secondGoes_236 : decode cX10_secondGoes 236 = .ok (.istore_n 3, 1) := by decide +kernel
theorem dX10_secondGoes_237 : decode cX10_secondGoes 237 = .ok (.aload_n 0, 1) := by decide +kernel
theorem dX10_secondGoes_238 : decode cX10_secondGoes 238 = .ok (.dup, 1) := by decide +kernel
theorem dX10_secondGoes_239 : decode cX10_secondGoes 239 = .ok (.getfield 225, 3) := by decide +kernel
theorem dX10_secondGoes_242 : decode cX10_secondGoes 242 = .ok (.iload_n 3, 1) := by decide +kernel
theorem dX10_secondGoes_243 : decode cX10_secondGoes 243 = .ok (.iadd, 1) := by decide +kernel
theorem dX10_secondGoes_244 : decode cX10_secondGoes 244 = .ok (.putfield 225, 3) := by decide +kernel
theorem dX10_secondGoes_247 : decode cX10_secondGoes 247 = .ok (.aload_n 0, 1) := by decide +kernel
theorem dX10_secondGoes_248 : decode cX10_secondGoes 248 = .ok (.dup, 1) := by decide +kernel
theorem dX10_secondGoes_249 : decode cX10_secondGoes 249 = .ok (.getfield 228, 3) := by decide +kernel
theorem dX10_secondGoes_252 : decode cX10_secondGoes 252 = .ok (.iload_n 3, 1) := by decide +kernel
theorem dX10_secondGoes_253 : decode cX10_secondGoes 253 = .ok (.isub, 1) := by decide +kernel
theorem dX10_secondGoes_254 : decode cX10_secondGoes 254 = .ok (.putfield 228, 3) := by decide +kernel
theorem dX10_secondGoes_257 : decode cX10_secondGoes 257 = .ok (.aload_n 0, 1) := by decide +kernel
theorem dX10_secondGoes_258 : decode cX10_secondGoes 258 = .ok (.dup, 1) := by decide +kernel
theorem dX10_secondGoes_259 : decode cX10_secondGoes 259 = .ok (.getfield 231, 3) := by decide +kernel
theorem dX10_secondGoes_262 : decode cX10_secondGoes 262 = .ok (.iconst 1, 1) := by decide +kernel
theorem dX10_secondGoes_263 : decode cX10_secondGoes 263 = .ok (.iadd, 1) := by decide +kernel
theorem dX10_secondGoes_264 : decode cX10_secondGoes 264 = .ok (.putfield 231, 3) := by decide +kernel
theorem dX10_secondGoes_267 : decode cX10_secondGoes 267 = .ok (.return_, 1) := by decide +kernel
theorem dX10_goes_0 : decode cX10_goes 0 = .ok (.iconst 0, 1) := by decide +kernel
theorem dX10_goes_1 : decode cX10_goes 1 = .ok (.istore_n 2, 1) := by decide +kernel
theorem dX10_goes_2 : decode cX10_goes 2 = .ok (.iload_n 2, 1) := by decide +kernel
theorem dX10_goes_3 : decode cX10_goes 3 = .ok (.iload_n 1, 1) := by decide +kernel
theorem dX10_goes_4 : decode cX10_goes 4 = .ok (.if_icmp .ge 13, 3) := by decide +kernel
theorem dX10_goes_7 : decode cX10_goes 7 = .ok (.aload_n 0, 1) := by decide +kernel
theorem dX10_goes_8 : decode cX10_goes 8 = .ok (.invokevirtual 253, 3) := by decide +kernel
theorem dX10_goes_11 : decode cX10_goes 11 = .ok (.iinc 2 1, 3) := by decide +kernel
theorem dX10_goes_14 : decode cX10_goes 14 = .ok (.goto (-12), 3) := by decide +kernel
theorem dX10_goes_17 : decode cX10_goes 17 = .ok (.return_, 1) := by decide +kernel
theorem dX10_sweetOf_0 : decode cX10_sweetOf 0 = .ok (.iload_n 2, 1) := by decide +kernel
theorem dX10_sweetOf_1 : decode cX10_sweetOf 1 = .ok (.iconst 1, 1) := by decide +kernel
theorem dX10_sweetOf_2 : decode cX10_sweetOf 2 = .ok (.aload_n 0, 1) := by decide +kernel
theorem dX10_sweetOf_3 : decode cX10_sweetOf 3 = .ok (.iload_n 1, 1) := by decide +kernel
theorem dX10_sweetOf_4 : decode cX10_sweetOf 4 = .ok (.iconst 2, 1) := by decide +kernel
theorem dX10_sweetOf_5 : decode cX10_sweetOf 5 = .ok (.invokevirtual 218, 3) := by decide +kernel
theorem dX10_sweetOf_8 : decode cX10_sweetOf 8 = .ok (.aload_n 0, 1) := by decide +kernel
theorem dX10_sweetOf_9 : decode cX10_sweetOf 9 = .ok (.getfield 9, 3) := by decide +kernel
theorem dX10_sweetOf_12 : decode cX10_sweetOf 12 = .ok (.bipush 25, 2) := by decide +kernel
theorem dX10_sweetOf_14 : decode cX10_sweetOf 14 = .ok (.iaload, 1) := by decide +kernel
theorem dX10_sweetOf_15 : decode cX10_sweetOf 15 = .ok (.if_icmp .ge 13, 3) := by decide +kernel
theorem dX10_sweetOf_18 : decode cX10_sweetOf 18 = .ok (.aload_n 0, 1) := by decide +kernel
theorem dX10_sweetOf_19 : decode cX10_sweetOf 19 = .ok (.getfield 9, 3) := by decide +kernel
theorem dX10_sweetOf_22 : decode cX10_sweetOf 22 = .ok (.bipush 26, 2) := by decide +kernel
theorem dX10_sweetOf_24 : decode cX10_sweetOf 24 = .ok (.iaload, 1) := by decide +kernel
theorem dX10_sweetOf_25 : decode cX10_sweetOf 25 = .ok (.goto 4, 3) := by decide +kernel
theorem dX10_sweetOf_28 : decode cX10_sweetOf 28 = .ok (.iconst 0, 1) := by decide +kernel
theorem dX10_sweetOf_29 : decode cX10_sweetOf 29 = .ok (.iadd, 1) := by decide +kernel
theorem dX10_sweetOf_30 : decode cX10_sweetOf 30 = .ok (.imul, 1) := by decide +kernel
theorem dX10_sweetOf_31 : decode cX10_sweetOf 31 = .ok (.ireturn, 1) := by decide +kernel
theorem dX10_glass_0 : decode cX10_glass 0 = .ok (.iload_n 1, 1) := by decide +kernel
theorem dX10_glass_1 : decode cX10_glass 1 = .ok (.i2l, 1) := by decide +kernel
theorem dX10_glass_2 : decode cX10_glass 2 = .ok (.lconst 0, 1) := by decide +kernel
theorem dX10_glass_3 : decode cX10_glass 3 = .ok (.ldc2_w 113, 3) := by decide +kernel
theorem dX10_glass_6 : decode cX10_glass 6 = .ok (.invokestatic 105, 3) := by decide +kernel
theorem dX10_glass_9 : decode cX10_glass 9 = .ok (.ifCond .eq 23, 3) := by decide +kernel
theorem dX10_glass_12 : decode cX10_glass 12 = .ok (.aload_n 0, 1) := by decide +kernel
theorem dX10_glass_13 : decode cX10_glass 13 = .ok (.iload_n 2, 1) := by decide +kernel
theorem dX10_glass_14 : decode cX10_glass 14 = .ok (.invokevirtual 130, 3) := by decide +kernel
theorem dX10_glass_17 : decode cX10_glass 17 = .ok (.ifCond .eq 15, 3) := by decide +kernel
theorem dX10_glass_20 : decode cX10_glass 20 = .ok (.iload_n 3, 1) := by decide +kernel
theorem dX10_glass_21 : decode cX10_glass 21 = .ok (.i2l, 1) := by decide +kernel
theorem dX10_glass_22 : decode cX10_glass 22 = .ok (.lconst 0, 1) := by decide +kernel
theorem dX10_glass_23 : decode cX10_glass 23 = .ok (.ldc2_w 256, 3) := by decide +kernel
theorem dX10_glass_26 : decode cX10_glass 26 = .ok (.invokestatic 105, 3) := by decide +kernel
theorem dX10_glass_29 : decode cX10_glass 29 = .ok (.ifCond .ne 5, 3) := by decide +kernel
theorem dX10_glass_32 : decode cX10_glass 32 = .ok (.iconst (-1), 1) := by decide +kernel
theorem dX10_glass_33 : decode cX10_glass 33 = .ok (.ireturn, 1) := by decide +kernel
theorem dX10_glass_34 : decode cX10_glass 34 = .ok (.aload_n 0, 1) := by decide +kernel
theorem dX10_glass_35 : decode cX10_glass 35 = .ok (.invokevirtual 258, 3) := by decide +kernel
theorem dX10_glass_38 : decode cX10_glass 38 = .ok (.aload_n 0, 1) := by decide +kernel
theorem dX10_glass_39 : decode cX10_glass 39 = .ok (.iload_n 1, 1) := by decide +kernel
theorem dX10_glass_40 : decode cX10_glass 40 = .ok (.invokevirtual 261, 3) := by decide +kernel
theorem dX10_glass_43 : decode cX10_glass 43 = .ok (.iload_n 3, 1) := by decide +kernel
theorem dX10_glass_44 : decode cX10_glass 44 = .ok (.ifCond .ne 12, 3) := by decide +kernel
theorem dX10_glass_47 : decode cX10_glass 47 = .ok (.aload_n 0, 1) := by decide +kernel
theorem dX10_glass_48 : decode cX10_glass 48 = .ok (.getfield 37, 3) := by decide +kernel
theorem dX10_glass_51 : decode cX10_glass 51 = .ok (.iload_n 2, 1) := by decide +kernel
theorem dX10_glass_52 : decode cX10_glass 52 = .ok (.iaload, 1) := by decide +kernel
theorem dX10_glass_53 : decode cX10_glass 53 = .ok (.goto 28, 3) := by decide +kernel
theorem dX10_glass_56 : decode cX10_glass 56 = .ok (.iload_n 3, 1) := by decide +kernel
theorem dX10_glass_57 : decode cX10_glass 57 = .ok (.iconst 1, 1) := by decide +kernel
theorem dX10_glass_58 : decode cX10_glass 58 = .ok (.if_icmp .ne 17, 3) := by decide +kernel
theorem dX10_glass_61 : decode cX10_glass 61 = .ok (.aload_n 0, 1) := by decide +kernel
theorem dX10_glass_62 : decode cX10_glass 62 = .ok (.iload_n 2, 1) := by decide +kernel
theorem dX10_glass_63 : decode cX10_glass 63 = .ok (.aload_n 0, 1) := by decide +kernel
theorem dX10_glass_64 : decode cX10_glass 64 = .ok (.getfield 37, 3) := by decide +kernel
theorem dX10_glass_67 : decode cX10_glass 67 = .ok (.iload_n 2, 1) := by decide +kernel
theorem dX10_glass_68 : decode cX10_glass 68 = .ok (.iaload, 1) := by decide +kernel
theorem dX10_glass_69 : decode cX10_glass 69 = .ok (.invokevirtual 265, 3) := by decide +kernel
theorem dX10_glass_72 : decode cX10_glass 72 = .ok (.goto 9, 3) := by decide +kernel
theorem dX10_glass_75 : decode cX10_glass 75 = .ok (.aload_n 0, 1) := by decide +kernel
theorem dX10_glass_76 : decode cX10_glass 76 = .ok (.getfield 40, 3) := by decide +kernel
theorem dX10_glass_79 : decode cX10_glass 79 = .ok (.iload_n 2, 1) := by decide +kernel
theorem dX10_glass_80 : decode cX10_glass 80 = .ok (.iaload, 1) := by decide +kernel
theorem dX10_glass_81 : decode cX10_glass 81 = .ok (.ireturn, 1) := by decide +kernel
theorem dX10_level_0 : decode cX10_level 0 = .ok (.iload_n 1, 1) := by decide +kernel
theorem dX10_level_1 : decode cX10_level 1 = .ok (.i2l, 1) := by decide +kernel
theorem dX10_level_2 : decode cX10_level 2 = .ok (.lconst 0, 1) := by decide +kernel
theorem dX10_level_3 : decode cX10_level 3 = .ok (.ldc2_w 113, 3) := by decide +kernel
theorem dX10_level_6 : decode cX10_level 6 = .ok (.invokestatic 105, 3) := by decide +kernel
theorem dX10_level_9 : decode cX10_level 9 = .ok (.ifCond .eq 13, 3) := by decide +kernel
theorem dX10_level_12 : decode cX10_level 12 = .ok (.iload_n 2, 1) := by decide +kernel
theorem dX10_level_13 : decode cX10_level 13 = .ok (.i2l, 1) := by decide +kernel
theorem dX10_level_14 : decode cX10_level 14 = .ok (.lconst 0, 1) := by decide +kernel
theorem dX10_level_15 : decode cX10_level 15 = .ok (.lconst 1, 1) := by decide +kernel
theorem dX10_level_16 : decode cX10_level 16 = .ok (.invokestatic 105, 3) := by decide +kernel
theorem dX10_level_19 : decode cX10_level 19 = .ok (.ifCond .ne 5, 3) := by decide +kernel
theorem dX10_level_22 : decode cX10_level 22 = .ok (.iconst (-1), 1) := by decide +kernel
theorem dX10_level_23 : decode cX10_level 23 = .ok (.ireturn, 1) := by decide +kernel
theorem dX10_level_24 : decode cX10_level 24 = .ok (.aload_n 0, 1) := by decide +kernel
theorem dX10_level_25 : decode cX10_level 25 = .ok (.invokevirtual 258, 3) := by decide +kernel
theorem dX10_level_28 : decode cX10_level 28 = .ok (.aload_n 0, 1) := by decide +kernel
theorem dX10_level_29 : decode cX10_level 29 = .ok (.iload_n 1, 1) := by decide +kernel
theorem dX10_level_30 : decode cX10_level 30 = .ok (.invokevirtual 261, 3) := by decide +kernel
theorem dX10_level_33 : decode cX10_level 33 = .ok (.iload_n 2, 1) := by decide +kernel
theorem dX10_level_34 : decode cX10_level 34 = .ok (.ifCond .ne 10, 3) := by decide +kernel
theorem dX10_level_37 : decode cX10_level 37 = .ok (.aload_n 0, 1) := by decide +kernel
theorem dX10_level_38 : decode cX10_level 38 = .ok (.getfield 225, 3) := by decide +kernel
theorem dX10_level_41 : decode cX10_level 41 = .ok (.goto 7, 3) := by decide +kernel
theorem dX10_level_44 : decode cX10_level 44 = .ok (.aload_n 0, 1) := by decide +kernel
theorem dX10_level_45 : decode cX10_level 45 = .ok (.getfield 228, 3) := by decide +kernel
theorem dX10_level_48 : decode cX10_level 48 = .ok (.ireturn, 1) := by decide +kernel
theorem dX10_isEmpty_0 : decode cX10_isEmpty 0 = .ok (.aload_n 0, 1) := by decide +kernel
theorem dX10_isEmpty_1 : decode cX10_isEmpty 1 = .ok (.getfield 228, 3) := by decide +kernel
theorem dX10_isEmpty_4 : decode cX10_isEmpty 4 = .ok (.ifCond .ne 7, 3) := by decide +kernel
theorem dX10_isEmpty_7 : decode cX10_isEmpty 7 = .ok (.iconst 1, 1) := by decide +kernel
theorem dX10_isEmpty_8 : decode cX10_isEmpty 8 = .ok (.goto 4, 3) := by decide +kernel
theorem dX10_isEmpty_11 : decode cX10_isEmpty 11 = .ok (.iconst 0, 1) := by decide +kernel
theorem dX10_isEmpty_12 : decode cX10_isEmpty 12 = .ok (.istore_n 1, 1) := by decide +kernel
theorem dX10_isEmpty_13 : decode cX10_isEmpty 13 = .ok (.iconst 0, 1) := by decide +kernel
theorem dX10_isEmpty_14 : decode cX10_isEmpty 14 = .ok (.istore_n 2, 1) := by decide +kernel
theorem dX10_isEmpty_15 : decode cX10_isEmpty 15 = .ok (.iload_n 2, 1) := by decide +kernel
theorem dX10_isEmpty_16 : decode cX10_isEmpty 16 = .ok (.aload_n 0, 1) := by decide +kernel
theorem dX10_isEmpty_17 : decode cX10_isEmpty 17 = .ok (.getfield 102, 3) := by decide +kernel
theorem dX10_isEmpty_20 : decode cX10_isEmpty 20 = .ok (.if_icmp .ge 44, 3) := by decide +kernel
theorem dX10_isEmpty_23 : decode cX10_isEmpty 23 = .ok (.iload_n 1, 1) := by decide +kernel
theorem dX10_isEmpty_24 : decode cX10_isEmpty 24 = .ok (.aload_n 0, 1) := by decide +kernel
theorem dX10_isEmpty_25 : decode cX10_isEmpty 25 = .ok (.getfield 231, 3) := by decide +kernel
theorem dX10_isEmpty_28 : decode cX10_isEmpty 28 = .ok (.aload_n 0, 1) := by decide +kernel
theorem dX10_isEmpty_29 : decode cX10_isEmpty 29 = .ok (.iload_n 2, 1) := by decide +kernel
theorem dX10_isEmpty_30 : decode cX10_isEmpty 30 = .ok (.bipush 7, 2) := by decide +kernel
theorem dX10_isEmpty_32 : decode cX10_isEmpty 32 = .ok (.invokevirtual 218, 3) := by decide +kernel
theorem dX10_isEmpty_35 : decode cX10_isEmpty 35 = .ok (.if_icmp .ge 16, 3) := by decide +kernel
theorem dX10_isEmpty_38 : decode cX10_isEmpty 38 = .ok (.aload_n 0, 1) := by decide +kernel
theorem dX10_isEmpty_39 : decode cX10_isEmpty 39 = .ok (.getfield 225, 3) := by decide +kernel
theorem dX10_isEmpty_42 : decode cX10_isEmpty 42 = .ok (.aload_n 0, 1) := by decide +kernel
theorem dX10_isEmpty_43 : decode cX10_isEmpty 43 = .ok (.iload_n 2, 1) := by decide +kernel
theorem dX10_isEmpty_44 : decode cX10_isEmpty 44 = .ok (.iconst 2, 1) := by decide +kernel
theorem dX10_isEmpty_45 : decode cX10_isEmpty 45 = .ok (.invokevirtual 218, 3) := by decide +kernel
theorem dX10_isEmpty_48 : decode cX10_isEmpty 48 = .ok (.if_icmp .gt 7, 3) := by decide +kernel
theorem dX10_isEmpty_51 : decode cX10_isEmpty 51 = .ok (.iconst 1, 1) := by decide +kernel
theorem dX10_isEmpty_52 : decode cX10_isEmpty 52 = .ok (.goto 4, 3) := by decide +kernel
theorem dX10_isEmpty_55 : decode cX10_isEmpty 55 = .ok (.iconst 0, 1) := by decide +kernel
theorem dX10_isEmpty_56 : decode cX10_isEmpty 56 = .ok (.iand, 1) := by decide +kernel
theorem dX10_isEmpty_57 : decode cX10_isEmpty 57 = .ok (.istore_n 1, 1) := by decide +kernel
theorem dX10_isEmpty_58 : decode cX10_isEmpty 58 = .ok (.iinc 2 1, 3) := by decide +kernel
theorem dX10_isEmpty_61 : decode cX10_isEmpty 61 = .ok (.goto (-46), 3) := by decide +kernel
theorem dX10_isEmpty_64 : decode cX10_isEmpty 64 = .ok (.iload_n 1, 1) := by decide +kernel
theorem dX10_isEmpty_65 : decode cX10_isEmpty 65 = .ok (.ireturn, 1) := by decide +kernel
theorem dX10_empty_0 : decode cX10_empty 0 = .ok (.aload_n 0, 1) := by decide +kernel
theorem dX10_empty_1 : decode cX10_empty 1 = .ok (.invokevirtual 258, 3) := by decide +kernel
theorem dX10_empty_4 : decode cX10_empty 4 = .ok (.iconst 0, 1) := by decide +kernel
theorem dX10_empty_5 : decode cX10_empty 5 = .ok (.istore_n 1, 1) := by decide +kernel
theorem dX10_empty_6 : decode cX10_empty 6 = .ok (.iload_n 1, 1) := by decide +kernel
theorem dX10_empty_7 : decode cX10_empty 7 = .ok (.sipush 999, 3) := by decide +kernel
theorem dX10_empty_10 : decode cX10_empty 10 = .ok (.if_icmp .gt 22, 3) := by decide +kernel
theorem dX10_empty_13 : decode cX10_empty 13 = .ok (.aload_n 0, 1) := by decide +kernel
theorem dX10_empty_14 : decode cX10_empty 14 = .ok (.invokevirtual 268, 3) := by decide +kernel
theorem dX10_empty_17 : decode cX10_empty 17 = .ok (.ifCond .eq 5, 3) := by decide +kernel
theorem dX10_empty_20 : decode cX10_empty 20 = .ok (.iload_n 1, 1) := by decide +kernel
theorem dX10_empty_21 : decode cX10_empty 21 = .ok (.ireturn, 1) := by decide +kernel
theorem dX10_empty_22 : decode cX10_empty 22 = .ok (.aload_n 0, 1) := by decide +kernel
theorem dX10_empty_23 : decode cX10_empty 23 = .ok (.invokevirtual 253, 3) := by decide +kernel
theorem dX10_empty_26 : decode cX10_empty 26 = .ok (.iinc 1 1, 3) := by decide +kernel
theorem dX10_empty_29 : decode cX10_empty 29 = .ok (.goto (-23), 3) := by decide +kernel
theorem dX10_empty_32 : decode cX10_empty 32 = .ok (.bipush (-2), 2) := by decide +kernel
theorem dX10_empty_34 : decode cX10_empty 34 = .ok (.ireturn, 1) := by decide +kernel
theorem dX10_more_0 : decode cX10_more 0 = .ok (.iload_n 1, 1) := by decide +kernel
theorem dX10_more_1 : decode cX10_more 1 = .ok (.i2l, 1) := by decide +kernel
theorem dX10_more_2 : decode cX10_more 2 = .ok (.lconst 0, 1) := by decide +kernel
theorem dX10_more_3 : decode cX10_more 3 = .ok (.ldc2_w 113, 3) := by decide +kernel
theorem dX10_more_6 : decode cX10_more 6 = .ok (.invokestatic 105, 3) := by decide +kernel
theorem dX10_more_9 : decode cX10_more 9 = .ok (.ifCond .eq 13, 3) := by decide +kernel
theorem dX10_more_12 : decode cX10_more 12 = .ok (.iload_n 2, 1) := by decide +kernel
theorem dX10_more_13 : decode cX10_more 13 = .ok (.i2l, 1) := by decide +kernel
theorem dX10_more_14 : decode cX10_more 14 = .ok (.lconst 0, 1) := by decide +kernel
theorem dX10_more_15 : decode cX10_more 15 = .ok (.lconst 1, 1) := by decide +kernel
theorem dX10_more_16 : decode cX10_more 16 = .ok (.invokestatic 105, 3) := by decide +kernel
theorem dX10_more_19 : decode cX10_more 19 = .ok (.ifCond .ne 5, 3) := by decide +kernel
theorem dX10_more_22 : decode cX10_more 22 = .ok (.iconst (-1), 1) := by decide +kernel
theorem dX10_more_23 : decode cX10_more 23 = .ok (.ireturn, 1) := by decide +kernel
theorem dX10_more_24 : decode cX10_more 24 = .ok (.aload_n 0, 1) := by decide +kernel
theorem dX10_more_25 : decode cX10_more 25 = .ok (.getfield 102, 3) := by decide +kernel
theorem dX10_more_28 : decode cX10_more 28 = .ok (.ifCond .ne 14, 3) := by decide +kernel
theorem dX10_more_31 : decode cX10_more 31 = .ok (.iload_n 2, 1) := by decide +kernel
theorem dX10_more_32 : decode cX10_more 32 = .ok (.ifCond .ne 8, 3) := by decide +kernel
theorem dX10_more_35 : decode cX10_more 35 = .ok (.bipush (-2), 2) := by decide +kernel
theorem dX10_more_37 : decode cX10_more 37 = .ok (.goto 4, 3) := by decide +kernel
theorem dX10_more_40 : decode cX10_more 40 = .ok (.iconst 0, 1) := by decide +kernel
theorem dX10_more_41 : decode cX10_more 41 = .ok (.ireturn, 1) := by decide +kernel
theorem dX10_more_42 : decode cX10_more 42 = .ok (.aload_n 0, 1) := by decide +kernel
theorem dX10_more_43 : decode cX10_more 43 = .ok (.invokevirtual 258, 3) := by decide +kernel
theorem dX10_more_46 : decode cX10_more 46 = .ok (.aload_n 0, 1) := by decide +kernel
theorem dX10_more_47 : decode cX10_more 47 = .ok (.iload_n 1, 1) := by decide +kernel
theorem dX10_more_48 : decode cX10_more 48 = .ok (.invokevirtual 261, 3) := by decide +kernel
theorem dX10_more_51 : decode cX10_more 51 = .ok (.iconst 0, 1) := by decide +kernel
theorem dX10_more_52 : decode cX10_more 52 = .ok (.istore_n 3, 1) := by decide +kernel
theorem dX10_more_53 : decode cX10_more 53 = .ok (.iconst 0, 1) := by decide +kernel
theorem dX10_more_54 : decode cX10_more 54 = .ok (.istore 4, 2) := by decide +kernel
theorem dX10_more_56 : decode cX10_more 56 = .ok (.iconst 1, 1) := by decide +kernel
theorem dX10_more_57 : decode cX10_more 57 = .ok (.istore 5, 2) := by decide +kernel
theorem dX10_more_59 : decode cX10_more 59 = .ok (.iload 5, 2) := by decide +kernel
theorem dX10_more_61 : decode cX10_more 61 = .ok (.aload_n 0, 1) := by decide +kernel
theorem dX10_more_62 : decode cX10_more 62 = .ok (.getfield 102, 3) := by decide +kernel
theorem dX10_more_65 : decode cX10_more 65 = .ok (.if_icmp .ge 58, 3) := by decide +kernel
theorem dX10_more_68 : decode cX10_more 68 = .ok (.aload_n 0, 1) := by decide +kernel
theorem dX10_more_69 : decode cX10_more 69 = .ok (.getfield 37, 3) := by decide +kernel
theorem dX10_more_72 : decode cX10_more 72 = .ok (.iload 5, 2) := by decide +kernel
theorem dX10_more_74 : decode cX10_more 74 = .ok (.iaload, 1) := by decide +kernel
theorem dX10_more_75 : decode cX10_more 75 = .ok (.aload_n 0, 1) := by decide +kernel
theorem dX10_more_76 : decode cX10_more 76 = .ok (.getfield 37, 3) := by decide +kernel
theorem dX10_more_79 : decode cX10_more 79 = .ok (.iload_n 3, 1) := by decide +kernel
theorem dX10_more_80 : decode cX10_more 80 = .ok (.iaload, 1) := by decide +kernel
theorem dX10_more_81 : decode cX10_more 81 = .ok (.if_icmp .le 8, 3) := by decide +kernel
theorem dX10_more_84 : decode cX10_more 84 = .ok (.iload 5, 2) := by decide +kernel
theorem dX10_more_86 : decode cX10_more 86 = .ok (.goto 4, 3) := by decide +kernel
theorem dX10_more_89 : decode cX10_more 89 = .ok (.iload_n 3, 1) := by decide +kernel
theorem dX10_more_90 : decode cX10_more 90 = .ok (.istore_n 3, 1) := by decide +kernel
theorem dX10_more_91 : decode cX10_more 91 = .ok (.aload_n 0, 1) := by decide +kernel
theorem dX10_more_92 : decode cX10_more 92 = .ok (.getfield 37, 3) := by decide +kernel
theorem dX10_more_95 : decode cX10_more 95 = .ok (.iload 5, 2) := by decide +kernel
theorem dX10_more_97 : decode cX10_more 97 = .ok (.iaload, 1) := by decide +kernel
theorem dX10_more_98 : decode cX10_more 98 = .ok (.aload_n 0, 1) := by decide +kernel
theorem dX10_more_99 : decode cX10_more 99 = .ok (.getfield 37, 3) := by decide +kernel
theorem dX10_more_102 : decode cX10_more 102 = .ok (.iload 4, 2) := by decide +kernel
theorem dX10_more_104 : decode cX10_more 104 = .ok (.iaload, 1) := by decide +kernel
theorem dX10_more_105 : decode cX10_more 105 = .ok (.if_icmp .ge 8, 3) := by decide +kernel
theorem dX10_more_108 : decode cX10_more 108 = .ok (.iload 5, 2) := by decide +kernel
theorem dX10_more_110 : decode cX10_more 110 = .ok (.goto 5, 3) := by decide +kernel
theorem dX10_more_113 : decode cX10_more 113 = .ok (.iload 4, 2) := by decide +kernel
theorem dX10_more_115 : decode cX10_more 115 = .ok (.istore 4, 2) := by decide +kernel
theorem dX10_more_117 : decode cX10_more 117 = .ok (.iinc 5 1, 3) := by decide +kernel
theorem dX10_more_120 : decode cX10_more 120 = .ok (.goto (-61), 3) := by decide +kernel
theorem dX10_more_123 : decode cX10_more 123 = .ok (.iload_n 2, 1) := by decide +kernel
theorem dX10_more_124 : decode cX10_more 124 = .ok (.ifCond .ne 7, 3) := by decide +kernel
theorem dX10_more_127 : decode cX10_more 127 = .ok (.iload_n 3, 1) := by decide +kernel
theorem dX10_more_128 : decode cX10_more 128 = .ok (.goto 17, 3) := by decide +kernel
theorem dX10_more_131 : decode cX10_more 131 = .ok (.aload_n 0, 1) := by decide +kernel
theorem dX10_more_132 : decode cX10_more 132 = .ok (.getfield 37, 3) := by decide +kernel
theorem dX10_more_135 : decode cX10_more 135 = .ok (.iload_n 3, 1) := by decide +kernel
theorem dX10_more_136 : decode cX10_more 136 = .ok (.iaload, 1) := by decide +kernel
theorem dX10_more_137 : decode cX10_more 137 = .ok (.aload_n 0, 1) := by decide +kernel
theorem dX10_more_138 : decode cX10_more 138 = .ok (.getfield 37, 3) := by decide +kernel
theorem dX10_more_141 : decode cX10_more 141 = .ok (.iload 4, 2) := by decide +kernel
theorem dX10_more_143 : decode cX10_more 143 = .ok (.iaload, 1) := by decide +kernel
theorem dX10_more_144 : decode cX10_more 144 = .ok (.isub, 1) := by decide +kernel
theorem dX10_more_145 : decode cX10_more 145 = .ok (.ireturn, 1) := by decide +kernel
theorem dX10_turns_0 : decode cX10_turns 0 = .ok (.iload_n 1, 1) := by decide +kernel
theorem dX10_turns_1 : decode cX10_turns 1 = .ok (.i2l, 1) := by decide +kernel
theorem dX10_turns_2 : decode cX10_turns 2 = .ok (.lconst 0, 1) := by decide +kernel
theorem dX10_turns_3 : decode cX10_turns 3 = .ok (.ldc2_w 113, 3) := by decide +kernel
theorem dX10_turns_6 : decode cX10_turns 6 = .ok (.invokestatic 105, 3) := by decide +kernel
theorem dX10_turns_9 : decode cX10_turns 9 = .ok (.ifCond .eq 41, 3) := by decide +kernel
theorem dX10_turns_12 : decode cX10_turns 12 = .ok (.iload_n 2, 1) := by decide +kernel
theorem dX10_turns_13 : decode cX10_turns 13 = .ok (.ifCond .lt 37, 3) := by decide +kernel
theorem dX10_turns_16 : decode cX10_turns 16 = .ok (.iload_n 2, 1) := by decide +kernel
theorem dX10_turns_17 : decode cX10_turns 17 = .ok (.bipush 10, 2) := by decide +kernel
theorem dX10_turns_19 : decode cX10_turns 19 = .ok (.idiv, 1) := by decide +kernel
theorem dX10_turns_20 : decode cX10_turns 20 = .ok (.i2l, 1) := by decide +kernel
theorem dX10_turns_21 : decode cX10_turns 21 = .ok (.lconst 1, 1) := by decide +kernel
theorem dX10_turns_22 : decode cX10_turns 22 = .ok (.ldc2_w 139, 3) := by decide +kernel
theorem dX10_turns_25 : decode cX10_turns 25 = .ok (.invokestatic 105, 3) := by decide +kernel
theorem dX10_turns_28 : decode cX10_turns 28 = .ok (.ifCond .eq 22, 3) := by decide +kernel
theorem dX10_turns_31 : decode cX10_turns 31 = .ok (.aload_n 0, 1) := by decide +kernel
theorem dX10_turns_32 : decode cX10_turns 32 = .ok (.iload_n 2, 1) := by decide +kernel
theorem dX10_turns_33 : decode cX10_turns 33 = .ok (.bipush 10, 2) := by decide +kernel
theorem dX10_turns_35 : decode cX10_turns 35 = .ok (.irem, 1) := by decide +kernel
theorem dX10_turns_36 : decode cX10_turns 36 = .ok (.invokevirtual 130, 3) := by decide +kernel
theorem dX10_turns_39 : decode cX10_turns 39 = .ok (.ifCond .eq 11, 3) := by decide +kernel
theorem dX10_turns_42 : decode cX10_turns 42 = .ok (.aload_n 0, 1) := by decide +kernel
theorem dX10_turns_43 : decode cX10_turns 43 = .ok (.iload_n 3, 1) := by decide +kernel
theorem dX10_turns_44 : decode cX10_turns 44 = .ok (.invokevirtual 130, 3) := by decide +kernel
theorem dX10_turns_47 : decode cX10_turns 47 = .ok (.ifCond .ne 5, 3) := by decide +kernel
theorem dX10_turns_50 : decode cX10_turns 50 = .ok (.iconst (-1), 1) := by decide +kernel
theorem dX10_turns_51 : decode cX10_turns 51 = .ok (.ireturn, 1) := by decide +kernel
theorem dX10_turns_52 : decode cX10_turns 52 = .ok (.aload_n 0, 1) := by decide +kernel
theorem dX10_turns_53 : decode cX10_turns 53 = .ok (.invokevirtual 258, 3) := by decide +kernel
theorem dX10_turns_56 : decode cX10_turns 56 = .ok (.aload_n 0, 1) := by decide +kernel
theorem dX10_turns_57 : decode cX10_turns 57 = .ok (.iconst 1, 1) := by decide +kernel
theorem dX10_turns_58 : decode cX10_turns 58 = .ok (.putfield 237, 3) := by decide +kernel
theorem dX10_turns_61 : decode cX10_turns 61 = .ok (.iconst 0, 1) := by decide +kernel
theorem dX10_turns_62 : decode cX10_turns 62 = .ok (.istore 4, 2) := by decide +kernel
theorem dX10_turns_64 : decode cX10_turns 64 = .ok (.iload 4, 2) := by decide +kernel
theorem dX10_turns_66 : decode cX10_turns 66 = .ok (.iload_n 1, 1) := by decide +kernel
theorem dX10_turns_67 : decode cX10_turns 67 = .ok (.if_icmp .ge 36, 3) := by decide +kernel
theorem dX10_turns_70 : decode cX10_turns 70 = .ok (.aload_n 0, 1) := by decide +kernel
theorem dX10_turns_71 : decode cX10_turns 71 = .ok (.iconst 1, 1) := by decide +kernel
theorem dX10_turns_72 : decode cX10_turns 72 = .ok (.iload_n 2, 1) := by decide +kernel
theorem dX10_turns_73 : decode cX10_turns 73 = .ok (.bipush 10, 2) := by decide +kernel
theorem dX10_turns_75 : decode cX10_turns 75 = .ok (.irem, 1) := by decide +kernel
theorem dX10_turns_76 : decode cX10_turns 76 = .ok (.iload 4, 2) := by decide +kernel
theorem dX10_turns_78 : decode cX10_turns 78 = .ok (.iload_n 2, 1) := by decide +kernel
theorem dX10_turns_79 : decode cX10_turns 79 = .ok (.bipush 10, 2) := by decide +kernel
theorem dX10_turns_81 : decode cX10_turns 81 = .ok (.idiv, 1) := by decide +kernel
theorem dX10_turns_82 : decode cX10_turns 82 = .ok (.idiv, 1) := by decide +kernel
theorem dX10_turns_83 : decode cX10_turns 83 = .ok (.iadd, 1) := by decide +kernel
theorem dX10_turns_84 : decode cX10_turns 84 = .ok (.aload_n 0, 1) := by decide +kernel
theorem dX10_turns_85 : decode cX10_turns 85 = .ok (.getfield 102, 3) := by decide +kernel
theorem dX10_turns_88 : decode cX10_turns 88 = .ok (.irem, 1) := by decide +kernel
theorem dX10_turns_89 : decode cX10_turns 89 = .ok (.ishl, 1) := by decide +kernel
theorem dX10_turns_90 : decode cX10_turns 90 = .ok (.putfield 234, 3) := by decide +kernel
theorem dX10_turns_93 : decode cX10_turns 93 = .ok (.aload_n 0, 1) := by decide +kernel
theorem dX10_turns_94 : decode cX10_turns 94 = .ok (.invokevirtual 253, 3) := by decide +kernel
theorem dX10_turns_97 : decode cX10_turns 97 = .ok (.iinc 4 1, 3) := by decide +kernel
theorem dX10_turns_100 : decode cX10_turns 100 = .ok (.goto (-36), 3) := by decide +kernel
theorem dX10_turns_103 : decode cX10_turns 103 = .ok (.aload_n 0, 1) := by decide +kernel
theorem dX10_turns_104 : decode cX10_turns 104 = .ok (.getfield 37, 3) := by decide +kernel
theorem dX10_turns_107 : decode cX10_turns 107 = .ok (.iload_n 3, 1) := by decide +kernel
theorem dX10_turns_108 : decode cX10_turns 108 = .ok (.iaload, 1) := by decide +kernel
theorem dX10_turns_109 : decode cX10_turns 109 = .ok (.ireturn, 1) := by decide +kernel
theorem dX10_areTwo_0 : decode cX10_areTwo 0 = .ok (.iload_n 1, 1) := by decide +kernel
theorem dX10_areTwo_1 : decode cX10_areTwo 1 = .ok (.ifCond .lt 40, 3) := by decide +kernel
theorem dX10_areTwo_4 : decode cX10_areTwo 4 = .ok (.aload_n 0, 1) := by decide +kernel
theorem dX10_areTwo_5 : decode cX10_areTwo 5 = .ok (.iload_n 1, 1) := by decide +kernel
theorem dX10_areTwo_6 : decode cX10_areTwo 6 = .ok (.bipush 10, 2) := by decide +kernel
theorem dX10_areTwo_8 : decode cX10_areTwo 8 = .ok (.idiv, 1) := by decide +kernel
theorem dX10_areTwo_9 : decode cX10_areTwo 9 = .ok (.invokevirtual 130, 3) := by decide +kernel
theorem dX10_areTwo_12 : decode cX10_areTwo 12 = .ok (.ifCond .eq 29, 3) := by decide +kernel
theorem dX10_areTwo_15 : decode cX10_areTwo 15 = .ok (.aload_n 0, 1) := by decide +kernel
theorem dX10_areTwo_16 : decode cX10_areTwo 16 = .ok (.iload_n 1, 1) := by decide +kernel
theorem dX10_areTwo_17 : decode cX10_areTwo 17 = .ok (.bipush 10, 2) := by decide +kernel
theorem dX10_areTwo_19 : decode cX10_areTwo 19 = .ok (.irem, 1) := by decide +kernel
theorem dX10_areTwo_20 : decode cX10_areTwo 20 = .ok (.invokevirtual 130, 3) := by decide +kernel
theorem dX10_areTwo_23 : decode cX10_areTwo 23 = .ok (.ifCond .eq 18, 3) := by decide +kernel
theorem dX10_areTwo_26 : decode cX10_areTwo 26 = .ok (.iload_n 1, 1) := by decide +kernel
theorem dX10_areTwo_27 : decode cX10_areTwo 27 = .ok (.bipush 10, 2) := by decide +kernel
theorem dX10_areTwo_29 : decode cX10_areTwo 29 = .ok (.idiv, 1) := by decide +kernel
theorem dX10_areTwo_30 : decode cX10_areTwo 30 = .ok (.iload_n 1, 1) := by decide +kernel
theorem dX10_areTwo_31 : decode cX10_areTwo 31 = .ok (.bipush 10, 2) := by decide +kernel
theorem dX10_areTwo_33 : decode cX10_areTwo 33 = .ok (.irem, 1) := by decide +kernel
theorem dX10_areTwo_34 : decode cX10_areTwo 34 = .ok (.if_icmp .eq 7, 3) := by decide +kernel
theorem dX10_areTwo_37 : decode cX10_areTwo 37 = .ok (.iconst 1, 1) := by decide +kernel
theorem dX10_areTwo_38 : decode cX10_areTwo 38 = .ok (.goto 4, 3) := by decide +kernel
theorem dX10_areTwo_41 : decode cX10_areTwo 41 = .ok (.iconst 0, 1) := by decide +kernel
theorem dX10_areTwo_42 : decode cX10_areTwo 42 = .ok (.ireturn, 1) := by decide +kernel
theorem dX10_mark_0 : decode cX10_mark 0 = .ok (.aload_n 0, 1) := by decide +kernel
theorem dX10_mark_1 : decode cX10_mark 1 = .ok (.iload_n 1, 1) := by decide +kernel
theorem dX10_mark_2 : decode cX10_mark 2 = .ok (.invokevirtual 272, 3) := by decide +kernel
theorem dX10_mark_5 : decode cX10_mark 5 = .ok (.ifCond .ne 5, 3) := by decide +kernel
theorem dX10_mark_8 : decode cX10_mark 8 = .ok (.iconst (-1), 1) := by decide +kernel
theorem dX10_mark_9 : decode cX10_mark 9 = .ok (.ireturn, 1) := by decide +kernel
theorem dX10_mark_10 : decode cX10_mark 10 = .ok (.aload_n 0, 1) := by decide +kernel
theorem dX10_mark_11 : decode cX10_mark 11 = .ok (.getfield 93, 3) := by decide +kernel
theorem dX10_mark_14 : decode cX10_mark 14 = .ok (.istore_n 2, 1) := by decide +kernel
theorem dX10_mark_15 : decode cX10_mark 15 = .ok (.iconst 0, 1) := by decide +kernel
theorem dX10_mark_16 : decode cX10_mark 16 = .ok (.istore_n 3, 1) := by decide +kernel
theorem dX10_mark_17 : decode cX10_mark 17 = .ok (.iload_n 3, 1) := by decide +kernel
theorem dX10_mark_18 : decode cX10_mark 18 = .ok (.bipush 99, 2) := by decide +kernel
theorem dX10_mark_20 : decode cX10_mark 20 = .ok (.if_icmp .gt 91, 3) := by decide +kernel
theorem dX10_mark_23 : decode cX10_mark 23 = .ok (.aload_n 0, 1) := by decide +kernel
theorem dX10_mark_24 : decode cX10_mark 24 = .ok (.invokevirtual 258, 3) := by decide +kernel
theorem dX10_mark_27 : decode cX10_mark 27 = .ok (.aload_n 0, 1) := by decide +kernel
theorem dX10_mark_28 : decode cX10_mark 28 = .ok (.iconst 1, 1) := by decide +kernel
theorem dX10_mark_29 : decode cX10_mark 29 = .ok (.putfield 237, 3) := by decide +kernel
theorem dX10_mark_32 : decode cX10_mark 32 = .ok (.aload_n 0, 1) := by decide +kernel
theorem dX10_mark_33 : decode cX10_mark 33 = .ok (.iconst 1, 1) := by decide +kernel
theorem dX10_mark_34 : decode cX10_mark 34 = .ok (.iload_n 1, 1) := by decide +kernel
theorem dX10_mark_35 : decode cX10_mark 35 = .ok (.bipush 10, 2) := by decide +kernel
theorem dX10_mark_37 : decode cX10_mark 37 = .ok (.idiv, 1) := by decide +kernel
theorem dX10_mark_38 : decode cX10_mark 38 = .ok (.ishl, 1) := by decide +kernel
theorem dX10_mark_39 : decode cX10_mark 39 = .ok (.putfield 234, 3) := by decide +kernel
theorem dX10_mark_42 : decode cX10_mark 42 = .ok (.aload_n 0, 1) := by decide +kernel
theorem dX10_mark_43 : decode cX10_mark 43 = .ok (.iload_n 3, 1) := by decide +kernel
theorem dX10_mark_44 : decode cX10_mark 44 = .ok (.invokevirtual 261, 3) := by decide +kernel
theorem dX10_mark_47 : decode cX10_mark 47 = .ok (.aload_n 0, 1) := by decide +kernel
theorem dX10_mark_48 : decode cX10_mark 48 = .ok (.getfield 225, 3) := by decide +kernel
theorem dX10_mark_51 : decode cX10_mark 51 = .ok (.istore 4, 2) := by decide +kernel
theorem dX10_mark_53 : decode cX10_mark 53 = .ok (.aload_n 0, 1) := by decide +kernel
theorem dX10_mark_54 : decode cX10_mark 54 = .ok (.iconst 1, 1) := by decide +kernel
theorem dX10_mark_55 : decode cX10_mark 55 = .ok (.iload_n 1, 1) := by decide +kernel
theorem dX10_mark_56 : decode cX10_mark 56 = .ok (.bipush 10, 2) := by decide +kernel
theorem dX10_mark_58 : decode cX10_mark 58 = .ok (.irem, 1) := by decide +kernel
theorem dX10_mark_59 : decode cX10_mark 59 = .ok (.ishl, 1) := by decide +kernel
theorem dX10_mark_60 : decode cX10_mark 60 = .ok (.putfield 234, 3) := by decide +kernel
theorem dX10_mark_63 : decode cX10_mark 63 = .ok (.aload_n 0, 1) := by decide +kernel
theorem dX10_mark_64 : decode cX10_mark 64 = .ok (.bipush 99, 2) := by decide +kernel
theorem dX10_mark_66 : decode cX10_mark 66 = .ok (.iload_n 3, 1) := by decide +kernel
theorem dX10_mark_67 : decode cX10_mark 67 = .ok (.isub, 1) := by decide +kernel
theorem dX10_mark_68 : decode cX10_mark 68 = .ok (.invokevirtual 261, 3) := by decide +kernel
theorem dX10_mark_71 : decode cX10_mark 71 = .ok (.iload 4, 2) := by decide +kernel
theorem dX10_mark_73 : decode cX10_mark 73 = .ok (.iload_n 2, 1) := by decide +kernel
theorem dX10_mark_74 : decode cX10_mark 74 = .ok (.if_icmp .ge 29, 3) := by decide +kernel
theorem dX10_mark_77 : decode cX10_mark 77 = .ok (.aload_n 0, 1) := by decide +kernel
theorem dX10_mark_78 : decode cX10_mark 78 = .ok (.getfield 37, 3) := by decide +kernel
theorem dX10_mark_81 : decode cX10_mark 81 = .ok (.iload_n 1, 1) := by decide +kernel
theorem dX10_mark_82 : decode cX10_mark 82 = .ok (.bipush 10, 2) := by decide +kernel
theorem dX10_mark_84 : decode cX10_mark 84 = .ok (.idiv, 1) := by decide +kernel
theorem dX10_mark_85 : decode cX10_mark 85 = .ok (.iaload, 1) := by decide +kernel
theorem dX10_mark_86 : decode cX10_mark 86 = .ok (.aload_n 0, 1) := by decide +kernel
theorem dX10_mark_87 : decode cX10_mark 87 = .ok (.getfield 37, 3) := by decide +kernel
theorem dX10_mark_90 : decode cX10_mark 90 = .ok (.iload_n 1, 1) := by decide +kernel
theorem dX10_mark_91 : decode cX10_mark 91 = .ok (.bipush 10, 2) := by decide +kernel
theorem dX10_mark_93 : decode cX10_mark 93 = .ok (.irem, 1) := by decide +kernel
theorem dX10_mark_94 : decode cX10_mark 94 = .ok (.iaload, 1) := by decide +kernel
theorem dX10_mark_95 : decode cX10_mark 95 = .ok (.if_icmp .gt 8, 3) := by decide +kernel
theorem dX10_mark_98 : decode cX10_mark 98 = .ok (.iload 4, 2) := by decide +kernel
theorem dX10_mark_100 : decode cX10_mark 100 = .ok (.goto 4, 3) := by decide +kernel
theorem dX10_mark_103 : decode cX10_mark 103 = .ok (.iload_n 2, 1) := by decide +kernel
theorem dX10_mark_104 : decode cX10_mark 104 = .ok (.istore_n 2, 1) := by decide +kernel
theorem dX10_mark_105 : decode cX10_mark 105 = .ok (.iinc 3 1, 3) := by decide +kernel
theorem dX10_mark_108 : decode cX10_mark 108 = .ok (.goto (-91), 3) := by decide +kernel
theorem dX10_mark_111 : decode cX10_mark 111 = .ok (.iload_n 2, 1) := by decide +kernel
theorem dX10_mark_112 : decode cX10_mark 112 = .ok (.ireturn, 1) := by decide +kernel
theorem dX10_alone_0 : decode cX10_alone 0 = .ok (.aload_n 0, 1) := by decide +kernel
theorem dX10_alone_1 : decode cX10_alone 1 = .ok (.invokevirtual 258, 3) := by decide +kernel
theorem dX10_alone_4 : decode cX10_alone 4 = .ok (.aload_n 0, 1) := by decide +kernel
theorem dX10_alone_5 : decode cX10_alone 5 = .ok (.iconst 1, 1) := by decide +kernel
theorem dX10_alone_6 : decode cX10_alone 6 = .ok (.putfield 237, 3) := by decide +kernel
theorem dX10_alone_9 : decode cX10_alone 9 = .ok (.aload_n 0, 1) := by decide +kernel
theorem dX10_alone_10 : decode cX10_alone 10 = .ok (.iload_n 2, 1) := by decide +kernel
theorem dX10_alone_11 : decode cX10_alone 11 = .ok (.putfield 225, 3) := by decide +kernel
theorem dX10_alone_14 : decode cX10_alone 14 = .ok (.aload_n 0, 1) := by decide +kernel
theorem dX10_alone_15 : decode cX10_alone 15 = .ok (.iconst 0, 1) := by decide +kernel
theorem dX10_alone_16 : decode cX10_alone 16 = .ok (.putfield 228, 3) := by decide +kernel
theorem dX10_alone_19 : decode cX10_alone 19 = .ok (.aload_n 0, 1) := by decide +kernel
theorem dX10_alone_20 : decode cX10_alone 20 = .ok (.iconst 1, 1) := by decide +kernel
theorem dX10_alone_21 : decode cX10_alone 21 = .ok (.iload_n 1, 1) := by decide +kernel
theorem dX10_alone_22 : decode cX10_alone 22 = .ok (.ishl, 1) := by decide +kernel
theorem dX10_alone_23 : decode cX10_alone 23 = .ok (.putfield 234, 3) := by decide +kernel
theorem dX10_alone_26 : decode cX10_alone 26 = .ok (.aload_n 0, 1) := by decide +kernel
theorem dX10_alone_27 : decode cX10_alone 27 = .ok (.bipush 60, 2) := by decide +kernel
theorem dX10_alone_29 : decode cX10_alone 29 = .ok (.invokevirtual 261, 3) := by decide +kernel
theorem dX10_alone_32 : decode cX10_alone 32 = .ok (.aload_n 0, 1) := by decide +kernel
theorem dX10_alone_33 : decode cX10_alone 33 = .ok (.getfield 37, 3) := by decide +kernel
theorem dX10_alone_36 : decode cX10_alone 36 = .ok (.iload_n 1, 1) := by decide +kernel
theorem dX10_alone_37 : decode cX10_alone 37 = .ok (.iaload, 1) := by decide +kernel
theorem dX10_alone_38 : decode cX10_alone 38 = .ok (.ireturn, 1) := by decide +kernel
theorem dX10_halves_0 : decode cX10_halves 0 = .ok (.aload_n 0, 1) := by decide +kernel
theorem dX10_halves_1 : decode cX10_halves 1 = .ok (.iload_n 1, 1) := by decide +kernel
theorem dX10_halves_2 : decode cX10_halves 2 = .ok (.invokevirtual 272, 3) := by decide +kernel
theorem dX10_halves_5 : decode cX10_halves 5 = .ok (.ifCond .eq 15, 3) := by decide +kernel
theorem dX10_halves_8 : decode cX10_halves 8 = .ok (.iload_n 2, 1) := by decide +kernel
theorem dX10_halves_9 : decode cX10_halves 9 = .ok (.i2l, 1) := by decide +kernel
theorem dX10_halves_10 : decode cX10_halves 10 = .ok (.lconst 0, 1) := by decide +kernel
theorem dX10_halves_11 : decode cX10_halves 11 = .ok (.ldc2_w 256, 3) := by decide +kernel
theorem dX10_halves_14 : decode cX10_halves 14 = .ok (.invokestatic 105, 3) := by decide +kernel
theorem dX10_halves_17 : decode cX10_halves 17 = .ok (.ifCond .ne 5, 3) := by decide +kernel
theorem dX10_halves_20 : decode cX10_halves 20 = .ok (.iconst (-1), 1) := by decide +kernel
theorem dX10_halves_21 : decode cX10_halves 21 = .ok (.ireturn, 1) := by decide +kernel
theorem dX10_halves_22 : decode cX10_halves 22 = .ok (.iconst 0, 1) := by decide +kernel
theorem dX10_halves_23 : decode cX10_halves 23 = .ok (.istore_n 3, 1) := by decide +kernel
theorem dX10_halves_24 : decode cX10_halves 24 = .ok (.iload_n 3, 1) := by decide +kernel
theorem dX10_halves_25 : decode cX10_halves 25 = .ok (.aload_n 0, 1) := by decide +kernel
theorem dX10_halves_26 : decode cX10_halves 26 = .ok (.getfield 93, 3) := by decide +kernel
theorem dX10_halves_29 : decode cX10_halves 29 = .ok (.if_icmp .gt 39, 3) := by decide +kernel
theorem dX10_halves_32 : decode cX10_halves 32 = .ok (.aload_n 0, 1) := by decide +kernel
theorem dX10_halves_33 : decode cX10_halves 33 = .ok (.getfield 46, 3) := by decide +kernel
theorem dX10_halves_36 : decode cX10_halves 36 = .ok (.iload_n 3, 1) := by decide +kernel
theorem dX10_halves_37 : decode cX10_halves 37 = .ok (.aload_n 0, 1) := by decide +kernel
theorem dX10_halves_38 : decode cX10_halves 38 = .ok (.iload_n 1, 1) := by decide +kernel
theorem dX10_halves_39 : decode cX10_halves 39 = .ok (.bipush 10, 2) := by decide +kernel
theorem dX10_halves_41 : decode cX10_halves 41 = .ok (.idiv, 1) := by decide +kernel
theorem dX10_halves_42 : decode cX10_halves 42 = .ok (.iload_n 3, 1) := by decide +kernel
theorem dX10_halves_43 : decode cX10_halves 43 = .ok (.invokevirtual 275, 3) := by decide +kernel
theorem dX10_halves_46 : decode cX10_halves 46 = .ok (.iastore, 1) := by decide +kernel
theorem dX10_halves_47 : decode cX10_halves 47 = .ok (.aload_n 0, 1) := by decide +kernel
theorem dX10_halves_48 : decode cX10_halves 48 = .ok (.getfield 49, 3) := by decide +kernel
theorem dX10_halves_51 : decode cX10_halves 51 = .ok (.iload_n 3, 1) := by decide +kernel
theorem dX10_halves_52 : decode cX10_halves 52 = .ok (.aload_n 0, 1) := by decide +kernel
theorem dX10_halves_53 : decode cX10_halves 53 = .ok (.iload_n 1, 1) := by decide +kernel
theorem dX10_halves_54 : decode cX10_halves 54 = .ok (.bipush 10, 2) := by decide +kernel
theorem dX10_halves_56 : decode cX10_halves 56 = .ok (.irem, 1) := by decide +kernel
theorem dX10_halves_57 : decode cX10_halves 57 = .ok (.iload_n 3, 1) := by decide +kernel
theorem dX10_halves_58 : decode cX10_halves 58 = .ok (.invokevirtual 275, 3) := by decide +kernel
theorem dX10_halves_61 : decode cX10_halves 61 = .ok (.iastore, 1) := by decide +kernel
theorem dX10_halves_62 : decode cX10_halves 62 = .ok (.iinc 3 1, 3) := by decide +kernel
theorem dX10_halves_65 : decode cX10_halves 65 = .ok (.goto (-41), 3) := by decide +kernel
theorem dX10_halves_68 : decode cX10_halves 68 = .ok (.iconst 0, 1) := by decide +kernel
theorem dX10_halves_69 : decode cX10_halves 69 = .ok (.istore_n 3, 1) := by decide +kernel
theorem dX10_halves_70 : decode cX10_halves 70 = .ok (.iconst (-1), 1) := by decide +kernel
theorem dX10_halves_71 : decode cX10_halves 71 = .ok (.istore 4, 2) := by decide +kernel
theorem dX10_halves_73 : decode cX10_halves 73 = .ok (.iconst 0, 1) := by decide +kernel
theorem dX10_halves_74 : decode cX10_halves 74 = .ok (.istore 5, 2) := by decide +kernel
theorem dX10_halves_76 : decode cX10_halves 76 = .ok (.iconst 0, 1) := by decide +kernel
theorem dX10_halves_77 : decode cX10_halves 77 = .ok (.istore 6, 2) := by decide +kernel
theorem dX10_halves_79 : decode cX10_halves 79 = .ok (.iload 6, 2) := by decide +kernel
theorem dX10_halves_81 : decode cX10_halves 81 = .ok (.aload_n 0, 1) := by decide +kernel
theorem dX10_halves_82 : decode cX10_halves 82 = .ok (.getfield 93, 3) := by decide +kernel
theorem dX10_halves_85 : decode cX10_halves 85 = .ok (.if_icmp .gt 110, 3) := by decide +kernel
theorem dX10_halves_88 : decode cX10_halves 88 = .ok (.aload_n 0, 1) := by decide +kernel
theorem dX10_halves_89 : decode cX10_halves 89 = .ok (.getfield 49, 3) := by decide +kernel
theorem dX10_halves_92 : decode cX10_halves 92 = .ok (.iload 6, 2) := by decide +kernel
theorem dX10_halves_94 : decode cX10_halves 94 = .ok (.iaload, 1) := by decide +kernel
theorem dX10_halves_95 : decode cX10_halves 95 = .ok (.aload_n 0, 1) := by decide +kernel
theorem dX10_halves_96 : decode cX10_halves 96 = .ok (.getfield 49, 3) := by decide +kernel
theorem dX10_halves_99 : decode cX10_halves 99 = .ok (.aload_n 0, 1) := by decide +kernel
theorem dX10_halves_100 : decode cX10_halves 100 = .ok (.getfield 93, 3) := by decide +kernel
theorem dX10_halves_103 : decode cX10_halves 103 = .ok (.iload 6, 2) := by decide +kernel
theorem dX10_halves_105 : decode cX10_halves 105 = .ok (.isub, 1) := by decide +kernel
theorem dX10_halves_106 : decode cX10_halves 106 = .ok (.iaload, 1) := by decide +kernel
theorem dX10_halves_107 : decode cX10_halves 107 = .ok (.if_icmp .lt 7, 3) := by decide +kernel
theorem dX10_halves_110 : decode cX10_halves 110 = .ok (.iconst 1, 1) := by decide +kernel
theorem dX10_halves_111 : decode cX10_halves 111 = .ok (.goto 4, 3) := by decide +kernel
theorem dX10_halves_114 : decode cX10_halves 114 = .ok (.iconst 0, 1) := by decide +kernel
theorem dX10_halves_115 : decode cX10_halves 115 = .ok (.istore 7, 2) := by decide +kernel
theorem dX10_halves_117 : decode cX10_halves 117 = .ok (.iload 7, 2) := by decide +kernel
theorem dX10_halves_119 : decode cX10_halves 119 = .ok (.ifCond .eq 18, 3) := by decide +kernel
theorem dX10_halves_122 : decode cX10_halves 122 = .ok (.aload_n 0, 1) := by decide +kernel
theorem dX10_halves_123 : decode cX10_halves 123 = .ok (.getfield 46, 3) := by decide +kernel
theorem dX10_halves_126 : decode cX10_halves 126 = .ok (.aload_n 0, 1) := by decide +kernel
theorem dX10_halves_127 : decode cX10_halves 127 = .ok (.getfield 93, 3) := by decide +kernel
theorem dX10_halves_130 : decode cX10_halves 130 = .ok (.iload 6, 2) := by decide +kernel
theorem dX10_halves_132 : decode cX10_halves 132 = .ok (.isub, 1) := by decide +kernel
theorem dX10_halves_133 : decode cX10_halves 133 = .ok (.iaload, 1) := by decide +kernel
theorem dX10_halves_134 : decode cX10_halves 134 = .ok (.goto 10, 3) := by decide +kernel
theorem dX10_halves_137 : decode cX10_halves 137 = .ok (.aload_n 0, 1) := by decide +kernel
theorem dX10_halves_138 : decode cX10_halves 138 = .ok (.getfield 46, 3) := by decide +kernel
theorem dX10_halves_141 : decode cX10_halves 141 = .ok (.iload 6, 2) := by decide +kernel
theorem dX10_halves_143 : decode cX10_halves 143 = .ok (.iaload, 1) := by decide +kernel
theorem dX10_halves_144 : decode cX10_halves 144 = .ok (.istore 8, 2) := by decide +kernel
theorem dX10_halves_146 : decode cX10_halves 146 = .ok (.iload 8, 2) := by decide +kernel
theorem dX10_halves_148 : decode cX10_halves 148 = .ok (.iload 4, 2) := by decide +kernel
theorem dX10_halves_150 : decode cX10_halves 150 = .ok (.if_icmp .le 39, 3) := by decide +kernel
theorem dX10_halves_153 : decode cX10_halves 153 = .ok (.iload 6, 2) := by decide +kernel
theorem dX10_halves_155 : decode cX10_halves 155 = .ok (.istore_n 3, 1) := by decide +kernel
theorem dX10_halves_156 : decode cX10_halves 156 = .ok (.iload 8, 2) := by decide +kernel
theorem dX10_halves_158 : decode cX10_halves 158 = .ok (.istore 4, 2) := by decide +kernel
theorem dX10_halves_160 : decode cX10_halves 160 = .ok (.iload 7, 2) := by decide +kernel
theorem dX10_halves_162 : decode cX10_halves 162 = .ok (.ifCond .eq 13, 3) := by decide +kernel
theorem dX10_halves_165 : decode cX10_halves 165 = .ok (.aload_n 0, 1) := by decide +kernel
theorem dX10_halves_166 : decode cX10_halves 166 = .ok (.getfield 49, 3) := by decide +kernel
theorem dX10_halves_169 : decode cX10_halves 169 = .ok (.iload 6, 2) := by decide +kernel
theorem dX10_halves_171 : decode cX10_halves 171 = .ok (.iaload, 1) := by decide +kernel
theorem dX10_halves_172 : decode cX10_halves 172 = .ok (.goto 15, 3) := by decide +kernel
theorem dX10_halves_175 : decode cX10_halves 175 = .ok (.aload_n 0, 1) := by decide +kernel
theorem dX10_halves_176 : decode cX10_halves 176 = .ok (.getfield 49, 3) := by decide +kernel
theorem dX10_halves_179 : decode cX10_halves 179 = .ok (.aload_n 0, 1) := by decide +kernel
theorem dX10_halves_180 : decode cX10_halves 180 = .ok (.getfield 93, 3) := by decide +kernel
theorem dX10_halves_183 : decode cX10_halves 183 = .ok (.iload 6, 2) := by decide +kernel
theorem dX10_halves_185 : decode cX10_halves 185 = .ok (.isub, 1) := by decide +kernel
theorem dX10_halves_186 : decode cX10_halves 186 = .ok (.iaload, 1) := by decide +kernel
theorem dX10_halves_187 : decode cX10_halves 187 = .ok (.istore 5, 2) := by decide +kernel
theorem dX10_halves_189 : decode cX10_halves 189 = .ok (.iinc 6 1, 3) := by decide +kernel
theorem dX10_halves_192 : decode cX10_halves 192 = .ok (.goto (-113), 3) := by decide +kernel
theorem dX10_halves_195 : decode cX10_halves 195 = .ok (.iload_n 2, 1) := by decide +kernel
theorem dX10_halves_196 : decode cX10_halves 196 = .ok (.ifCond .ne 7, 3) := by decide +kernel
theorem dX10_halves_199 : decode cX10_halves 199 = .ok (.iload_n 3, 1) := by decide +kernel
theorem dX10_halves_200 : decode cX10_halves 200 = .ok (.goto 15, 3) := by decide +kernel
theorem dX10_halves_203 : decode cX10_halves 203 = .ok (.iload_n 2, 1) := by decide +kernel
theorem dX10_halves_204 : decode cX10_halves 204 = .ok (.iconst 1, 1) := by decide +kernel
theorem dX10_halves_205 : decode cX10_halves 205 = .ok (.if_icmp .ne 8, 3) := by decide +kernel
theorem dX10_halves_208 : decode cX10_halves 208 = .ok (.iload 4, 2) := by decide +kernel
theorem dX10_halves_210 : decode cX10_halves 210 = .ok (.goto 5, 3) := by decide +kernel
theorem dX10_halves_213 : decode cX10_halves 213 = .ok (.iload 5, 2) := by decide +kernel
theorem dX10_halves_215 : decode cX10_halves 215 = .ok (.ireturn, 1) := by decide +kernel
theorem dX10_isSoon_0 : decode cX10_isSoon 0 = .ok (.iload_n 0, 1) := by decide +kernel
theorem dX10_isSoon_1 : decode cX10_isSoon 1 = .ok (.i2l, 1) := by decide +kernel
theorem dX10_isSoon_2 : decode cX10_isSoon 2 = .ok (.lconst 0, 1) := by decide +kernel
theorem dX10_isSoon_3 : decode cX10_isSoon 3 = .ok (.ldc2_w 139, 3) := by decide +kernel
theorem dX10_isSoon_6 : decode cX10_isSoon 6 = .ok (.invokestatic 105, 3) := by decide +kernel
theorem dX10_isSoon_9 : decode cX10_isSoon 9 = .ok (.ireturn, 1) := by decide +kernel
theorem dX10_gets_0 : decode cX10_gets 0 = .ok (.aload_n 0, 1) := by decide +kernel
theorem dX10_gets_1 : decode cX10_gets 1 = .ok (.invokevirtual 258, 3) := by decide +kernel
theorem dX10_gets_4 : decode cX10_gets 4 = .ok (.aload_n 0, 1) := by decide +kernel
theorem dX10_gets_5 : decode cX10_gets 5 = .ok (.iload_n 2, 1) := by decide +kernel
theorem dX10_gets_6 : decode cX10_gets 6 = .ok (.invokevirtual 261, 3) := by decide +kernel
theorem dX10_gets_9 : decode cX10_gets 9 = .ok (.aload_n 0, 1) := by decide +kernel
theorem dX10_gets_10 : decode cX10_gets 10 = .ok (.getfield 37, 3) := by decide +kernel
theorem dX10_gets_13 : decode cX10_gets 13 = .ok (.iload_n 1, 1) := by decide +kernel
theorem dX10_gets_14 : decode cX10_gets 14 = .ok (.iaload, 1) := by decide +kernel
theorem dX10_gets_15 : decode cX10_gets 15 = .ok (.ireturn, 1) := by decide +kernel
theorem dX10_reachFor_0 : decode cX10_reachFor 0 = .ok (.aload_n 0, 1) := by decide +kernel
theorem dX10_reachFor_1 : decode cX10_reachFor 1 = .ok (.iload_n 1, 1) := by decide +kernel
theorem dX10_reachFor_2 : decode cX10_reachFor 2 = .ok (.invokevirtual 130, 3) := by decide +kernel
theorem dX10_reachFor_5 : decode cX10_reachFor 5 = .ok (.ifCond .eq 22, 3) := by decide +kernel
theorem dX10_reachFor_8 : decode cX10_reachFor 8 = .ok (.iload_n 2, 1) := by decide +kernel
theorem dX10_reachFor_9 : decode cX10_reachFor 9 = .ok (.invokestatic 278, 3) := by decide +kernel
theorem dX10_reachFor_12 : decode cX10_reachFor 12 = .ok (.ifCond .eq 15, 3) := by decide +kernel
theorem dX10_reachFor_15 : decode cX10_reachFor 15 = .ok (.iload_n 3, 1) := by decide +kernel
theorem dX10_reachFor_16 : decode cX10_reachFor 16 = .ok (.i2l, 1) := by decide +kernel
theorem dX10_reachFor_17 : decode cX10_reachFor 17 = .ok (.lconst 0, 1) := by decide +kernel
theorem dX10_reachFor_18 : decode cX10_reachFor 18 = .ok (.ldc2_w 115, 3) := by decide +kernel
theorem dX10_reachFor_21 : decode cX10_reachFor 21 = .ok (.invokestatic 105, 3) := by decide +kernel
theorem dX10_reachFor_24 : decode cX10_reachFor 24 = .ok (.ifCond .ne 5, 3) := by decide +kernel
theorem dX10_reachFor_27 : decode cX10_reachFor 27 = .ok (.iconst (-1), 1) := by decide +kernel
theorem dX10_reachFor_28 : decode cX10_reachFor 28 = .ok (.ireturn, 1) := by decide +kernel
theorem dX10_reachFor_29 : decode cX10_reachFor 29 = .ok (.bipush 8, 2) := by decide +kernel
theorem dX10_reachFor_31 : decode cX10_reachFor 31 = .ok (.iload_n 1, 1) := by decide +kernel
theorem dX10_reachFor_32 : decode cX10_reachFor 32 = .ok (.imul, 1) := by decide +kernel
theorem dX10_reachFor_33 : decode cX10_reachFor 33 = .ok (.iconst 2, 1) := by decide +kernel
theorem dX10_reachFor_34 : decode cX10_reachFor 34 = .ok (.iadd, 1) := by decide +kernel
theorem dX10_reachFor_35 : decode cX10_reachFor 35 = .ok (.istore 4, 2) := by decide +kernel
theorem dX10_reachFor_37 : decode cX10_reachFor 37 = .ok (.aload_n 0, 1) := by decide +kernel
theorem dX10_reachFor_38 : decode cX10_reachFor 38 = .ok (.getfield 9, 3) := by decide +kernel
theorem dX10_reachFor_41 : decode cX10_reachFor 41 = .ok (.iload 4, 2) := by decide +kernel
theorem dX10_reachFor_43 : decode cX10_reachFor 43 = .ok (.iaload, 1) := by decide +kernel
theorem dX10_reachFor_44 : decode cX10_reachFor 44 = .ok (.istore 5, 2) := by decide +kernel
theorem dX10_reachFor_46 : decode cX10_reachFor 46 = .ok (.iconst 0, 1) := by decide +kernel
theorem dX10_reachFor_47 : decode cX10_reachFor 47 = .ok (.istore 6, 2) := by decide +kernel
theorem dX10_reachFor_49 : decode cX10_reachFor 49 = .ok (.iconst (-1), 1) := by decide +kernel
theorem dX10_reachFor_50 : decode cX10_reachFor 50 = .ok (.istore 7, 2) := by decide +kernel
theorem dX10_reachFor_52 : decode cX10_reachFor 52 = .ok (.iconst 0, 1) := by decide +kernel
theorem dX10_reachFor_53 : decode cX10_reachFor 53 = .ok (.istore 8, 2) := by decide +kernel
theorem dX10_reachFor_55 : decode cX10_reachFor 55 = .ok (.iload 8, 2) := by decide +kernel
theorem dX10_reachFor_57 : decode cX10_reachFor 57 = .ok (.sipush 999, 3) := by decide +kernel
theorem dX10_reachFor_60 : decode cX10_reachFor 60 = .ok (.if_icmp .gt 77, 3) := by decide +kernel
theorem dX10_reachFor_63 : decode cX10_reachFor 63 = .ok (.aload_n 0, 1) := by decide +kernel
theorem dX10_reachFor_64 : decode cX10_reachFor 64 = .ok (.getfield 9, 3) := by decide +kernel
theorem dX10_reachFor_67 : decode cX10_reachFor 67 = .ok (.iload 4, 2) := by decide +kernel
theorem dX10_reachFor_69 : decode cX10_reachFor 69 = .ok (.iload 8, 2) := by decide +kernel
theorem dX10_reachFor_71 : decode cX10_reachFor 71 = .ok (.iastore, 1) := by decide +kernel
theorem dX10_reachFor_72 : decode cX10_reachFor 72 = .ok (.aload_n 0, 1) := by decide +kernel
theorem dX10_reachFor_73 : decode cX10_reachFor 73 = .ok (.iload_n 1, 1) := by decide +kernel
theorem dX10_reachFor_74 : decode cX10_reachFor 74 = .ok (.iload_n 2, 1) := by decide +kernel
theorem dX10_reachFor_75 : decode cX10_reachFor 75 = .ok (.invokevirtual 281, 3) := by decide +kernel
theorem dX10_reachFor_78 : decode cX10_reachFor 78 = .ok (.istore 9, 2) := by decide +kernel
theorem dX10_reachFor_80 : decode cX10_reachFor 80 = .ok (.iload_n 3, 1) := by decide +kernel
theorem dX10_reachFor_81 : decode cX10_reachFor 81 = .ok (.iconst 2, 1) := by decide +kernel
theorem dX10_reachFor_82 : decode cX10_reachFor 82 = .ok (.if_icmp .ge 8, 3) := by decide +kernel
theorem dX10_reachFor_85 : decode cX10_reachFor 85 = .ok (.iload 9, 2) := by decide +kernel
theorem dX10_reachFor_87 : decode cX10_reachFor 87 = .ok (.goto 10, 3) := by decide +kernel
theorem dX10_reachFor_90 : decode cX10_reachFor 90 = .ok (.aload_n 0, 1) := by decide +kernel
theorem dX10_reachFor_91 : decode cX10_reachFor 91 = .ok (.iload_n 1, 1) := by decide +kernel
theorem dX10_reachFor_92 : decode cX10_reachFor 92 = .ok (.iload 9, 2) := by decide +kernel
theorem dX10_reachFor_94 : decode cX10_reachFor 94 = .ok (.invokevirtual 265, 3) := by decide +kernel
theorem dX10_reachFor_97 : decode cX10_reachFor 97 = .ok (.istore 9, 2) := by decide +kernel
theorem dX10_reachFor_99 : decode cX10_reachFor 99 = .ok (.iload 9, 2) := by decide +kernel
theorem dX10_reachFor_101 : decode cX10_reachFor 101 = .ok (.iload 7, 2) := by decide +kernel
theorem dX10_reachFor_103 : decode cX10_reachFor 103 = .ok (.if_icmp .le 8, 3) := by decide +kernel
theorem dX10_reachFor_106 : decode cX10_reachFor 106 = .ok (.iload 8, 2) := by decide +kernel
theorem dX10_reachFor_108 : decode cX10_reachFor 108 = .ok (.goto 5, 3) := by decide +kernel
theorem dX10_reachFor_111 : decode cX10_reachFor 111 = .ok (.iload 6, 2) := by decide +kernel
theorem dX10_reachFor_113 : decode cX10_reachFor 113 = .ok (.istore 6, 2) := by decide +kernel
theorem dX10_reachFor_115 : decode cX10_reachFor 115 = .ok (.iload 9, 2) := by decide +kernel
theorem dX10_reachFor_117 : decode cX10_reachFor 117 = .ok (.iload 7, 2) := by decide +kernel
theorem dX10_reachFor_119 : decode cX10_reachFor 119 = .ok (.if_icmp .le 8, 3) := by decide +kernel
theorem dX10_reachFor_122 : decode cX10_reachFor 122 = .ok (.iload 9, 2) := by decide +kernel
theorem dX10_reachFor_124 : decode cX10_reachFor 124 = .ok (.goto 5, 3) := by decide +kernel
theorem dX10_reachFor_127 : decode cX10_reachFor 127 = .ok (.iload 7, 2) := by decide +kernel
theorem dX10_reachFor_129 : decode cX10_reachFor 129 = .ok (.istore 7, 2) := by decide +kernel
theorem dX10_reachFor_131 : decode cX10_reachFor 131 = .ok (.iinc 8 1, 3) := by decide +kernel
theorem dX10_reachFor_134 : decode cX10_reachFor 134 = .ok (.goto (-79), 3) := by decide +kernel
theorem dX10_reachFor_137 : decode cX10_reachFor 137 = .ok (.aload_n 0, 1) := by decide +kernel
theorem dX10_reachFor_138 : decode cX10_reachFor 138 = .ok (.getfield 9, 3) := by decide +kernel
theorem dX10_reachFor_141 : decode cX10_reachFor 141 = .ok (.iload 4, 2) := by decide +kernel
theorem dX10_reachFor_143 : decode cX10_reachFor 143 = .ok (.iload 5, 2) := by decide +kernel
theorem dX10_reachFor_145 : decode cX10_reachFor 145 = .ok (.iastore, 1) := by decide +kernel
theorem dX10_reachFor_146 : decode cX10_reachFor 146 = .ok (.iload_n 3, 1) := by decide +kernel
theorem dX10_reachFor_147 : decode cX10_reachFor 147 = .ok (.iconst 2, 1) := by decide +kernel
theorem dX10_reachFor_148 : decode cX10_reachFor 148 = .ok (.irem, 1) := by decide +kernel
theorem dX10_reachFor_149 : decode cX10_reachFor 149 = .ok (.ifCond .ne 8, 3) := by decide +kernel
theorem dX10_reachFor_152 : decode cX10_reachFor 152 = .ok (.iload 6, 2) := by decide +kernel
theorem dX10_reachFor_154 : decode cX10_reachFor 154 = .ok (.goto 5, 3) := by decide +kernel
theorem dX10_reachFor_157 : decode cX10_reachFor 157 = .ok (.iload 7, 2) := by decide +kernel
theorem dX10_reachFor_159 : decode cX10_reachFor 159 = .ok (.ireturn, 1) := by decide +kernel
theorem dX10_slow_0 : decode cX10_slow 0 = .ok (.aload_n 0, 1) := by decide +kernel
theorem dX10_slow_1 : decode cX10_slow 1 = .ok (.iload_n 1, 1) := by decide +kernel
theorem dX10_slow_2 : decode cX10_slow 2 = .ok (.invokevirtual 130, 3) := by decide +kernel
theorem dX10_slow_5 : decode cX10_slow 5 = .ok (.ifCond .eq 10, 3) := by decide +kernel
theorem dX10_slow_8 : decode cX10_slow 8 = .ok (.iload_n 2, 1) := by decide +kernel
theorem dX10_slow_9 : decode cX10_slow 9 = .ok (.invokestatic 278, 3) := by decide +kernel
theorem dX10_slow_12 : decode cX10_slow 12 = .ok (.ifCond .ne 5, 3) := by decide +kernel
theorem dX10_slow_15 : decode cX10_slow 15 = .ok (.iconst (-1), 1) := by decide +kernel
theorem dX10_slow_16 : decode cX10_slow 16 = .ok (.ireturn, 1) := by decide +kernel
theorem dX10_slow_17 : decode cX10_slow 17 = .ok (.bipush 8, 2) := by decide +kernel
theorem dX10_slow_19 : decode cX10_slow 19 = .ok (.iload_n 1, 1) := by decide +kernel
theorem dX10_slow_20 : decode cX10_slow 20 = .ok (.imul, 1) := by decide +kernel
theorem dX10_slow_21 : decode cX10_slow 21 = .ok (.iconst 0, 1) := by decide +kernel
theorem dX10_slow_22 : decode cX10_slow 22 = .ok (.iadd, 1) := by decide +kernel
theorem dX10_slow_23 : decode cX10_slow 23 = .ok (.istore_n 3, 1) := by decide +kernel
theorem dX10_slow_24 : decode cX10_slow 24 = .ok (.aload_n 0, 1) := by decide +kernel
theorem dX10_slow_25 : decode cX10_slow 25 = .ok (.getfield 9, 3) := by decide +kernel
theorem dX10_slow_28 : decode cX10_slow 28 = .ok (.iload_n 3, 1) := by decide +kernel
theorem dX10_slow_29 : decode cX10_slow 29 = .ok (.iaload, 1) := by decide +kernel
theorem dX10_slow_30 : decode cX10_slow 30 = .ok (.istore 4, 2) := by decide +kernel
theorem dX10_slow_32 : decode cX10_slow 32 = .ok (.iconst 0, 1) := by decide +kernel
theorem dX10_slow_33 : decode cX10_slow 33 = .ok (.istore 5, 2) := by decide +kernel
theorem dX10_slow_35 : decode cX10_slow 35 = .ok (.iconst (-1), 1) := by decide +kernel
theorem dX10_slow_36 : decode cX10_slow 36 = .ok (.istore 6, 2) := by decide +kernel
theorem dX10_slow_38 : decode cX10_slow 38 = .ok (.iconst 0, 1) := by decide +kernel
theorem dX10_slow_39 : decode cX10_slow 39 = .ok (.istore 7, 2) := by decide +kernel
theorem dX10_slow_41 : decode cX10_slow 41 = .ok (.iload 7, 2) := by decide +kernel
theorem dX10_slow_43 : decode cX10_slow 43 = .ok (.iload 4, 2) := by decide +kernel
theorem dX10_slow_45 : decode cX10_slow 45 = .ok (.if_icmp .gt 57, 3) := by decide +kernel
theorem dX10_slow_48 : decode cX10_slow 48 = .ok (.aload_n 0, 1) := by decide +kernel
theorem dX10_slow_49 : decode cX10_slow 49 = .ok (.getfield 9, 3) := by decide +kernel
theorem dX10_slow_52 : decode cX10_slow 52 = .ok (.iload_n 3, 1) := by decide +kernel
theorem dX10_slow_53 : decode cX10_slow 53 = .ok (.iload 7, 2) := by decide +kernel
theorem dX10_slow_55 : decode cX10_slow 55 = .ok (.iastore, 1) := by decide +kernel
theorem dX10_slow_56 : decode cX10_slow 56 = .ok (.aload_n 0, 1) := by decide +kernel
theorem dX10_slow_57 : decode cX10_slow 57 = .ok (.iload_n 1, 1) := by decide +kernel
theorem dX10_slow_58 : decode cX10_slow 58 = .ok (.iload_n 2, 1) := by decide +kernel
theorem dX10_slow_59 : decode cX10_slow 59 = .ok (.invokevirtual 281, 3) := by decide +kernel
theorem dX10_slow_62 : decode cX10_slow 62 = .ok (.istore 8, 2) := by decide +kernel
theorem dX10_slow_64 : decode cX10_slow 64 = .ok (.iload 8, 2) := by decide +kernel
theorem dX10_slow_66 : decode cX10_slow 66 = .ok (.iload 6, 2) := by decide +kernel
theorem dX10_slow_68 : decode cX10_slow 68 = .ok (.if_icmp .le 8, 3) := by decide +kernel
theorem dX10_slow_71 : decode cX10_slow 71 = .ok (.iload 7, 2) := by decide +kernel
theorem dX10_slow_73 : decode cX10_slow 73 = .ok (.goto 5, 3) := by decide +kernel
theorem dX10_slow_76 : decode cX10_slow 76 = .ok (.iload 5, 2) := by decide +kernel
theorem dX10_slow_78 : decode cX10_slow 78 = .ok (.istore 5, 2) := by decide +kernel
theorem dX10_slow_80 : decode cX10_slow 80 = .ok (.iload 8, 2) := by decide +kernel
theorem dX10_slow_82 : decode cX10_slow 82 = .ok (.iload 6, 2) := by decide +kernel
theorem dX10_slow_84 : decode cX10_slow 84 = .ok (.if_icmp .le 8, 3) := by decide +kernel
theorem dX10_slow_87 : decode cX10_slow 87 = .ok (.iload 8, 2) := by decide +kernel
theorem dX10_slow_89 : decode cX10_slow 89 = .ok (.goto 5, 3) := by decide +kernel
theorem dX10_slow_92 : decode cX10_slow 92 = .ok (.iload 6, 2) := by decide +kernel
theorem dX10_slow_94 : decode cX10_slow 94 = .ok (.istore 6, 2) := by decide +kernel
theorem dX10_slow_96 : decode cX10_slow 96 = .ok (.iinc 7 1, 3) := by decide +kernel
theorem dX10_slow_99 : decode cX10_slow 99 = .ok (.goto (-58), 3) := by decide +kernel
theorem dX10_slow_102 : decode cX10_slow 102 = .ok (.aload_n 0, 1) := by decide +kernel
theorem dX10_slow_103 : decode cX10_slow 103 = .ok (.getfield 9, 3) := by decide +kernel
theorem dX10_slow_106 : decode cX10_slow 106 = .ok (.iload_n 3, 1) := by decide +kernel
theorem dX10_slow_107 : decode cX10_slow 107 = .ok (.iload 4, 2) := by decide +kernel
theorem dX10_slow_109 : decode cX10_slow 109 = .ok (.iastore, 1) := by decide +kernel
theorem dX10_slow_110 : decode cX10_slow 110 = .ok (.iload 5, 2) := by decide +kernel
theorem dX10_slow_112 : decode cX10_slow 112 = .ok (.ireturn, 1) := by decide +kernel
theorem dX10_isSelf_0 : decode cX10_isSelf 0 = .ok (.iconst 0, 1) := by decide +kernel
theorem dX10_isSelf_1 : decode cX10_isSelf 1 = .ok (.istore 5, 2) := by decide +kernel
theorem dX10_isSelf_3 : decode cX10_isSelf 3 = .ok (.iload 5, 2) := by decide +kernel
theorem dX10_isSelf_5 : decode cX10_isSelf 5 = .ok (.iload_n 3, 1) := by decide +kernel
theorem dX10_isSelf_6 : decode cX10_isSelf 6 = .ok (.if_icmp .gt 37, 3) := by decide +kernel
theorem dX10_isSelf_9 : decode cX10_isSelf 9 = .ok (.aload_n 0, 1) := by decide +kernel
theorem dX10_isSelf_10 : decode cX10_isSelf 10 = .ok (.getfield 52, 3) := by decide +kernel
theorem dX10_isSelf_13 : decode cX10_isSelf 13 = .ok (.bipush 21, 2) := by decide +kernel
theorem dX10_isSelf_15 : decode cX10_isSelf 15 = .ok (.iload 5, 2) := by decide +kernel
theorem dX10_isSelf_17 : decode cX10_isSelf 17 = .ok (.imul, 1) := by decide +kernel
theorem dX10_isSelf_18 : decode cX10_isSelf 18 = .ok (.iload_n 2, 1) := by decide +kernel
theorem dX10_isSelf_19 : decode cX10_isSelf 19 = .ok (.iadd, 1) := by decide +kernel
theorem dX10_isSelf_20 : decode cX10_isSelf 20 = .ok (.iaload, 1) := by decide +kernel
theorem dX10_isSelf_21 : decode cX10_isSelf 21 = .ok (.aload_n 0, 1) := by decide +kernel
theorem dX10_isSelf_22 : decode cX10_isSelf 22 = .ok (.getfield 52, 3) := by decide +kernel
theorem dX10_isSelf_25 : decode cX10_isSelf 25 = .ok (.bipush 21, 2) := by decide +kernel
theorem dX10_isSelf_27 : decode cX10_isSelf 27 = .ok (.iload_n 1, 1) := by decide +kernel
theorem dX10_isSelf_28 : decode cX10_isSelf 28 = .ok (.imul, 1) := by decide +kernel
theorem dX10_isSelf_29 : decode cX10_isSelf 29 = .ok (.iload_n 2, 1) := by decide +kernel
theorem dX10_isSelf_30 : decode cX10_isSelf 30 = .ok (.iadd, 1) := by decide +kernel
theorem dX10_isSelf_31 : decode cX10_isSelf 31 = .ok (.iaload, 1) := by decide +kernel
theorem dX10_isSelf_32 : decode cX10_isSelf 32 = .ok (.if_icmp .le 5, 3) := by decide +kernel
theorem dX10_isSelf_35 : decode cX10_isSelf 35 = .ok (.iconst 0, 1) := by decide +kernel
theorem dX10_isSelf_36 : decode cX10_isSelf 36 = .ok (.ireturn, 1) := by decide +kernel
theorem dX10_isSelf_37 : decode cX10_isSelf 37 = .ok (.iinc 5 1, 3) := by decide +kernel
theorem dX10_isSelf_40 : decode cX10_isSelf 40 = .ok (.goto (-37), 3) := by decide +kernel
theorem dX10_isSelf_43 : decode cX10_isSelf 43 = .ok (.iconst 0, 1) := by decide +kernel
theorem dX10_isSelf_44 : decode cX10_isSelf 44 = .ok (.istore 5, 2) := by decide +kernel
theorem dX10_isSelf_46 : decode cX10_isSelf 46 = .ok (.iload 5, 2) := by decide +kernel
theorem dX10_isSelf_48 : decode cX10_isSelf 48 = .ok (.iload 4, 2) := by decide +kernel
theorem dX10_isSelf_50 : decode cX10_isSelf 50 = .ok (.if_icmp .gt 37, 3) := by decide +kernel
theorem dX10_isSelf_53 : decode cX10_isSelf 53 = .ok (.aload_n 0, 1) := by decide +kernel
theorem dX10_isSelf_54 : decode cX10_isSelf 54 = .ok (.getfield 55, 3) := by decide +kernel
theorem dX10_isSelf_57 : decode cX10_isSelf 57 = .ok (.bipush 21, 2) := by decide +kernel
theorem dX10_isSelf_59 : decode cX10_isSelf 59 = .ok (.iload_n 1, 1) := by decide +kernel
theorem dX10_isSelf_60 : decode cX10_isSelf 60 = .ok (.imul, 1) := by decide +kernel
theorem dX10_isSelf_61 : decode cX10_isSelf 61 = .ok (.iload 5, 2) := by decide +kernel
theorem dX10_isSelf_63 : decode cX10_isSelf 63 = .ok (.iadd, 1) := by decide +kernel
theorem dX10_isSelf_64 : decode cX10_isSelf 64 = .ok (.iaload, 1) := by decide +kernel
theorem dX10_isSelf_65 : decode cX10_isSelf 65 = .ok (.aload_n 0, 1) := by decide +kernel
theorem dX10_isSelf_66 : decode cX10_isSelf 66 = .ok (.getfield 55, 3) := by decide +kernel
theorem dX10_isSelf_69 : decode cX10_isSelf 69 = .ok (.bipush 21, 2) := by decide +kernel
theorem dX10_isSelf_71 : decode cX10_isSelf 71 = .ok (.iload_n 1, 1) := by decide +kernel
theorem dX10_isSelf_72 : decode cX10_isSelf 72 = .ok (.imul, 1) := by decide +kernel
theorem dX10_isSelf_73 : decode cX10_isSelf 73 = .ok (.iload_n 2, 1) := by decide +kernel
theorem dX10_isSelf_74 : decode cX10_isSelf 74 = .ok (.iadd, 1) := by decide +kernel
theorem dX10_isSelf_75 : decode cX10_isSelf 75 = .ok (.iaload, 1) := by decide +kernel
theorem dX10_isSelf_76 : decode cX10_isSelf 76 = .ok (.if_icmp .le 5, 3) := by decide +kernel
theorem dX10_isSelf_79 : decode cX10_isSelf 79 = .ok (.iconst 0, 1) := by decide +kernel
theorem dX10_isSelf_80 : decode cX10_isSelf 80 = .ok (.ireturn, 1) := by decide +kernel
theorem dX10_isSelf_81 : decode cX10_isSelf 81 = .ok (.iinc 5 1, 3) := by decide +kernel
theorem dX10_isSelf_84 : decode cX10_isSelf 84 = .ok (.goto (-38), 3) := by decide +kernel
theorem dX10_isSelf_87 : decode cX10_isSelf 87 = .ok (.iconst 1, 1) := by decide +kernel
theorem dX10_isSelf_88 : decode cX10_isSelf 88 = .ok (.ireturn, 1) := by decide +kernel
theorem dX10_both_0 : decode cX10_both 0 = .ok (.iload_n 1, 1) := by decide +kernel
theorem dX10_both_1 : decode cX10_both 1 = .ok (.invokestatic 278, 3) := by decide +kernel
theorem dX10_both_4 : decode cX10_both 4 = .ok (.ifCond .eq 13, 3) := by decide +kernel
theorem dX10_both_7 : decode cX10_both 7 = .ok (.iload_n 2, 1) := by decide +kernel
theorem dX10_both_8 : decode cX10_both 8 = .ok (.i2l, 1) := by decide +kernel
theorem dX10_both_9 : decode cX10_both 9 = .ok (.lconst 0, 1) := by decide +kernel
theorem dX10_both_10 : decode cX10_both 10 = .ok (.lconst 1, 1) := by decide +kernel
theorem dX10_both_11 : decode cX10_both 11 = .ok (.invokestatic 105, 3) := by decide +kernel
theorem dX10_both_14 : decode cX10_both 14 = .ok (.ifCond .ne 5, 3) := by decide +kernel
theorem dX10_both_17 : decode cX10_both 17 = .ok (.iconst (-1), 1) := by decide +kernel
theorem dX10_both_18 : decode cX10_both 18 = .ok (.ireturn, 1) := by decide +kernel
theorem dX10_both_19 : decode cX10_both 19 = .ok (.aload_n 0, 1) := by decide +kernel
theorem dX10_both_20 : decode cX10_both 20 = .ok (.getfield 102, 3) := by decide +kernel
theorem dX10_both_23 : decode cX10_both 23 = .ok (.iconst 2, 1) := by decide +kernel
theorem dX10_both_24 : decode cX10_both 24 = .ok (.if_icmp .ge 6, 3) := by decide +kernel
theorem dX10_both_27 : decode cX10_both 27 = .ok (.bipush (-5), 2) := by decide +kernel
theorem dX10_both_29 : decode cX10_both 29 = .ok (.ireturn, 1) := by decide +kernel
theorem dX10_both_30 : decode cX10_both 30 = .ok (.aload_n 0, 1) := by decide +kernel
theorem dX10_both_31 : decode cX10_both 31 = .ok (.getfield 9, 3) := by decide +kernel
theorem dX10_both_34 : decode cX10_both 34 = .ok (.iconst 0, 1) := by decide +kernel
theorem dX10_both_35 : decode cX10_both 35 = .ok (.iaload, 1) := by decide +kernel
theorem dX10_both_36 : decode cX10_both 36 = .ok (.istore_n 3, 1) := by decide +kernel
theorem dX10_both_37 : decode cX10_both 37 = .ok (.aload_n 0, 1) := by decide +kernel
theorem dX10_both_38 : decode cX10_both 38 = .ok (.getfield 9, 3) := by decide +kernel
theorem dX10_both_41 : decode cX10_both 41 = .ok (.bipush 8, 2) := by decide +kernel
theorem dX10_both_43 : decode cX10_both 43 = .ok (.iaload, 1) := by decide +kernel
theorem dX10_both_44 : decode cX10_both 44 = .ok (.istore 4, 2) := by decide +kernel
theorem dX10_both_46 : decode cX10_both 46 = .ok (.bipush (-2), 2) := by decide +kernel
theorem dX10_both_48 : decode cX10_both 48 = .ok (.istore 5, 2) := by decide +kernel
theorem dX10_both_50 : decode cX10_both 50 = .ok (.iconst (-1), 1) := by decide +kernel
theorem dX10_both_51 : decode cX10_both 51 = .ok (.istore 6, 2) := by decide +kernel
theorem dX10_both_53 : decode cX10_both 53 = .ok (.iconst 0, 1) := by decide +kernel
theorem dX10_both_54 : decode cX10_both 54 = .ok (.istore 7, 2) := by decide +kernel
theorem dX10_both_56 : decode cX10_both 56 = .ok (.iload 7, 2) := by decide +kernel
theorem dX10_both_58 : decode cX10_both 58 = .ok (.iload_n 3, 1) := by decide +kernel
theorem dX10_both_59 : decode cX10_both 59 = .ok (.if_icmp .gt 89, 3) := by decide +kernel
theorem dX10_both_62 : decode cX10_both 62 = .ok (.iconst 0, 1) := by decide +kernel
theorem dX10_both_63 : decode cX10_both 63 = .ok (.istore 8, 2) := by decide +kernel
theorem dX10_both_65 : decode cX10_both 65 = .ok (.iload 8, 2) := by decide +kernel
theorem dX10_both_67 : decode cX10_both 67 = .ok (.iload 4, 2) := by decide +kernel
theorem dX10_both_69 : decode cX10_both 69 = .ok (.if_icmp .gt 73, 3) := by decide +kernel
theorem dX10_both_72 : decode cX10_both 72 = .ok (.aload_n 0, 1) := by decide +kernel
theorem dX10_both_73 : decode cX10_both 73 = .ok (.getfield 9, 3) := by decide +kernel
theorem dX10_both_76 : decode cX10_both 76 = .ok (.iconst 0, 1) := by decide +kernel
theorem dX10_both_77 : decode cX10_both 77 = .ok (.iload 7, 2) := by decide +kernel
theorem dX10_both_79 : decode cX10_both 79 = .ok (.iastore, 1) := by decide +kernel
theorem dX10_both_80 : decode cX10_both 80 = .ok (.aload_n 0, 1) := by decide +kernel
theorem dX10_both_81 : decode cX10_both 81 = .ok (.getfield 9, 3) := by decide +kernel
theorem dX10_both_84 : decode cX10_both 84 = .ok (.bipush 8, 2) := by decide +kernel
theorem dX10_both_86 : decode cX10_both 86 = .ok (.iload 8, 2) := by decide +kernel
theorem dX10_both_88 : decode cX10_both 88 = .ok (.iastore, 1) := by decide +kernel
theorem dX10_both_89 : decode cX10_both 89 = .ok (.aload_n 0, 1) := by decide +kernel
theorem dX10_both_90 : decode cX10_both 90 = .ok (.invokevirtual 258, 3) := by decide +kernel
theorem dX10_both_93 : decode cX10_both 93 = .ok (.aload_n 0, 1) := by decide +kernel
theorem dX10_both_94 : decode cX10_both 94 = .ok (.iload_n 1, 1) := by decide +kernel
theorem dX10_both_95 : decode cX10_both 95 = .ok (.invokevirtual 261, 3) := by decide +kernel
theorem dX10_both_98 : decode cX10_both 98 = .ok (.aload_n 0, 1) := by decide +kernel
theorem dX10_both_99 : decode cX10_both 99 = .ok (.getfield 52, 3) := by decide +kernel
theorem dX10_both_102 : decode cX10_both 102 = .ok (.bipush 21, 2) := by decide +kernel
theorem dX10_both_104 : decode cX10_both 104 = .ok (.iload 7, 2) := by decide +kernel
theorem dX10_both_106 : decode cX10_both 106 = .ok (.imul, 1) := by decide +kernel
theorem dX10_both_107 : decode cX10_both 107 = .ok (.iload 8, 2) := by decide +kernel
theorem dX10_both_109 : decode cX10_both 109 = .ok (.iadd, 1) := by decide +kernel
theorem dX10_both_110 : decode cX10_both 110 = .ok (.aload_n 0, 1) := by decide +kernel
theorem dX10_both_111 : decode cX10_both 111 = .ok (.getfield 37, 3) := by decide +kernel
theorem dX10_both_114 : decode cX10_both 114 = .ok (.iconst 0, 1) := by decide +kernel
theorem dX10_both_115 : decode cX10_both 115 = .ok (.iaload, 1) := by decide +kernel
theorem dX10_both_116 : decode cX10_both 116 = .ok (.iastore, 1) := by decide +kernel
theorem dX10_both_117 : decode cX10_both 117 = .ok (.aload_n 0, 1) := by decide +kernel
theorem dX10_both_118 : decode cX10_both 118 = .ok (.getfield 55, 3) := by decide +kernel
theorem dX10_both_121 : decode cX10_both 121 = .ok (.bipush 21, 2) := by decide +kernel
theorem dX10_both_123 : decode cX10_both 123 = .ok (.iload 7, 2) := by decide +kernel
theorem dX10_both_125 : decode cX10_both 125 = .ok (.imul, 1) := by decide +kernel
theorem dX10_both_126 : decode cX10_both 126 = .ok (.iload 8, 2) := by decide +kernel
theorem dX10_both_128 : decode cX10_both 128 = .ok (.iadd, 1) := by decide +kernel
theorem dX10_both_129 : decode cX10_both 129 = .ok (.aload_n 0, 1) := by decide +kernel
theorem dX10_both_130 : decode cX10_both 130 = .ok (.getfield 37, 3) := by decide +kernel
theorem dX10_both_133 : decode cX10_both 133 = .ok (.iconst 1, 1) := by decide +kernel
theorem dX10_both_134 : decode cX10_both 134 = .ok (.iaload, 1) := by decide +kernel
theorem dX10_both_135 : decode cX10_both 135 = .ok (.iastore, 1) := by decide +kernel
theorem dX10_both_136 : decode cX10_both 136 = .ok (.iinc 8 1, 3) := by decide +kernel
theorem dX10_both_139 : decode cX10_both 139 = .ok (.goto (-74), 3) := by decide +kernel
theorem dX10_both_142 : decode cX10_both 142 = .ok (.iinc 7 1, 3) := by decide +kernel
theorem dX10_both_145 : decode cX10_both 145 = .ok (.goto (-89), 3) := by decide +kernel
theorem dX10_both_148 : decode cX10_both 148 = .ok (.aload_n 0, 1) := by decide +kernel
theorem dX10_both_149 : decode cX10_both 149 = .ok (.getfield 9, 3) := by decide +kernel
theorem dX10_both_152 : decode cX10_both 152 = .ok (.iconst 0, 1) := by decide +kernel
theorem dX10_both_153 : decode cX10_both 153 = .ok (.iload_n 3, 1) := by decide +kernel
theorem dX10_both_154 : decode cX10_both 154 = .ok (.iastore, 1) := by decide +kernel
theorem dX10_both_155 : decode cX10_both 155 = .ok (.aload_n 0, 1) := by decide +kernel
theorem dX10_both_156 : decode cX10_both 156 = .ok (.getfield 9, 3) := by decide +kernel
theorem dX10_both_159 : decode cX10_both 159 = .ok (.bipush 8, 2) := by decide +kernel
theorem dX10_both_161 : decode cX10_both 161 = .ok (.iload 4, 2) := by decide +kernel
theorem dX10_both_163 : decode cX10_both 163 = .ok (.iastore, 1) := by decide +kernel
theorem dX10_both_164 : decode cX10_both 164 = .ok (.iconst 0, 1) := by decide +kernel
theorem dX10_both_165 : decode cX10_both 165 = .ok (.istore 7, 2) := by decide +kernel
theorem dX10_both_167 : decode cX10_both 167 = .ok (.iload 7, 2) := by decide +kernel
theorem dX10_both_169 : decode cX10_both 169 = .ok (.iload_n 3, 1) := by decide +kernel
theorem dX10_both_170 : decode cX10_both 170 = .ok (.if_icmp .gt 113, 3) := by decide +kernel
theorem dX10_both_173 : decode cX10_both 173 = .ok (.iconst 0, 1) := by decide +kernel
theorem dX10_both_174 : decode cX10_both 174 = .ok (.istore 8, 2) := by decide +kernel
theorem dX10_both_176 : decode cX10_both 176 = .ok (.iload 8, 2) := by decide +kernel
theorem dX10_both_178 : decode cX10_both 178 = .ok (.iload 4, 2) := by decide +kernel
theorem dX10_both_180 : decode cX10_both 180 = .ok (.if_icmp .gt 97, 3) := by decide +kernel
theorem dX10_both_183 : decode cX10_both 183 = .ok (.aload_n 0, 1) := by decide +kernel
theorem dX10_both_184 : decode cX10_both 184 = .ok (.iconst 0, 1) := by decide +kernel
theorem dX10_both_185 : decode cX10_both 185 = .ok (.aload_n 0, 1) := by decide +kernel
theorem dX10_both_186 : decode cX10_both 186 = .ok (.getfield 52, 3) := by decide +kernel
theorem dX10_both_189 : decode cX10_both 189 = .ok (.bipush 21, 2) := by decide +kernel
theorem dX10_both_191 : decode cX10_both 191 = .ok (.iload 7, 2) := by decide +kernel
theorem dX10_both_193 : decode cX10_both 193 = .ok (.imul, 1) := by decide +kernel
theorem dX10_both_194 : decode cX10_both 194 = .ok (.iload 8, 2) := by decide +kernel
theorem dX10_both_196 : decode cX10_both 196 = .ok (.iadd, 1) := by decide +kernel
theorem dX10_both_197 : decode cX10_both 197 = .ok (.iaload, 1) := by decide +kernel
theorem dX10_both_198 : decode cX10_both 198 = .ok (.invokevirtual 265, 3) := by decide +kernel
theorem dX10_both_201 : decode cX10_both 201 = .ok (.aload_n 0, 1) := by decide +kernel
theorem dX10_both_202 : decode cX10_both 202 = .ok (.iconst 1, 1) := by decide +kernel
theorem dX10_both_203 : decode cX10_both 203 = .ok (.aload_n 0, 1) := by decide +kernel
theorem dX10_both_204 : decode cX10_both 204 = .ok (.getfield 55, 3) := by decide +kernel
theorem dX10_both_207 : decode cX10_both 207 = .ok (.bipush 21, 2) := by decide +kernel
theorem dX10_both_209 : decode cX10_both 209 = .ok (.iload 7, 2) := by decide +kernel
theorem dX10_both_211 : decode cX10_both 211 = .ok (.imul, 1) := by decide +kernel
theorem dX10_both_212 : decode cX10_both 212 = .ok (.iload 8, 2) := by decide +kernel
theorem dX10_both_214 : decode cX10_both 214 = .ok (.iadd, 1) := by decide +kernel
theorem dX10_both_215 : decode cX10_both 215 = .ok (.iaload, 1) := by decide +kernel
theorem dX10_both_216 : decode cX10_both 216 = .ok (.invokevirtual 265, 3) := by decide +kernel
theorem dX10_both_219 : decode cX10_both 219 = .ok (.iadd, 1) := by decide +kernel
theorem dX10_both_220 : decode cX10_both 220 = .ok (.istore 9, 2) := by decide +kernel
theorem dX10_both_222 : decode cX10_both 222 = .ok (.iload_n 2, 1) := by decide +kernel
theorem dX10_both_223 : decode cX10_both 223 = .ok (.iconst 1, 1) := by decide +kernel
theorem dX10_both_224 : decode cX10_both 224 = .ok (.if_icmp .ne 10, 3) := by decide +kernel
theorem dX10_both_227 : decode cX10_both 227 = .ok (.iload 9, 2) := by decide +kernel
theorem dX10_both_229 : decode cX10_both 229 = .ok (.iload 6, 2) := by decide +kernel
theorem dX10_both_231 : decode cX10_both 231 = .ok (.if_icmp .gt 26, 3) := by decide +kernel
theorem dX10_both_234 : decode cX10_both 234 = .ok (.iload_n 2, 1) := by decide +kernel
theorem dX10_both_235 : decode cX10_both 235 = .ok (.ifCond .ne 36, 3) := by decide +kernel
theorem dX10_both_238 : decode cX10_both 238 = .ok (.iload 5, 2) := by decide +kernel
theorem dX10_both_240 : decode cX10_both 240 = .ok (.ifCond .ge 31, 3) := by decide +kernel
theorem dX10_both_243 : decode cX10_both 243 = .ok (.aload_n 0, 1) := by decide +kernel
theorem dX10_both_244 : decode cX10_both 244 = .ok (.iload 7, 2) := by decide +kernel
theorem dX10_both_246 : decode cX10_both 246 = .ok (.iload 8, 2) := by decide +kernel
theorem dX10_both_248 : decode cX10_both 248 = .ok (.iload_n 3, 1) := by decide +kernel
theorem dX10_both_249 : decode cX10_both 249 = .ok (.iload 4, 2) := by decide +kernel
theorem dX10_both_251 : decode cX10_both 251 = .ok (.invokevirtual 284, 3) := by decide +kernel
theorem dX10_both_254 : decode cX10_both 254 = .ok (.ifCond .eq 17, 3) := by decide +kernel
theorem dX10_both_257 : decode cX10_both 257 = .ok (.bipush 100, 2) := by decide +kernel
theorem dX10_both_259 : decode cX10_both 259 = .ok (.iload 7, 2) := by decide +kernel
theorem dX10_both_261 : decode cX10_both 261 = .ok (.imul, 1) := by decide +kernel
theorem dX10_both_262 : decode cX10_both 262 = .ok (.iload 8, 2) := by decide +kernel
theorem dX10_both_264 : decode cX10_both 264 = .ok (.iadd, 1) := by decide +kernel
theorem dX10_both_265 : decode cX10_both 265 = .ok (.istore 5, 2) := by decide +kernel
theorem dX10_both_267 : decode cX10_both 267 = .ok (.iload 9, 2) := by decide +kernel
theorem dX10_both_269 : decode cX10_both 269 = .ok (.istore 6, 2) := by decide +kernel
theorem dX10_both_271 : decode cX10_both 271 = .ok (.iinc 8 1, 3) := by decide +kernel
theorem dX10_both_274 : decode cX10_both 274 = .ok (.goto (-98), 3) := by decide +kernel
theorem dX10_both_277 : decode cX10_both 277 = .ok (.iinc 7 1, 3) := by decide +kernel
theorem dX10_both_280 : decode cX10_both 280 = .ok (.goto (-113), 3) := by decide +kernel
theorem dX10_both_283 : decode cX10_both 283 = .ok (.iload 5, 2) := by decide +kernel
theorem dX10_both_285 : decode cX10_both 285 = .ok (.ireturn, 1) := by decide +kernel
theorem dX10_othersGet_0 : decode cX10_othersGet 0 = .ok (.bipush 8, 2) := by decide +kernel
theorem dX10_othersGet_2 : decode cX10_othersGet 2 = .ok (.iload_n 1, 1) := by decide +kernel
theorem dX10_othersGet_3 : decode cX10_othersGet 3 = .ok (.imul, 1) := by decide +kernel
theorem dX10_othersGet_4 : decode cX10_othersGet 4 = .ok (.bipush 6, 2) := by decide +kernel
theorem dX10_othersGet_6 : decode cX10_othersGet 6 = .ok (.iadd, 1) := by decide +kernel
theorem dX10_othersGet_7 : decode cX10_othersGet 7 = .ok (.istore 4, 2) := by decide +kernel
theorem dX10_othersGet_9 : decode cX10_othersGet 9 = .ok (.aload_n 0, 1) := by decide +kernel
theorem dX10_othersGet_10 : decode cX10_othersGet 10 = .ok (.getfield 9, 3) := by decide +kernel
theorem dX10_othersGet_13 : decode cX10_othersGet 13 = .ok (.iload 4, 2) := by decide +kernel
theorem dX10_othersGet_15 : decode cX10_othersGet 15 = .ok (.iaload, 1) := by decide +kernel
theorem dX10_othersGet_16 : decode cX10_othersGet 16 = .ok (.istore 5, 2) := by decide +kernel
theorem dX10_othersGet_18 : decode cX10_othersGet 18 = .ok (.aload_n 0, 1) := by decide +kernel
theorem dX10_othersGet_19 : decode cX10_othersGet 19 = .ok (.getfield 9, 3) := by decide +kernel
theorem dX10_othersGet_22 : decode cX10_othersGet 22 = .ok (.iload 4, 2) := by decide +kernel
theorem dX10_othersGet_24 : decode cX10_othersGet 24 = .ok (.iload_n 2, 1) := by decide +kernel
theorem dX10_othersGet_25 : decode cX10_othersGet 25 = .ok (.iastore, 1) := by decide +kernel
theorem dX10_othersGet_26 : decode cX10_othersGet 26 = .ok (.aload_n 0, 1) := by decide +kernel
theorem dX10_othersGet_27 : decode cX10_othersGet 27 = .ok (.invokevirtual 258, 3) := by decide +kernel
theorem dX10_othersGet_30 : decode cX10_othersGet 30 = .ok (.aload_n 0, 1) := by decide +kernel
theorem dX10_othersGet_31 : decode cX10_othersGet 31 = .ok (.iload_n 3, 1) := by decide +kernel
theorem dX10_othersGet_32 : decode cX10_othersGet 32 = .ok (.invokevirtual 261, 3) := by decide +kernel
theorem dX10_othersGet_35 : decode cX10_othersGet 35 = .ok (.aload_n 0, 1) := by decide +kernel
theorem dX10_othersGet_36 : decode cX10_othersGet 36 = .ok (.getfield 9, 3) := by decide +kernel
theorem dX10_othersGet_39 : decode cX10_othersGet 39 = .ok (.iload 4, 2) := by decide +kernel
theorem dX10_othersGet_41 : decode cX10_othersGet 41 = .ok (.iload 5, 2) := by decide +kernel
theorem dX10_othersGet_43 : decode cX10_othersGet 43 = .ok (.iastore, 1) := by decide +kernel
theorem dX10_othersGet_44 : decode cX10_othersGet 44 = .ok (.iconst 0, 1) := by decide +kernel
theorem dX10_othersGet_45 : decode cX10_othersGet 45 = .ok (.istore 6, 2) := by decide +kernel
theorem dX10_othersGet_47 : decode cX10_othersGet 47 = .ok (.iconst 0, 1) := by decide +kernel
theorem dX10_othersGet_48 : decode cX10_othersGet 48 = .ok (.istore 7, 2) := by decide +kernel
theorem dX10_othersGet_50 : decode cX10_othersGet 50 = .ok (.iload 7, 2) := by decide +kernel
theorem dX10_othersGet_52 : decode cX10_othersGet 52 = .ok (.aload_n 0, 1) := by decide +kernel
theorem dX10_othersGet_53 : decode cX10_othersGet 53 = .ok (.getfield 102, 3) := by decide +kernel
theorem dX10_othersGet_56 : decode cX10_othersGet 56 = .ok (.if_icmp .ge 31, 3) := by decide +kernel
theorem dX10_othersGet_59 : decode cX10_othersGet 59 = .ok (.iload 6, 2) := by decide +kernel
theorem dX10_othersGet_61 : decode cX10_othersGet 61 = .ok (.iload 7, 2) := by decide +kernel
theorem dX10_othersGet_63 : decode cX10_othersGet 63 = .ok (.iload_n 1, 1) := by decide +kernel
theorem dX10_othersGet_64 : decode cX10_othersGet 64 = .ok (.if_icmp .ne 7, 3) := by decide +kernel
theorem dX10_othersGet_67 : decode cX10_othersGet 67 = .ok (.iconst 0, 1) := by decide +kernel
theorem dX10_othersGet_68 : decode cX10_othersGet 68 = .ok (.goto 10, 3) := by decide +kernel
theorem dX10_othersGet_71 : decode cX10_othersGet 71 = .ok (.aload_n 0, 1) := by decide +kernel
theorem dX10_othersGet_72 : decode cX10_othersGet 72 = .ok (.getfield 37, 3) := by decide +kernel
theorem dX10_othersGet_75 : decode cX10_othersGet 75 = .ok (.iload 7, 2) := by decide +kernel
theorem dX10_othersGet_77 : decode cX10_othersGet 77 = .ok (.iaload, 1) := by decide +kernel
theorem dX10_othersGet_78 : decode cX10_othersGet 78 = .ok (.iadd, 1) := by decide +kernel
theorem dX10_othersGet_79 : decode cX10_othersGet 79 = .ok (.istore 6, 2) := by decide +kernel
theorem dX10_othersGet_81 : decode cX10_othersGet 81 = .ok (.iinc 7 1, 3) := by decide +kernel
theorem dX10_othersGet_84 : decode cX10_othersGet 84 = .ok (.goto (-34), 3) := by decide +kernel
theorem dX10_othersGet_87 : decode cX10_othersGet 87 = .ok (.iload 6, 2) := by decide +kernel
theorem dX10_othersGet_89 : decode cX10_othersGet 89 = .ok (.ireturn, 1) := by decide +kernel
theorem dX10_holeFor_0 : decode cX10_holeFor 0 = .ok (.aload_n 0, 1) := by decide +kernel
theorem dX10_holeFor_1 : decode cX10_holeFor 1 = .ok (.iload_n 1, 1) := by decide +kernel
theorem dX10_holeFor_2 : decode cX10_holeFor 2 = .ok (.invokevirtual 130, 3) := by decide +kernel
theorem dX10_holeFor_5 : decode cX10_holeFor 5 = .ok (.ifCond .eq 40, 3) := by decide +kernel
theorem dX10_holeFor_8 : decode cX10_holeFor 8 = .ok (.iload_n 2, 1) := by decide +kernel
theorem dX10_holeFor_9 : decode cX10_holeFor 9 = .ok (.i2l, 1) := by decide +kernel
theorem dX10_holeFor_10 : decode cX10_holeFor 10 = .ok (.lconst 0, 1) := by decide +kernel
theorem dX10_holeFor_11 : decode cX10_holeFor 11 = .ok (.ldc2_w 113, 3) := by decide +kernel
theorem dX10_holeFor_14 : decode cX10_holeFor 14 = .ok (.invokestatic 105, 3) := by decide +kernel
theorem dX10_holeFor_17 : decode cX10_holeFor 17 = .ok (.ifCond .eq 28, 3) := by decide +kernel
theorem dX10_holeFor_20 : decode cX10_holeFor 20 = .ok (.iload_n 3, 1) := by decide +kernel
theorem dX10_holeFor_21 : decode cX10_holeFor 21 = .ok (.invokestatic 278, 3) := by decide +kernel
theorem dX10_holeFor_24 : decode cX10_holeFor 24 = .ok (.ifCond .eq 21, 3) := by decide +kernel
theorem dX10_holeFor_27 : decode cX10_holeFor 27 = .ok (.aload_n 0, 1) := by decide +kernel
theorem dX10_holeFor_28 : decode cX10_holeFor 28 = .ok (.iload_n 1, 1) := by decide +kernel
theorem dX10_holeFor_29 : decode cX10_holeFor 29 = .ok (.iload_n 2, 1) := by decide +kernel
theorem dX10_holeFor_30 : decode cX10_holeFor 30 = .ok (.iload_n 3, 1) := by decide +kernel
theorem dX10_holeFor_31 : decode cX10_holeFor 31 = .ok (.invokevirtual 288, 3) := by decide +kernel
theorem dX10_holeFor_34 : decode cX10_holeFor 34 = .ok (.aload_n 0, 1) := by decide +kernel
theorem dX10_holeFor_35 : decode cX10_holeFor 35 = .ok (.iload_n 1, 1) := by decide +kernel
theorem dX10_holeFor_36 : decode cX10_holeFor 36 = .ok (.iconst (-1), 1) := by decide +kernel
theorem dX10_holeFor_37 : decode cX10_holeFor 37 = .ok (.iload_n 3, 1) := by decide +kernel
theorem dX10_holeFor_38 : decode cX10_holeFor 38 = .ok (.invokevirtual 288, 3) := by decide +kernel
theorem dX10_holeFor_41 : decode cX10_holeFor 41 = .ok (.isub, 1) := by decide +kernel
theorem dX10_holeFor_42 : decode cX10_holeFor 42 = .ok (.goto 5, 3) := by decide +kernel
theorem dX10_holeFor_45 : decode cX10_holeFor 45 = .ok (.ldc 156, 2) := by decide +kernel
theorem dX10_holeFor_47 : decode cX10_holeFor 47 = .ok (.ireturn, 1) := by decide +kernel
theorem dX10_getsStopping_0 : decode cX10_getsStopping 0 = .ok (.bipush 8, 2) := by decide +kernel
theorem dX10_getsStopping_2 : decode cX10_getsStopping 2 = .ok (.iload_n 1, 1) := by decide +kernel
theorem dX10_getsStopping_3 : decode cX10_getsStopping 3 = .ok (.imul, 1) := by decide +kernel
theorem dX10_getsStopping_4 : decode cX10_getsStopping 4 = .ok (.bipush 7, 2) := by decide +kernel
theorem dX10_getsStopping_6 : decode cX10_getsStopping 6 = .ok (.iadd, 1) := by decide +kernel
theorem dX10_getsStopping_7 : decode cX10_getsStopping 7 = .ok (.istore_n 3, 1) := by decide +kernel
theorem dX10_getsStopping_8 : decode cX10_getsStopping 8 = .ok (.aload_n 0, 1) := by decide +kernel
theorem dX10_getsStopping_9 : decode cX10_getsStopping 9 = .ok (.getfield 9, 3) := by decide +kernel
theorem dX10_getsStopping_12 : decode cX10_getsStopping 12 = .ok (.iload_n 3, 1) := by decide +kernel
theorem dX10_getsStopping_13 : decode cX10_getsStopping 13 = .ok (.iaload, 1) := by decide +kernel
theorem dX10_getsStopping_14 : decode cX10_getsStopping 14 = .ok (.istore 4, 2) := by decide +kernel
theorem dX10_getsStopping_16 : decode cX10_getsStopping 16 = .ok (.aload_n 0, 1) := by decide +kernel
theorem dX10_getsStopping_17 : decode cX10_getsStopping 17 = .ok (.getfield 9, 3) := by decide +kernel
theorem dX10_getsStopping_20 : decode cX10_getsStopping 20 = .ok (.iload_n 3, 1) := by decide +kernel
theorem dX10_getsStopping_21 : decode cX10_getsStopping 21 = .ok (.iload_n 2, 1) := by decide +kernel
theorem dX10_getsStopping_22 : decode cX10_getsStopping 22 = .ok (.iastore, 1) := by decide +kernel
theorem dX10_getsStopping_23 : decode cX10_getsStopping 23 = .ok (.aload_n 0, 1) := by decide +kernel
theorem dX10_getsStopping_24 : decode cX10_getsStopping 24 = .ok (.iload_n 1, 1) := by decide +kernel
theorem dX10_getsStopping_25 : decode cX10_getsStopping 25 = .ok (.bipush 99, 2) := by decide +kernel
theorem dX10_getsStopping_27 : decode cX10_getsStopping 27 = .ok (.invokevirtual 281, 3) := by decide +kernel
theorem dX10_getsStopping_30 : decode cX10_getsStopping 30 = .ok (.istore 5, 2) := by decide +kernel
theorem dX10_getsStopping_32 : decode cX10_getsStopping 32 = .ok (.aload_n 0, 1) := by decide +kernel
theorem dX10_getsStopping_33 : decode cX10_getsStopping 33 = .ok (.getfield 9, 3) := by decide +kernel
theorem dX10_getsStopping_36 : decode cX10_getsStopping 36 = .ok (.iload_n 3, 1) := by decide +kernel
theorem dX10_getsStopping_37 : decode cX10_getsStopping 37 = .ok (.iload 4, 2) := by decide +kernel
theorem dX10_getsStopping_39 : decode cX10_getsStopping 39 = .ok (.iastore, 1) := by decide +kernel
theorem dX10_getsStopping_40 : decode cX10_getsStopping 40 = .ok (.iload 5, 2) := by decide +kernel
theorem dX10_getsStopping_42 : decode cX10_getsStopping 42 = .ok (.ireturn, 1) := by decide +kernel
theorem dX10_stopFor_0 : decode cX10_stopFor 0 = .ok (.aload_n 0, 1) := by decide +kernel
theorem dX10_stopFor_1 : decode cX10_stopFor 1 = .ok (.iload_n 1, 1) := by decide +kernel
theorem dX10_stopFor_2 : decode cX10_stopFor 2 = .ok (.invokevirtual 130, 3) := by decide +kernel
theorem dX10_stopFor_5 : decode cX10_stopFor 5 = .ok (.ifCond .ne 5, 3) := by decide +kernel
theorem dX10_stopFor_8 : decode cX10_stopFor 8 = .ok (.iconst (-1), 1) := by decide +kernel
theorem dX10_stopFor_9 : decode cX10_stopFor 9 = .ok (.ireturn, 1) := by decide +kernel
theorem dX10_stopFor_10 : decode cX10_stopFor 10 = .ok (.aload_n 0, 1) := by decide +kernel
theorem dX10_stopFor_11 : decode cX10_stopFor 11 = .ok (.iload_n 1, 1) := by decide +kernel
theorem dX10_stopFor_12 : decode cX10_stopFor 12 = .ok (.sipush 5000, 3) := by decide +kernel
theorem dX10_stopFor_15 : decode cX10_stopFor 15 = .ok (.invokevirtual 291, 3) := by decide +kernel
theorem dX10_stopFor_18 : decode cX10_stopFor 18 = .ok (.istore_n 2, 1) := by decide +kernel
theorem dX10_stopFor_19 : decode cX10_stopFor 19 = .ok (.iconst 0, 1) := by decide +kernel
theorem dX10_stopFor_20 : decode cX10_stopFor 20 = .ok (.istore_n 3, 1) := by decide +kernel
theorem dX10_stopFor_21 : decode cX10_stopFor 21 = .ok (.aload_n 0, 1) := by decide +kernel
theorem dX10_stopFor_22 : decode cX10_stopFor 22 = .ok (.iload_n 1, 1) := by decide +kernel
theorem dX10_stopFor_23 : decode cX10_stopFor 23 = .ok (.iload_n 3, 1) := by decide +kernel
theorem dX10_stopFor_24 : decode cX10_stopFor 24 = .ok (.invokevirtual 291, 3) := by decide +kernel
theorem dX10_stopFor_27 : decode cX10_stopFor 27 = .ok (.iload_n 2, 1) := by decide +kernel
theorem dX10_stopFor_28 : decode cX10_stopFor 28 = .ok (.if_icmp .ge 25, 3) := by decide +kernel
theorem dX10_stopFor_31 : decode cX10_stopFor 31 = .ok (.iload_n 3, 1) := by decide +kernel
theorem dX10_stopFor_32 : decode cX10_stopFor 32 = .ok (.aload_n 0, 1) := by decide +kernel
theorem dX10_stopFor_33 : decode cX10_stopFor 33 = .ok (.getfield 160, 3) := by decide +kernel
theorem dX10_stopFor_36 : decode cX10_stopFor 36 = .ok (.if_icmp .ge 10, 3) := by decide +kernel
theorem dX10_stopFor_39 : decode cX10_stopFor 39 = .ok (.aload_n 0, 1) := by decide +kernel
theorem dX10_stopFor_40 : decode cX10_stopFor 40 = .ok (.getfield 160, 3) := by decide +kernel
theorem dX10_stopFor_43 : decode cX10_stopFor 43 = .ok (.goto 6, 3) := by decide +kernel
theorem dX10_stopFor_46 : decode cX10_stopFor 46 = .ok (.iload_n 3, 1) := by decide +kernel
theorem dX10_stopFor_47 : decode cX10_stopFor 47 = .ok (.iconst 1, 1) := by decide +kernel
theorem dX10_stopFor_48 : decode cX10_stopFor 48 = .ok (.iadd, 1) := by decide +kernel
theorem dX10_stopFor_49 : decode cX10_stopFor 49 = .ok (.istore_n 3, 1) := by decide +kernel
theorem dX10_stopFor_50 : decode cX10_stopFor 50 = .ok (.goto (-29), 3) := by decide +kernel
theorem dX10_stopFor_53 : decode cX10_stopFor 53 = .ok (.iload_n 3, 1) := by decide +kernel
theorem dX10_stopFor_54 : decode cX10_stopFor 54 = .ok (.ireturn, 1) := by decide +kernel
theorem dX10_shortsAre_0 : decode cX10_shortsAre 0 = .ok (.iload_n 1, 1) := by decide +kernel
theorem dX10_shortsAre_1 : decode cX10_shortsAre 1 = .ok (.invokestatic 124, 3) := by decide +kernel
theorem dX10_shortsAre_4 : decode cX10_shortsAre 4 = .ok (.ifCond .ne 7, 3) := by decide +kernel
theorem dX10_shortsAre_7 : decode cX10_shortsAre 7 = .ok (.iconst (-1), 1) := by decide +kernel
theorem dX10_shortsAre_8 : decode cX10_shortsAre 8 = .ok (.goto 34, 3) := by decide +kernel
theorem dX10_shortsAre_11 : decode cX10_shortsAre 11 = .ok (.aload_n 0, 1) := by decide +kernel
theorem dX10_shortsAre_12 : decode cX10_shortsAre 12 = .ok (.getfield 76, 3) := by decide +kernel
theorem dX10_shortsAre_15 : decode cX10_shortsAre 15 = .ok (.iload_n 1, 1) := by decide +kernel
theorem dX10_shortsAre_16 : decode cX10_shortsAre 16 = .ok (.iaload, 1) := by decide +kernel
theorem dX10_shortsAre_17 : decode cX10_shortsAre 17 = .ok (.ifCond .ge 8, 3) := by decide +kernel
theorem dX10_shortsAre_20 : decode cX10_shortsAre 20 = .ok (.bipush (-11), 2) := by decide +kernel
theorem dX10_shortsAre_22 : decode cX10_shortsAre 22 = .ok (.goto 20, 3) := by decide +kernel
theorem dX10_shortsAre_25 : decode cX10_shortsAre 25 = .ok (.aload_n 0, 1) := by decide +kernel
theorem dX10_shortsAre_26 : decode cX10_shortsAre 26 = .ok (.getfield 76, 3) := by decide +kernel
theorem dX10_shortsAre_29 : decode cX10_shortsAre 29 = .ok (.iload_n 1, 1) := by decide +kernel
theorem dX10_shortsAre_30 : decode cX10_shortsAre 30 = .ok (.iaload, 1) := by decide +kernel
theorem dX10_shortsAre_31 : decode cX10_shortsAre 31 = .ok (.bipush 51, 2) := by decide +kernel
theorem dX10_shortsAre_33 : decode cX10_shortsAre 33 = .ok (.if_icmp .ne 7, 3) := by decide +kernel
theorem dX10_shortsAre_36 : decode cX10_shortsAre 36 = .ok (.iconst 1, 1) := by decide +kernel
theorem dX10_shortsAre_37 : decode cX10_shortsAre 37 = .ok (.goto 5, 3) := by decide +kernel
theorem dX10_shortsAre_40 : decode cX10_shortsAre 40 = .ok (.bipush (-12), 2) := by decide +kernel
theorem dX10_shortsAre_42 : decode cX10_shortsAre 42 = .ok (.ireturn, 1) := by decide +kernel
theorem dX10_firstFalse_0 : decode cX10_firstFalse 0 = .ok (.iconst 0, 1) := by decide +kernel
theorem dX10_firstFalse_1 : decode cX10_firstFalse 1 = .ok (.istore_n 2, 1) := by decide +kernel
theorem dX10_firstFalse_2 : decode cX10_firstFalse 2 = .ok (.iload_n 2, 1) := by decide +kernel
theorem dX10_firstFalse_3 : decode cX10_firstFalse 3 = .ok (.aload_n 0, 1) := by decide +kernel
theorem dX10_firstFalse_4 : decode cX10_firstFalse 4 = .ok (.getfield 79, 3) := by decide +kernel
theorem dX10_firstFalse_7 : decode cX10_firstFalse 7 = .ok (.iload_n 1, 1) := by decide +kernel
theorem dX10_firstFalse_8 : decode cX10_firstFalse 8 = .ok (.iaload, 1) := by decide +kernel
theorem dX10_firstFalse_9 : decode cX10_firstFalse 9 = .ok (.if_icmp .ge 35, 3) := by decide +kernel
theorem dX10_firstFalse_12 : decode cX10_firstFalse 12 = .ok (.aload_n 0, 1) := by decide +kernel
theorem dX10_firstFalse_13 : decode cX10_firstFalse 13 = .ok (.invokevirtual 253, 3) := by decide +kernel
theorem dX10_firstFalse_16 : decode cX10_firstFalse 16 = .ok (.aload_n 0, 1) := by decide +kernel
theorem dX10_firstFalse_17 : decode cX10_firstFalse 17 = .ok (.getfield 82, 3) := by decide +kernel
theorem dX10_firstFalse_20 : decode cX10_firstFalse 20 = .ok (.bipush 60, 2) := by decide +kernel
theorem dX10_firstFalse_22 : decode cX10_firstFalse 22 = .ok (.iload_n 1, 1) := by decide +kernel
theorem dX10_firstFalse_23 : decode cX10_firstFalse 23 = .ok (.imul, 1) := by decide +kernel
theorem dX10_firstFalse_24 : decode cX10_firstFalse 24 = .ok (.iload_n 2, 1) := by decide +kernel
theorem dX10_firstFalse_25 : decode cX10_firstFalse 25 = .ok (.iadd, 1) := by decide +kernel
theorem dX10_firstFalse_26 : decode cX10_firstFalse 26 = .ok (.laload, 1) := by decide +kernel
theorem dX10_firstFalse_27 : decode cX10_firstFalse 27 = .ok (.aload_n 0, 1) := by decide +kernel
theorem dX10_firstFalse_28 : decode cX10_firstFalse 28 = .ok (.getfield 225, 3) := by decide +kernel
theorem dX10_firstFalse_31 : decode cX10_firstFalse 31 = .ok (.i2l, 1) := by decide +kernel
theorem dX10_firstFalse_32 : decode cX10_firstFalse 32 = .ok (.lcmp, 1) := by decide +kernel
theorem dX10_firstFalse_33 : decode cX10_firstFalse 33 = .ok (.ifCond .eq 5, 3) := by decide +kernel
theorem dX10_firstFalse_36 : decode cX10_firstFalse 36 = .ok (.iload_n 2, 1) := by decide +kernel
theorem dX10_firstFalse_37 : decode cX10_firstFalse 37 = .ok (.ireturn, 1) := by decide +kernel
theorem dX10_firstFalse_38 : decode cX10_firstFalse 38 = .ok (.iinc 2 1, 3) := by decide +kernel
theorem dX10_firstFalse_41 : decode cX10_firstFalse 41 = .ok (.goto (-39), 3) := by decide +kernel
theorem dX10_firstFalse_44 : decode cX10_firstFalse 44 = .ok (.bipush (-2), 2) := by decide +kernel
theorem dX10_firstFalse_46 : decode cX10_firstFalse 46 = .ok (.ireturn, 1) := by decide +kernel
theorem dX10_judge_0 : decode cX10_judge 0 = .ok (.aload_n 0, 1) := by decide +kernel
theorem dX10_judge_1 : decode cX10_judge 1 = .ok (.iload_n 1, 1) := by decide +kernel
theorem dX10_judge_2 : decode cX10_judge 2 = .ok (.invokevirtual 294, 3) := by decide +kernel
theorem dX10_judge_5 : decode cX10_judge 5 = .ok (.ifCond .ge 9, 3) := by decide +kernel
theorem dX10_judge_8 : decode cX10_judge 8 = .ok (.aload_n 0, 1) := by decide +kernel
theorem dX10_judge_9 : decode cX10_judge 9 = .ok (.iload_n 1, 1) := by decide +kernel
theorem dX10_judge_10 : decode cX10_judge 10 = .ok (.invokevirtual 294, 3) := by decide +kernel
theorem dX10_judge_13 : decode cX10_judge 13 = .ok (.ireturn, 1) := by decide +kernel
theorem dX10_judge_14 : decode cX10_judge 14 = .ok (.aload_n 0, 1) := by decide +kernel
theorem dX10_judge_15 : decode cX10_judge 15 = .ok (.invokevirtual 258, 3) := by decide +kernel
theorem dX10_judge_18 : decode cX10_judge 18 = .ok (.aload_n 0, 1) := by decide +kernel
theorem dX10_judge_19 : decode cX10_judge 19 = .ok (.iload_n 1, 1) := by decide +kernel
theorem dX10_judge_20 : decode cX10_judge 20 = .ok (.invokevirtual 297, 3) := by decide +kernel
theorem dX10_judge_23 : decode cX10_judge 23 = .ok (.ireturn, 1) := by decide +kernel
theorem dX10_who_0 : decode cX10_who 0 = .ok (.aload_n 0, 1) := by decide +kernel
theorem dX10_who_1 : decode cX10_who 1 = .ok (.iload_n 1, 1) := by decide +kernel
theorem dX10_who_2 : decode cX10_who 2 = .ok (.invokevirtual 294, 3) := by decide +kernel
theorem dX10_who_5 : decode cX10_who 5 = .ok (.iconst (-1), 1) := by decide +kernel
theorem dX10_who_6 : decode cX10_who 6 = .ok (.if_icmp .eq 13, 3) := by decide +kernel
theorem dX10_who_9 : decode cX10_who 9 = .ok (.iload_n 2, 1) := by decide +kernel
theorem dX10_who_10 : decode cX10_who 10 = .ok (.i2l, 1) := by decide +kernel
theorem dX10_who_11 : decode cX10_who 11 = .ok (.lconst 0, 1) := by decide +kernel
theorem dX10_who_12 : decode cX10_who 12 = .ok (.lconst 1, 1) := by decide +kernel
theorem dX10_who_13 : decode cX10_who 13 = .ok (.invokestatic 105, 3) := by decide +kernel
theorem dX10_who_16 : decode cX10_who 16 = .ok (.ifCond .ne 5, 3) := by decide +kernel
theorem dX10_who_19 : decode cX10_who 19 = .ok (.iconst (-1), 1) := by decide +kernel
theorem dX10_who_20 : decode cX10_who 20 = .ok (.ireturn, 1) := by decide +kernel
theorem dX10_who_21 : decode cX10_who 21 = .ok (.aload_n 0, 1) := by decide +kernel
theorem dX10_who_22 : decode cX10_who 22 = .ok (.iload_n 1, 1) := by decide +kernel
theorem dX10_who_23 : decode cX10_who 23 = .ok (.invokevirtual 294, 3) := by decide +kernel
theorem dX10_who_26 : decode cX10_who 26 = .ok (.ifCond .ge 9, 3) := by decide +kernel
theorem dX10_who_29 : decode cX10_who 29 = .ok (.aload_n 0, 1) := by decide +kernel
theorem dX10_who_30 : decode cX10_who 30 = .ok (.iload_n 1, 1) := by decide +kernel
theorem dX10_who_31 : decode cX10_who 31 = .ok (.invokevirtual 294, 3) := by decide +kernel
theorem dX10_who_34 : decode cX10_who 34 = .ok (.ireturn, 1) := by decide +kernel
theorem dX10_who_35 : decode cX10_who 35 = .ok (.iconst 0, 1) := by decide +kernel
theorem dX10_who_36 : decode cX10_who 36 = .ok (.istore_n 3, 1) := by decide +kernel
theorem dX10_who_37 : decode cX10_who 37 = .ok (.bipush (-2), 2) := by decide +kernel
theorem dX10_who_39 : decode cX10_who 39 = .ok (.istore 4, 2) := by decide +kernel
theorem dX10_who_41 : decode cX10_who 41 = .ok (.iconst 0, 1) := by decide +kernel
theorem dX10_who_42 : decode cX10_who 42 = .ok (.istore 5, 2) := by decide +kernel
theorem dX10_who_44 : decode cX10_who 44 = .ok (.iload 5, 2) := by decide +kernel
theorem dX10_who_46 : decode cX10_who 46 = .ok (.iconst 1, 1) := by decide +kernel
theorem dX10_who_47 : decode cX10_who 47 = .ok (.aload_n 0, 1) := by decide +kernel
theorem dX10_who_48 : decode cX10_who 48 = .ok (.getfield 102, 3) := by decide +kernel
theorem dX10_who_51 : decode cX10_who 51 = .ok (.ishl, 1) := by decide +kernel
theorem dX10_who_52 : decode cX10_who 52 = .ok (.if_icmp .ge 45, 3) := by decide +kernel
theorem dX10_who_55 : decode cX10_who 55 = .ok (.aload_n 0, 1) := by decide +kernel
theorem dX10_who_56 : decode cX10_who 56 = .ok (.invokevirtual 258, 3) := by decide +kernel
theorem dX10_who_59 : decode cX10_who 59 = .ok (.aload_n 0, 1) := by decide +kernel
theorem dX10_who_60 : decode cX10_who 60 = .ok (.iload 5, 2) := by decide +kernel
theorem dX10_who_62 : decode cX10_who 62 = .ok (.putfield 234, 3) := by decide +kernel
theorem dX10_who_65 : decode cX10_who 65 = .ok (.aload_n 0, 1) := by decide +kernel
theorem dX10_who_66 : decode cX10_who 66 = .ok (.iload_n 1, 1) := by decide +kernel
theorem dX10_who_67 : decode cX10_who 67 = .ok (.invokevirtual 297, 3) := by decide +kernel
theorem dX10_who_70 : decode cX10_who 70 = .ok (.bipush (-2), 2) := by decide +kernel
theorem dX10_who_72 : decode cX10_who 72 = .ok (.if_icmp .ne 19, 3) := by decide +kernel
theorem dX10_who_75 : decode cX10_who 75 = .ok (.iload_n 3, 1) := by decide +kernel
theorem dX10_who_76 : decode cX10_who 76 = .ok (.ifCond .ne 8, 3) := by decide +kernel
theorem dX10_who_79 : decode cX10_who 79 = .ok (.iload 5, 2) := by decide +kernel
theorem dX10_who_81 : decode cX10_who 81 = .ok (.goto 5, 3) := by decide +kernel
theorem dX10_who_84 : decode cX10_who 84 = .ok (.iload 4, 2) := by decide +kernel
theorem dX10_who_86 : decode cX10_who 86 = .ok (.istore 4, 2) := by decide +kernel
theorem dX10_who_88 : decode cX10_who 88 = .ok (.iinc 3 1, 3) := by decide +kernel
theorem dX10_who_91 : decode cX10_who 91 = .ok (.iinc 5 1, 3) := by decide +kernel
theorem dX10_who_94 : decode cX10_who 94 = .ok (.goto (-50), 3) := by decide +kernel
theorem dX10_who_97 : decode cX10_who 97 = .ok (.iload_n 2, 1) := by decide +kernel
theorem dX10_who_98 : decode cX10_who 98 = .ok (.ifCond .ne 7, 3) := by decide +kernel
theorem dX10_who_101 : decode cX10_who 101 = .ok (.iload_n 3, 1) := by decide +kernel
theorem dX10_who_102 : decode cX10_who 102 = .ok (.goto 5, 3) := by decide +kernel
theorem dX10_who_105 : decode cX10_who 105 = .ok (.iload 4, 2) := by decide +kernel
theorem dX10_who_107 : decode cX10_who 107 = .ok (.ireturn, 1) := by decide +kernel
theorem dX10_since_0 : decode cX10_since 0 = .ok (.aload_n 0, 1) := by decide +kernel
theorem dX10_since_1 : decode cX10_since 1 = .ok (.iload_n 1, 1) := by decide +kernel
theorem dX10_since_2 : decode cX10_since 2 = .ok (.invokevirtual 294, 3) := by decide +kernel
theorem dX10_since_5 : decode cX10_since 5 = .ok (.iconst (-1), 1) := by decide +kernel
theorem dX10_since_6 : decode cX10_since 6 = .ok (.if_icmp .eq 11, 3) := by decide +kernel
theorem dX10_since_9 : decode cX10_since 9 = .ok (.aload_n 0, 1) := by decide +kernel
theorem dX10_since_10 : decode cX10_since 10 = .ok (.iload_n 2, 1) := by decide +kernel
theorem dX10_since_11 : decode cX10_since 11 = .ok (.invokevirtual 130, 3) := by decide +kernel
theorem dX10_since_14 : decode cX10_since 14 = .ok (.ifCond .ne 5, 3) := by decide +kernel
theorem dX10_since_17 : decode cX10_since 17 = .ok (.iconst (-1), 1) := by decide +kernel
theorem dX10_since_18 : decode cX10_since 18 = .ok (.ireturn, 1) := by decide +kernel
theorem dX10_since_19 : decode cX10_since 19 = .ok (.aload_n 0, 1) := by decide +kernel
theorem dX10_since_20 : decode cX10_since 20 = .ok (.iload_n 1, 1) := by decide +kernel
theorem dX10_since_21 : decode cX10_since 21 = .ok (.invokevirtual 294, 3) := by decide +kernel
theorem dX10_since_24 : decode cX10_since 24 = .ok (.ifCond .ge 9, 3) := by decide +kernel
theorem dX10_since_27 : decode cX10_since 27 = .ok (.aload_n 0, 1) := by decide +kernel
theorem dX10_since_28 : decode cX10_since 28 = .ok (.iload_n 1, 1) := by decide +kernel
theorem dX10_since_29 : decode cX10_since 29 = .ok (.invokevirtual 294, 3) := by decide +kernel
theorem dX10_since_32 : decode cX10_since 32 = .ok (.ireturn, 1) := by decide +kernel
theorem dX10_since_33 : decode cX10_since 33 = .ok (.bipush 8, 2) := by decide +kernel
theorem dX10_since_35 : decode cX10_since 35 = .ok (.iload_n 2, 1) := by decide +kernel
theorem dX10_since_36 : decode cX10_since 36 = .ok (.imul, 1) := by decide +kernel
theorem dX10_since_37 : decode cX10_since 37 = .ok (.bipush 7, 2) := by decide +kernel
theorem dX10_since_39 : decode cX10_since 39 = .ok (.iadd, 1) := by decide +kernel
theorem dX10_since_40 : decode cX10_since 40 = .ok (.istore_n 3, 1) := by decide +kernel
theorem dX10_since_41 : decode cX10_since 41 = .ok (.aload_n 0, 1) := by decide +kernel
theorem dX10_since_42 : decode cX10_since 42 = .ok (.getfield 9, 3) := by decide +kernel
theorem dX10_since_45 : decode cX10_since 45 = .ok (.iload_n 3, 1) := by decide +kernel
theorem dX10_since_46 : decode cX10_since 46 = .ok (.iaload, 1) := by decide +kernel
theorem dX10_since_47 : decode cX10_since 47 = .ok (.istore 4, 2) := by decide +kernel
theorem dX10_since_49 : decode cX10_since 49 = .ok (.bipush (-2), 2) := by decide +kernel
theorem dX10_since_51 : decode cX10_since 51 = .ok (.istore 5, 2) := by decide +kernel
theorem dX10_since_53 : decode cX10_since 53 = .ok (.aload_n 0, 1) := by decide +kernel
theorem dX10_since_54 : decode cX10_since 54 = .ok (.getfield 79, 3) := by decide +kernel
theorem dX10_since_57 : decode cX10_since 57 = .ok (.iload_n 1, 1) := by decide +kernel
theorem dX10_since_58 : decode cX10_since 58 = .ok (.iaload, 1) := by decide +kernel
theorem dX10_since_59 : decode cX10_since 59 = .ok (.istore 6, 2) := by decide +kernel
theorem dX10_since_61 : decode cX10_since 61 = .ok (.iload 6, 2) := by decide +kernel
theorem dX10_since_63 : decode cX10_since 63 = .ok (.ifCond .lt 45, 3) := by decide +kernel
theorem dX10_since_66 : decode cX10_since 66 = .ok (.aload_n 0, 1) := by decide +kernel
theorem dX10_since_67 : decode cX10_since 67 = .ok (.getfield 9, 3) := by decide +kernel
theorem dX10_since_70 : decode cX10_since 70 = .ok (.iload_n 3, 1) := by decide +kernel
theorem dX10_since_71 : decode cX10_since 71 = .ok (.aload_n 0, 1) := by decide +kernel
theorem dX10_since_72 : decode cX10_since 72 = .ok (.getfield 160, 3) := by decide +kernel
theorem dX10_since_75 : decode cX10_since 75 = .ok (.iload 6, 2) := by decide +kernel
theorem dX10_since_77 : decode cX10_since 77 = .ok (.iadd, 1) := by decide +kernel
theorem dX10_since_78 : decode cX10_since 78 = .ok (.iastore, 1) := by decide +kernel
theorem dX10_since_79 : decode cX10_since 79 = .ok (.aload_n 0, 1) := by decide +kernel
theorem dX10_since_80 : decode cX10_since 80 = .ok (.invokevirtual 258, 3) := by decide +kernel
theorem dX10_since_83 : decode cX10_since 83 = .ok (.aload_n 0, 1) := by decide +kernel
theorem dX10_since_84 : decode cX10_since 84 = .ok (.iload_n 1, 1) := by decide +kernel
theorem dX10_since_85 : decode cX10_since 85 = .ok (.invokevirtual 297, 3) := by decide +kernel
theorem dX10_since_88 : decode cX10_since 88 = .ok (.bipush (-2), 2) := by decide +kernel
theorem dX10_since_90 : decode cX10_since 90 = .ok (.if_icmp .ne 8, 3) := by decide +kernel
theorem dX10_since_93 : decode cX10_since 93 = .ok (.iload 6, 2) := by decide +kernel
theorem dX10_since_95 : decode cX10_since 95 = .ok (.goto 5, 3) := by decide +kernel
theorem dX10_since_98 : decode cX10_since 98 = .ok (.iload 5, 2) := by decide +kernel
theorem dX10_since_100 : decode cX10_since 100 = .ok (.istore 5, 2) := by decide +kernel
theorem dX10_since_102 : decode cX10_since 102 = .ok (.iinc 6 (-1), 3) := by decide +kernel
theorem dX10_since_105 : decode cX10_since 105 = .ok (.goto (-44), 3) := by decide +kernel
theorem dX10_since_108 : decode cX10_since 108 = .ok (.aload_n 0, 1) := by decide +kernel
theorem dX10_since_109 : decode cX10_since 109 = .ok (.getfield 9, 3) := by decide +kernel
theorem dX10_since_112 : decode cX10_since 112 = .ok (.iload_n 3, 1) := by decide +kernel
theorem dX10_since_113 : decode cX10_since 113 = .ok (.iload 4, 2) := by decide +kernel
theorem dX10_since_115 : decode cX10_since 115 = .ok (.iastore, 1) := by decide +kernel
theorem dX10_since_116 : decode cX10_since 116 = .ok (.iload 5, 2) := by decide +kernel
theorem dX10_since_118 : decode cX10_since 118 = .ok (.ireturn, 1) := by decide +kernel
theorem dX10_drawn_0 : decode cX10_drawn 0 = .ok (.iload_n 2, 1) := by decide +kernel
theorem dX10_drawn_1 : decode cX10_drawn 1 = .ok (.i2l, 1) := by decide +kernel
theorem dX10_drawn_2 : decode cX10_drawn 2 = .ok (.lconst 1, 1) := by decide +kernel
theorem dX10_drawn_3 : decode cX10_drawn 3 = .ok (.ldc2_w 109, 3) := by decide +kernel
theorem dX10_drawn_6 : decode cX10_drawn 6 = .ok (.invokestatic 105, 3) := by decide +kernel
theorem dX10_drawn_9 : decode cX10_drawn 9 = .ok (.ifCond .eq 16, 3) := by decide +kernel
theorem dX10_drawn_12 : decode cX10_drawn 12 = .ok (.iload_n 3, 1) := by decide +kernel
theorem dX10_drawn_13 : decode cX10_drawn 13 = .ok (.iconst (-1), 1) := by decide +kernel
theorem dX10_drawn_14 : decode cX10_drawn 14 = .ok (.if_icmp .eq 13, 3) := by decide +kernel
theorem dX10_drawn_17 : decode cX10_drawn 17 = .ok (.aload_n 0, 1) := by decide +kernel
theorem dX10_drawn_18 : decode cX10_drawn 18 = .ok (.iload_n 3, 1) := by decide +kernel
theorem dX10_drawn_19 : decode cX10_drawn 19 = .ok (.invokevirtual 130, 3) := by decide +kernel
theorem dX10_drawn_22 : decode cX10_drawn 22 = .ok (.ifCond .ne 5, 3) := by decide +kernel
theorem dX10_drawn_25 : decode cX10_drawn 25 = .ok (.iconst (-1), 1) := by decide +kernel
theorem dX10_drawn_26 : decode cX10_drawn 26 = .ok (.ireturn, 1) := by decide +kernel
theorem dX10_drawn_27 : decode cX10_drawn 27 = .ok (.iload_n 1, 1) := by decide +kernel
theorem dX10_drawn_28 : decode cX10_drawn 28 = .ok (.istore 4, 2) := by decide +kernel
theorem dX10_drawn_30 : decode cX10_drawn 30 = .ok (.iconst 0, 1) := by decide +kernel
theorem dX10_drawn_31 : decode cX10_drawn 31 = .ok (.istore 5, 2) := by decide +kernel
theorem dX10_drawn_33 : decode cX10_drawn 33 = .ok (.iconst 0, 1) := by decide +kernel
theorem dX10_drawn_34 : decode cX10_drawn 34 = .ok (.istore 6, 2) := by decide +kernel
theorem dX10_drawn_36 : decode cX10_drawn 36 = .ok (.iload 6, 2) := by decide +kernel
theorem dX10_drawn_38 : decode cX10_drawn 38 = .ok (.iload_n 2, 1) := by decide +kernel
theorem dX10_drawn_39 : decode cX10_drawn 39 = .ok (.if_icmp .ge 125, 3) := by decide +kernel
theorem dX10_drawn_42 : decode cX10_drawn 42 = .ok (.aload_n 0, 1) := by decide +kernel
theorem dX10_drawn_43 : decode cX10_drawn 43 = .ok (.invokevirtual 258, 3) := by decide +kernel
theorem dX10_drawn_46 : decode cX10_drawn 46 = .ok (.iconst 0, 1) := by decide +kernel
theorem dX10_drawn_47 : decode cX10_drawn 47 = .ok (.istore 7, 2) := by decide +kernel
theorem dX10_drawn_49 : decode cX10_drawn 49 = .ok (.iload 7, 2) := by decide +kernel
theorem dX10_drawn_51 : decode cX10_drawn 51 = .ok (.bipush 60, 2) := by decide +kernel
theorem dX10_drawn_53 : decode cX10_drawn 53 = .ok (.if_icmp .ge 83, 3) := by decide +kernel
theorem dX10_drawn_56 : decode cX10_drawn 56 = .ok (.aload_n 0, 1) := by decide +kernel
theorem dX10_drawn_57 : decode cX10_drawn 57 = .ok (.iconst 0, 1) := by decide +kernel
theorem dX10_drawn_58 : decode cX10_drawn 58 = .ok (.putfield 241, 3) := by decide +kernel
theorem dX10_drawn_61 : decode cX10_drawn 61 = .ok (.iconst 0, 1) := by decide +kernel
theorem dX10_drawn_62 : decode cX10_drawn 62 = .ok (.istore 8, 2) := by decide +kernel
theorem dX10_drawn_64 : decode cX10_drawn 64 = .ok (.iload 8, 2) := by decide +kernel
theorem dX10_drawn_66 : decode cX10_drawn 66 = .ok (.aload_n 0, 1) := by decide +kernel
theorem dX10_drawn_67 : decode cX10_drawn 67 = .ok (.getfield 102, 3) := by decide +kernel
theorem dX10_drawn_70 : decode cX10_drawn 70 = .ok (.if_icmp .ge 56, 3) := by decide +kernel
theorem dX10_drawn_73 : decode cX10_drawn 73 = .ok (.iload 4, 2) := by decide +kernel
theorem dX10_drawn_75 : decode cX10_drawn 75 = .ok (.ldc_w 300, 3) := by decide +kernel
theorem dX10_drawn_78 : decode cX10_drawn 78 = .ok (.imul, 1) := by decide +kernel
theorem dX10_drawn_79 : decode cX10_drawn 79 = .ok (.sipush 12345, 3) := by decide +kernel
theorem dX10_drawn_82 : decode cX10_drawn 82 = .ok (.iadd, 1) := by decide +kernel
theorem dX10_drawn_83 : decode cX10_drawn 83 = .ok (.istore 4, 2) := by decide +kernel
theorem dX10_drawn_85 : decode cX10_drawn 85 = .ok (.aload_n 0, 1) := by decide +kernel
theorem dX10_drawn_86 : decode cX10_drawn 86 = .ok (.dup, 1) := by decide +kernel
theorem dX10_drawn_87 : decode cX10_drawn 87 = .ok (.getfield 241, 3) := by decide +kernel
theorem dX10_drawn_90 : decode cX10_drawn 90 = .ok (.iload 4, 2) := by decide +kernel
theorem dX10_drawn_92 : decode cX10_drawn 92 = .ok (.bipush 8, 2) := by decide +kernel
theorem dX10_drawn_94 : decode cX10_drawn 94 = .ok (.iushr, 1) := by decide +kernel
theorem dX10_drawn_95 : decode cX10_drawn 95 = .ok (.bipush 12, 2) := by decide +kernel
theorem dX10_drawn_97 : decode cX10_drawn 97 = .ok (.irem, 1) := by decide +kernel
theorem dX10_drawn_98 : decode cX10_drawn 98 = .ok (.aload_n 0, 1) := by decide +kernel
theorem dX10_drawn_99 : decode cX10_drawn 99 = .ok (.getfield 9, 3) := by decide +kernel
theorem dX10_drawn_102 : decode cX10_drawn 102 = .ok (.bipush 27, 2) := by decide +kernel
theorem dX10_drawn_104 : decode cX10_drawn 104 = .ok (.iaload, 1) := by decide +kernel
theorem dX10_drawn_105 : decode cX10_drawn 105 = .ok (.if_icmp .ge 10, 3) := by decide +kernel
theorem dX10_drawn_108 : decode cX10_drawn 108 = .ok (.iconst 1, 1) := by decide +kernel
theorem dX10_drawn_109 : decode cX10_drawn 109 = .ok (.iload 8, 2) := by decide +kernel
theorem dX10_drawn_111 : decode cX10_drawn 111 = .ok (.ishl, 1) := by decide +kernel
theorem dX10_drawn_112 : decode cX10_drawn 112 = .ok (.goto 4, 3) := by decide +kernel
theorem dX10_drawn_115 : decode cX10_drawn 115 = .ok (.iconst 0, 1) := by decide +kernel
theorem dX10_drawn_116 : decode cX10_drawn 116 = .ok (.ior, 1) := by decide +kernel
theorem dX10_drawn_117 : decode cX10_drawn 117 = .ok (.putfield 241, 3) := by decide +kernel
theorem dX10_drawn_120 : decode cX10_drawn 120 = .ok (.iinc 8 1, 3) := by decide +kernel
theorem dX10_drawn_123 : decode cX10_drawn 123 = .ok (.goto (-59), 3) := by decide +kernel
theorem dX10_drawn_126 : decode cX10_drawn 126 = .ok (.aload_n 0, 1) := by decide +kernel
theorem dX10_drawn_127 : decode cX10_drawn 127 = .ok (.invokevirtual 253, 3) := by decide +kernel
theorem dX10_drawn_130 : decode cX10_drawn 130 = .ok (.iinc 7 1, 3) := by decide +kernel
theorem dX10_drawn_133 : decode cX10_drawn 133 = .ok (.goto (-84), 3) := by decide +kernel
theorem dX10_drawn_136 : decode cX10_drawn 136 = .ok (.iload 5, 2) := by decide +kernel
theorem dX10_drawn_138 : decode cX10_drawn 138 = .ok (.iload_n 3, 1) := by decide +kernel
theorem dX10_drawn_139 : decode cX10_drawn 139 = .ok (.ifCond .ge 10, 3) := by decide +kernel
theorem dX10_drawn_142 : decode cX10_drawn 142 = .ok (.aload_n 0, 1) := by decide +kernel
theorem dX10_drawn_143 : decode cX10_drawn 143 = .ok (.getfield 225, 3) := by decide +kernel
theorem dX10_drawn_146 : decode cX10_drawn 146 = .ok (.goto 9, 3) := by decide +kernel
theorem dX10_drawn_149 : decode cX10_drawn 149 = .ok (.aload_n 0, 1) := by decide +kernel
theorem dX10_drawn_150 : decode cX10_drawn 150 = .ok (.getfield 37, 3) := by decide +kernel
theorem dX10_drawn_153 : decode cX10_drawn 153 = .ok (.iload_n 3, 1) := by decide +kernel
theorem dX10_drawn_154 : decode cX10_drawn 154 = .ok (.iaload, 1) := by decide +kernel
theorem dX10_drawn_155 : decode cX10_drawn 155 = .ok (.iadd, 1) := by decide +kernel
theorem dX10_drawn_156 : decode cX10_drawn 156 = .ok (.istore 5, 2) := by decide +kernel
theorem dX10_drawn_158 : decode cX10_drawn 158 = .ok (.iinc 6 1, 3) := by decide +kernel
theorem dX10_drawn_161 : decode cX10_drawn 161 = .ok (.goto (-125), 3) := by decide +kernel
theorem dX10_drawn_164 : decode cX10_drawn 164 = .ok (.iload 5, 2) := by decide +kernel
theorem dX10_drawn_166 : decode cX10_drawn 166 = .ok (.ireturn, 1) := by decide +kernel
theorem dX10_second_0 : decode cX10_second 0 = .ok (.aload_n 0, 1) := by decide +kernel
theorem dX10_second_1 : decode cX10_second 1 = .ok (.getfield 160, 3) := by decide +kernel
theorem dX10_second_4 : decode cX10_second 4 = .ok (.sipush 999, 3) := by decide +kernel
theorem dX10_second_7 : decode cX10_second 7 = .ok (.if_icmp .ne 6, 3) := by decide +kernel
theorem dX10_second_10 : decode cX10_second 10 = .ok (.bipush (-5), 2) := by decide +kernel
theorem dX10_second_12 : decode cX10_second 12 = .ok (.ireturn, 1) := by decide +kernel
theorem dX10_second_13 : decode cX10_second 13 = .ok (.aload_n 0, 1) := by decide +kernel
theorem dX10_second_14 : decode cX10_second 14 = .ok (.invokevirtual 258, 3) := by decide +kernel
theorem dX10_second_17 : decode cX10_second 17 = .ok (.aload_n 0, 1) := by decide +kernel
theorem dX10_second_18 : decode cX10_second 18 = .ok (.invokevirtual 253, 3) := by decide +kernel
theorem dX10_second_21 : decode cX10_second 21 = .ok (.aload_n 0, 1) := by decide +kernel
theorem dX10_second_22 : decode cX10_second 22 = .ok (.aload_n 0, 1) := by decide +kernel
theorem dX10_second_23 : decode cX10_second 23 = .ok (.getfield 225, 3) := by decide +kernel
theorem dX10_second_26 : decode cX10_second 26 = .ok (.putfield 93, 3) := by decide +kernel
theorem dX10_second_29 : decode cX10_second 29 = .ok (.aload_n 0, 1) := by decide +kernel
theorem dX10_second_30 : decode cX10_second 30 = .ok (.aload_n 0, 1) := by decide +kernel
theorem dX10_second_31 : decode cX10_second 31 = .ok (.getfield 228, 3) := by decide +kernel
theorem dX10_second_34 : decode cX10_second 34 = .ok (.putfield 157, 3) := by decide +kernel
theorem dX10_second_37 : decode cX10_second 37 = .ok (.aload_n 0, 1) := by decide +kernel
theorem dX10_second_38 : decode cX10_second 38 = .ok (.aload_n 0, 1) := by decide +kernel
theorem dX10_second_39 : decode cX10_second 39 = .ok (.getfield 231, 3) := by decide +kernel
theorem dX10_second_42 : decode cX10_second 42 = .ok (.putfield 160, 3) := by decide +kernel
theorem dX10_second_45 : decode cX10_second 45 = .ok (.iconst 0, 1) := by decide +kernel
theorem dX10_second_46 : decode cX10_second 46 = .ok (.istore_n 1, 1) := by decide +kernel
theorem dX10_second_47 : decode cX10_second 47 = .ok (.iload_n 1, 1) := by decide +kernel
theorem dX10_second_48 : decode cX10_second 48 = .ok (.aload_n 0, 1) := by decide +kernel
theorem dX10_second_49 : decode cX10_second 49 = .ok (.getfield 102, 3) := by decide +kernel
theorem dX10_second_52 : decode cX10_second 52 = .ok (.if_icmp .ge 71, 3) := by decide +kernel
theorem dX10_second_55 : decode cX10_second 55 = .ok (.aload_n 0, 1) := by decide +kernel
theorem dX10_second_56 : decode cX10_second 56 = .ok (.getfield 22, 3) := by decide +kernel
theorem dX10_second_59 : decode cX10_second 59 = .ok (.iload_n 1, 1) := by decide +kernel
theorem dX10_second_60 : decode cX10_second 60 = .ok (.aload_n 0, 1) := by decide +kernel
theorem dX10_second_61 : decode cX10_second 61 = .ok (.getfield 34, 3) := by decide +kernel
theorem dX10_second_64 : decode cX10_second 64 = .ok (.iload_n 1, 1) := by decide +kernel
theorem dX10_second_65 : decode cX10_second 65 = .ok (.iaload, 1) := by decide +kernel
theorem dX10_second_66 : decode cX10_second 66 = .ok (.iastore, 1) := by decide +kernel
theorem dX10_second_67 : decode cX10_second 67 = .ok (.aload_n 0, 1) := by decide +kernel
theorem dX10_second_68 : decode cX10_second 68 = .ok (.getfield 58, 3) := by decide +kernel
theorem dX10_second_71 : decode cX10_second 71 = .ok (.iload_n 1, 1) := by decide +kernel
theorem dX10_second_72 : decode cX10_second 72 = .ok (.dup2, 1) := by decide +kernel
theorem dX10_second_73 : decode cX10_second 73 = .ok (.iaload, 1) := by decide +kernel
theorem dX10_second_74 : decode cX10_second 74 = .ok (.aload_n 0, 1) := by decide +kernel
theorem dX10_second_75 : decode cX10_second 75 = .ok (.getfield 37, 3) := by decide +kernel
theorem dX10_second_78 : decode cX10_second 78 = .ok (.iload_n 1, 1) := by decide +kernel
theorem dX10_second_79 : decode cX10_second 79 = .ok (.iaload, 1) := by decide +kernel
theorem dX10_second_80 : decode cX10_second 80 = .ok (.iadd, 1) := by decide +kernel
theorem dX10_second_81 : decode cX10_second 81 = .ok (.iastore, 1) := by decide +kernel
theorem dX10_second_82 : decode cX10_second 82 = .ok (.aload_n 0, 1) := by decide +kernel
theorem dX10_second_83 : decode cX10_second 83 = .ok (.getfield 61, 3) := by decide +kernel
theorem dX10_second_86 : decode cX10_second 86 = .ok (.iload_n 1, 1) := by decide +kernel
theorem dX10_second_87 : decode cX10_second 87 = .ok (.dup2, 1) := by decide +kernel
theorem dX10_second_88 : decode cX10_second 88 = .ok (.iaload, 1) := by decide +kernel
theorem dX10_second_89 : decode cX10_second 89 = .ok (.aload_n 0, 1) := by decide +kernel
theorem dX10_second_90 : decode cX10_second 90 = .ok (.iload_n 1, 1) := by decide +kernel
theorem dX10_second_91 : decode cX10_second 91 = .ok (.aload_n 0, 1) := by decide +kernel
theorem dX10_second_92 : decode cX10_second 92 = .ok (.getfield 37, 3) := by decide +kernel
theorem dX10_second_95 : decode cX10_second 95 = .ok (.iload_n 1, 1) := by decide +kernel
theorem dX10_second_96 : decode cX10_second 96 = .ok (.iaload, 1) := by decide +kernel
theorem dX10_second_97 : decode cX10_second 97 = .ok (.invokevirtual 265, 3) := by decide +kernel
theorem dX10_second_100 : decode cX10_second 100 = .ok (.iadd, 1) := by decide +kernel
theorem dX10_second_101 : decode cX10_second 101 = .ok (.iastore, 1) := by decide +kernel
theorem dX10_second_102 : decode cX10_second 102 = .ok (.aload_n 0, 1) := by decide +kernel
theorem dX10_second_103 : decode cX10_second 103 = .ok (.getfield 64, 3) := by decide +kernel
theorem dX10_second_106 : decode cX10_second 106 = .ok (.iload_n 1, 1) := by decide +kernel
theorem dX10_second_107 : decode cX10_second 107 = .ok (.dup2, 1) := by decide +kernel
theorem dX10_second_108 : decode cX10_second 108 = .ok (.iaload, 1) := by decide +kernel
theorem dX10_second_109 : decode cX10_second 109 = .ok (.aload_n 0, 1) := by decide +kernel
theorem dX10_second_110 : decode cX10_second 110 = .ok (.getfield 40, 3) := by decide +kernel
theorem dX10_second_113 : decode cX10_second 113 = .ok (.iload_n 1, 1) := by decide +kernel
theorem dX10_second_114 : decode cX10_second 114 = .ok (.iaload, 1) := by decide +kernel
theorem dX10_second_115 : decode cX10_second 115 = .ok (.iadd, 1) := by decide +kernel
theorem dX10_second_116 : decode cX10_second 116 = .ok (.iastore, 1) := by decide +kernel
theorem dX10_second_117 : decode cX10_second 117 = .ok (.iinc 1 1, 3) := by decide +kernel
theorem dX10_second_120 : decode cX10_second 120 = .ok (.goto (-73), 3) := by decide +kernel
theorem dX10_second_123 : decode cX10_second 123 = .ok (.aload_n 0, 1) := by decide +kernel
theorem dX10_second_124 : decode cX10_second 124 = .ok (.dup, 1) := by decide +kernel
theorem dX10_second_125 : decode cX10_second 125 = .ok (.getfield 301, 3) := by decide +kernel
theorem dX10_second_128 : decode cX10_second 128 = .ok (.iconst 1, 1) := by decide +kernel
theorem dX10_second_129 : decode cX10_second 129 = .ok (.iadd, 1) := by decide +kernel
theorem dX10_second_130 : decode cX10_second 130 = .ok (.putfield 301, 3) := by decide +kernel
theorem dX10_second_133 : decode cX10_second 133 = .ok (.aload_n 0, 1) := by decide +kernel
theorem dX10_second_134 : decode cX10_second 134 = .ok (.getfield 93, 3) := by decide +kernel
theorem dX10_second_137 : decode cX10_second 137 = .ok (.ireturn, 1) := by decide +kernel
theorem dX10_fill_0 : decode cX10_fill 0 = .ok (.iload_n 1, 1) := by decide +kernel
theorem dX10_fill_1 : decode cX10_fill 1 = .ok (.i2l, 1) := by decide +kernel
theorem dX10_fill_2 : decode cX10_fill 2 = .ok (.lconst 0, 1) := by decide +kernel
theorem dX10_fill_3 : decode cX10_fill 3 = .ok (.ldc2_w 113, 3) := by decide +kernel
theorem dX10_fill_6 : decode cX10_fill 6 = .ok (.invokestatic 105, 3) := by decide +kernel
theorem dX10_fill_9 : decode cX10_fill 9 = .ok (.ifCond .ne 5, 3) := by decide +kernel
theorem dX10_fill_12 : decode cX10_fill 12 = .ok (.iconst (-1), 1) := by decide +kernel
theorem dX10_fill_13 : decode cX10_fill 13 = .ok (.ireturn, 1) := by decide +kernel
theorem dX10_fill_14 : decode cX10_fill 14 = .ok (.aload_n 0, 1) := by decide +kernel
theorem dX10_fill_15 : decode cX10_fill 15 = .ok (.getfield 93, 3) := by decide +kernel
theorem dX10_fill_18 : decode cX10_fill 18 = .ok (.istore_n 2, 1) := by decide +kernel
theorem dX10_fill_19 : decode cX10_fill 19 = .ok (.aload_n 0, 1) := by decide +kernel
theorem dX10_fill_20 : decode cX10_fill 20 = .ok (.iload_n 1, 1) := by decide +kernel
theorem dX10_fill_21 : decode cX10_fill 21 = .ok (.putfield 93, 3) := by decide +kernel
theorem dX10_fill_24 : decode cX10_fill 24 = .ok (.aload_n 0, 1) := by decide +kernel
theorem dX10_fill_25 : decode cX10_fill 25 = .ok (.iconst 0, 1) := by decide +kernel
theorem dX10_fill_26 : decode cX10_fill 26 = .ok (.putfield 160, 3) := by decide +kernel
theorem dX10_fill_29 : decode cX10_fill 29 = .ok (.iconst 0, 1) := by decide +kernel
theorem dX10_fill_30 : decode cX10_fill 30 = .ok (.istore_n 3, 1) := by decide +kernel
theorem dX10_fill_31 : decode cX10_fill 31 = .ok (.iload_n 3, 1) := by decide +kernel
theorem dX10_fill_32 : decode cX10_fill 32 = .ok (.iconst 3, 1) := by decide +kernel
theorem dX10_fill_33 : decode cX10_fill 33 = .ok (.if_icmp .ge 16, 3) := by decide +kernel
theorem dX10_fill_36 : decode cX10_fill 36 = .ok (.aload_n 0, 1) := by decide +kernel
theorem dX10_fill_37 : decode cX10_fill 37 = .ok (.getfield 22, 3) := by decide +kernel
theorem dX10_fill_40 : decode cX10_fill 40 = .ok (.iload_n 3, 1) := by decide +kernel
theorem dX10_fill_41 : decode cX10_fill 41 = .ok (.iconst 0, 1) := by decide +kernel
theorem dX10_fill_42 : decode cX10_fill 42 = .ok (.iastore, 1) := by decide +kernel
theorem dX10_fill_43 : decode cX10_fill 43 = .ok (.iinc 3 1, 3) := by decide +kernel
theorem dX10_fill_46 : decode cX10_fill 46 = .ok (.goto (-15), 3) := by decide +kernel
theorem dX10_fill_49 : decode cX10_fill 49 = .ok (.aload_n 0, 1) := by decide +kernel
theorem dX10_fill_50 : decode cX10_fill 50 = .ok (.dup, 1) := by decide +kernel
theorem dX10_fill_51 : decode cX10_fill 51 = .ok (.getfield 304, 3) := by decide +kernel
theorem dX10_fill_54 : decode cX10_fill 54 = .ok (.iconst 1, 1) := by decide +kernel
theorem dX10_fill_55 : decode cX10_fill 55 = .ok (.iadd, 1) := by decide +kernel
theorem dX10_fill_56 : decode cX10_fill 56 = .ok (.putfield 304, 3) := by decide +kernel
theorem dX10_fill_59 : decode cX10_fill 59 = .ok (.iload_n 2, 1) := by decide +kernel
theorem dX10_fill_60 : decode cX10_fill 60 = .ok (.ireturn, 1) := by decide +kernel
theorem dX10_ice_0 : decode cX10_ice 0 = .ok (.iload_n 1, 1) := by decide +kernel
theorem dX10_ice_1 : decode cX10_ice 1 = .ok (.i2l, 1) := by decide +kernel
theorem dX10_ice_2 : decode cX10_ice 2 = .ok (.lconst 1, 1) := by decide +kernel
theorem dX10_ice_3 : decode cX10_ice 3 = .ok (.ldc2_w 137, 3) := by decide +kernel
theorem dX10_ice_6 : decode cX10_ice 6 = .ok (.invokestatic 105, 3) := by decide +kernel
theorem dX10_ice_9 : decode cX10_ice 9 = .ok (.ifCond .ne 5, 3) := by decide +kernel
theorem dX10_ice_12 : decode cX10_ice 12 = .ok (.iconst (-1), 1) := by decide +kernel
theorem dX10_ice_13 : decode cX10_ice 13 = .ok (.ireturn, 1) := by decide +kernel
theorem dX10_ice_14 : decode cX10_ice 14 = .ok (.aload_n 0, 1) := by decide +kernel
theorem dX10_ice_15 : decode cX10_ice 15 = .ok (.getfield 157, 3) := by decide +kernel
theorem dX10_ice_18 : decode cX10_ice 18 = .ok (.iload_n 1, 1) := by decide +kernel
theorem dX10_ice_19 : decode cX10_ice 19 = .ok (.iadd, 1) := by decide +kernel
theorem dX10_ice_20 : decode cX10_ice 20 = .ok (.bipush 99, 2) := by decide +kernel
theorem dX10_ice_22 : decode cX10_ice 22 = .ok (.if_icmp .le 6, 3) := by decide +kernel
theorem dX10_ice_25 : decode cX10_ice 25 = .ok (.bipush (-5), 2) := by decide +kernel
theorem dX10_ice_27 : decode cX10_ice 27 = .ok (.ireturn, 1) := by decide +kernel
theorem dX10_ice_28 : decode cX10_ice 28 = .ok (.aload_n 0, 1) := by decide +kernel
theorem dX10_ice_29 : decode cX10_ice 29 = .ok (.dup, 1) := by decide +kernel
theorem dX10_ice_30 : decode cX10_ice 30 = .ok (.getfield 157, 3) := by decide +kernel
theorem dX10_ice_33 : decode cX10_ice 33 = .ok (.iload_n 1, 1) := by decide +kernel
theorem dX10_ice_34 : decode cX10_ice 34 = .ok (.iadd, 1) := by decide +kernel
theorem dX10_ice_35 : decode cX10_ice 35 = .ok (.putfield 157, 3) := by decide +kernel
theorem dX10_ice_38 : decode cX10_ice 38 = .ok (.aload_n 0, 1) := by decide +kernel
theorem dX10_ice_39 : decode cX10_ice 39 = .ok (.getfield 157, 3) := by decide +kernel
theorem dX10_ice_42 : decode cX10_ice 42 = .ok (.ireturn, 1) := by decide +kernel
theorem dX10_led_0 : decode cX10_led 0 = .ok (.iload_n 2, 1) := by decide +kernel
theorem dX10_led_1 : decode cX10_led 1 = .ok (.i2l, 1) := by decide +kernel
theorem dX10_led_2 : decode cX10_led 2 = .ok (.lconst 0, 1) := by decide +kernel
theorem dX10_led_3 : decode cX10_led 3 = .ok (.ldc2_w 256, 3) := by decide +kernel
theorem dX10_led_6 : decode cX10_led 6 = .ok (.invokestatic 105, 3) := by decide +kernel
theorem dX10_led_9 : decode cX10_led 9 = .ok (.ifCond .eq 49, 3) := by decide +kernel
theorem dX10_led_12 : decode cX10_led 12 = .ok (.aload_n 0, 1) := by decide +kernel
theorem dX10_led_13 : decode cX10_led 13 = .ok (.iload_n 1, 1) := by decide +kernel
theorem dX10_led_14 : decode cX10_led 14 = .ok (.invokevirtual 130, 3) := by decide +kernel
theorem dX10_led_17 : decode cX10_led 17 = .ok (.ifCond .ne 7, 3) := by decide +kernel
theorem dX10_led_20 : decode cX10_led 20 = .ok (.iconst (-1), 1) := by decide +kernel
theorem dX10_led_21 : decode cX10_led 21 = .ok (.goto 36, 3) := by decide +kernel
theorem dX10_led_24 : decode cX10_led 24 = .ok (.iload_n 2, 1) := by decide +kernel
theorem dX10_led_25 : decode cX10_led 25 = .ok (.ifCond .ne 12, 3) := by decide +kernel
theorem dX10_led_28 : decode cX10_led 28 = .ok (.aload_n 0, 1) := by decide +kernel
theorem dX10_led_29 : decode cX10_led 29 = .ok (.getfield 58, 3) := by decide +kernel
theorem dX10_led_32 : decode cX10_led 32 = .ok (.iload_n 1, 1) := by decide +kernel
theorem dX10_led_33 : decode cX10_led 33 = .ok (.iaload, 1) := by decide +kernel
theorem dX10_led_34 : decode cX10_led 34 = .ok (.goto 23, 3) := by decide +kernel
theorem dX10_led_37 : decode cX10_led 37 = .ok (.iload_n 2, 1) := by decide +kernel
theorem dX10_led_38 : decode cX10_led 38 = .ok (.iconst 1, 1) := by decide +kernel
theorem dX10_led_39 : decode cX10_led 39 = .ok (.if_icmp .ne 12, 3) := by decide +kernel
theorem dX10_led_42 : decode cX10_led 42 = .ok (.aload_n 0, 1) := by decide +kernel
theorem dX10_led_43 : decode cX10_led 43 = .ok (.getfield 61, 3) := by decide +kernel
theorem dX10_led_46 : decode cX10_led 46 = .ok (.iload_n 1, 1) := by decide +kernel
theorem dX10_led_47 : decode cX10_led 47 = .ok (.iaload, 1) := by decide +kernel
theorem dX10_led_48 : decode cX10_led 48 = .ok (.goto 9, 3) := by decide +kernel
theorem dX10_led_51 : decode cX10_led 51 = .ok (.aload_n 0, 1) := by decide +kernel
theorem dX10_led_52 : decode cX10_led 52 = .ok (.getfield 64, 3) := by decide +kernel
theorem dX10_led_55 : decode cX10_led 55 = .ok (.iload_n 1, 1) := by decide +kernel
theorem dX10_led_56 : decode cX10_led 56 = .ok (.iaload, 1) := by decide +kernel
theorem dX10_led_57 : decode cX10_led 57 = .ok (.ireturn, 1) := by decide +kernel
theorem dX10_led_58 : decode cX10_led 58 = .ok (.iload_n 1, 1) := by decide +kernel
theorem dX10_led_59 : decode cX10_led 59 = .ok (.ifCond .ne 15, 3) := by decide +kernel
theorem dX10_led_62 : decode cX10_led 62 = .ok (.iload_n 2, 1) := by decide +kernel
theorem dX10_led_63 : decode cX10_led 63 = .ok (.iconst 3, 1) := by decide +kernel
theorem dX10_led_64 : decode cX10_led 64 = .ok (.if_icmp .ne 10, 3) := by decide +kernel
theorem dX10_led_67 : decode cX10_led 67 = .ok (.aload_n 0, 1) := by decide +kernel
theorem dX10_led_68 : decode cX10_led 68 = .ok (.getfield 301, 3) := by decide +kernel
theorem dX10_led_71 : decode cX10_led 71 = .ok (.goto 20, 3) := by decide +kernel
theorem dX10_led_74 : decode cX10_led 74 = .ok (.iload_n 1, 1) := by decide +kernel
theorem dX10_led_75 : decode cX10_led 75 = .ok (.ifCond .ne 15, 3) := by decide +kernel
theorem dX10_led_78 : decode cX10_led 78 = .ok (.iload_n 2, 1) := by decide +kernel
theorem dX10_led_79 : decode cX10_led 79 = .ok (.iconst 4, 1) := by decide +kernel
theorem dX10_led_80 : decode cX10_led 80 = .ok (.if_icmp .ne 10, 3) := by decide +kernel
theorem dX10_led_83 : decode cX10_led 83 = .ok (.aload_n 0, 1) := by decide +kernel
theorem dX10_led_84 : decode cX10_led 84 = .ok (.getfield 304, 3) := by decide +kernel
theorem dX10_led_87 : decode cX10_led 87 = .ok (.goto 4, 3) := by decide +kernel
theorem dX10_led_90 : decode cX10_led 90 = .ok (.iconst (-1), 1) := by decide +kernel
theorem dX10_led_91 : decode cX10_led 91 = .ok (.ireturn, 1) := by decide +kernel
theorem dX10_image_0 : decode cX10_image 0 = .ok (.aload_n 0, 1) := by decide +kernel
theorem dX10_image_1 : decode cX10_image 1 = .ok (.iconst 1, 1) := by decide +kernel
theorem dX10_image_2 : decode cX10_image 2 = .ok (.putfield 307, 3) := by decide +kernel
theorem dX10_image_5 : decode cX10_image 5 = .ok (.aload_n 0, 1) := by decide +kernel
theorem dX10_image_6 : decode cX10_image 6 = .ok (.aload_n 0, 1) := by decide +kernel
theorem dX10_image_7 : decode cX10_image 7 = .ok (.getfield 102, 3) := by decide +kernel
theorem dX10_image_10 : decode cX10_image 10 = .ok (.putfield 310, 3) := by decide +kernel
theorem dX10_image_13 : decode cX10_image 13 = .ok (.iconst 0, 1) := by decide +kernel
theorem dX10_image_14 : decode cX10_image 14 = .ok (.istore_n 1, 1) := by decide +kernel
theorem dX10_image_15 : decode cX10_image 15 = .ok (.iload_n 1, 1) := by decide +kernel
theorem dX10_image_16 : decode cX10_image 16 = .ok (.iconst 3, 1) := by decide +kernel
theorem dX10_image_17 : decode cX10_image 17 = .ok (.if_icmp .ge 71, 3) := by decide +kernel
theorem dX10_image_20 : decode cX10_image 20 = .ok (.aload_n 0, 1) := by decide +kernel
theorem dX10_image_21 : decode cX10_image 21 = .ok (.getfield 67, 3) := by decide +kernel
theorem dX10_image_24 : decode cX10_image 24 = .ok (.iconst 4, 1) := by decide +kernel
theorem dX10_image_25 : decode cX10_image 25 = .ok (.iload_n 1, 1) := by decide +kernel
theorem dX10_image_26 : decode cX10_image 26 = .ok (.imul, 1) := by decide +kernel
theorem dX10_image_27 : decode cX10_image 27 = .ok (.aload_n 0, 1) := by decide +kernel
theorem dX10_image_28 : decode cX10_image 28 = .ok (.getfield 22, 3) := by decide +kernel
theorem dX10_image_31 : decode cX10_image 31 = .ok (.iload_n 1, 1) := by decide +kernel
theorem dX10_image_32 : decode cX10_image 32 = .ok (.iaload, 1) := by decide +kernel
theorem dX10_image_33 : decode cX10_image 33 = .ok (.iastore, 1) := by decide +kernel
theorem dX10_image_34 : decode cX10_image 34 = .ok (.aload_n 0, 1) := by decide +kernel
theorem dX10_image_35 : decode cX10_image 35 = .ok (.getfield 67, 3) := by decide +kernel
theorem dX10_image_38 : decode cX10_image 38 = .ok (.iconst 4, 1) := by decide +kernel
theorem dX10_image_39 : decode cX10_image 39 = .ok (.iload_n 1, 1) := by decide +kernel
theorem dX10_image_40 : decode cX10_image 40 = .ok (.imul, 1) := by decide +kernel
theorem dX10_image_41 : decode cX10_image 41 = .ok (.iconst 1, 1) := by decide +kernel
theorem dX10_image_42 : decode cX10_image 42 = .ok (.iadd, 1) := by decide +kernel
theorem dX10_image_43 : decode cX10_image 43 = .ok (.aload_n 0, 1) := by decide +kernel
theorem dX10_image_44 : decode cX10_image 44 = .ok (.getfield 58, 3) := by decide +kernel
theorem dX10_image_47 : decode cX10_image 47 = .ok (.iload_n 1, 1) := by decide +kernel
theorem dX10_image_48 : decode cX10_image 48 = .ok (.iaload, 1) := by decide +kernel
theorem dX10_image_49 : decode cX10_image 49 = .ok (.iastore, 1) := by decide +kernel
theorem dX10_image_50 : decode cX10_image 50 = .ok (.aload_n 0, 1) := by decide +kernel
theorem dX10_image_51 : decode cX10_image 51 = .ok (.getfield 67, 3) := by decide +kernel
theorem dX10_image_54 : decode cX10_image 54 = .ok (.iconst 4, 1) := by decide +kernel
theorem dX10_image_55 : decode cX10_image 55 = .ok (.iload_n 1, 1) := by decide +kernel
theorem dX10_image_56 : decode cX10_image 56 = .ok (.imul, 1) := by decide +kernel
theorem dX10_image_57 : decode cX10_image 57 = .ok (.iconst 2, 1) := by decide +kernel
theorem dX10_image_58 : decode cX10_image 58 = .ok (.iadd, 1) := by decide +kernel
theorem dX10_image_59 : decode cX10_image 59 = .ok (.aload_n 0, 1) := by decide +kernel
theorem dX10_image_60 : decode cX10_image 60 = .ok (.getfield 61, 3) := by decide +kernel
theorem dX10_image_63 : decode cX10_image 63 = .ok (.iload_n 1, 1) := by decide +kernel
theorem dX10_image_64 : decode cX10_image 64 = .ok (.iaload, 1) := by decide +kernel
theorem dX10_image_65 : decode cX10_image 65 = .ok (.iastore, 1) := by decide +kernel
theorem dX10_image_66 : decode cX10_image 66 = .ok (.aload_n 0, 1) := by decide +kernel
theorem dX10_image_67 : decode cX10_image 67 = .ok (.getfield 67, 3) := by decide +kernel
theorem dX10_image_70 : decode cX10_image 70 = .ok (.iconst 4, 1) := by decide +kernel
theorem dX10_image_71 : decode cX10_image 71 = .ok (.iload_n 1, 1) := by decide +kernel
theorem dX10_image_72 : decode cX10_image 72 = .ok (.imul, 1) := by decide +kernel
theorem dX10_image_73 : decode cX10_image 73 = .ok (.iconst 3, 1) := by decide +kernel
theorem dX10_image_74 : decode cX10_image 74 = .ok (.iadd, 1) := by decide +kernel
theorem dX10_image_75 : decode cX10_image 75 = .ok (.aload_n 0, 1) := by decide +kernel
theorem dX10_image_76 : decode cX10_image 76 = .ok (.getfield 64, 3) := by decide +kernel
theorem dX10_image_79 : decode cX10_image 79 = .ok (.iload_n 1, 1) := by decide +kernel
theorem dX10_image_80 : decode cX10_image 80 = .ok (.iaload, 1) := by decide +kernel
theorem dX10_image_81 : decode cX10_image 81 = .ok (.iastore, 1) := by decide +kernel
theorem dX10_image_82 : decode cX10_image 82 = .ok (.iinc 1 1, 3) := by decide +kernel
theorem dX10_image_85 : decode cX10_image 85 = .ok (.goto (-70), 3) := by decide +kernel
theorem dX10_image_88 : decode cX10_image 88 = .ok (.aload_n 0, 1) := by decide +kernel
theorem dX10_image_89 : decode cX10_image 89 = .ok (.getfield 67, 3) := by decide +kernel
theorem dX10_image_92 : decode cX10_image 92 = .ok (.bipush 12, 2) := by decide +kernel
theorem dX10_image_94 : decode cX10_image 94 = .ok (.aload_n 0, 1) := by decide +kernel
theorem dX10_image_95 : decode cX10_image 95 = .ok (.getfield 93, 3) := by decide +kernel
theorem dX10_image_98 : decode cX10_image 98 = .ok (.iastore, 1) := by decide +kernel
theorem dX10_image_99 : decode cX10_image 99 = .ok (.aload_n 0, 1) := by decide +kernel
theorem dX10_image_100 : decode cX10_image 100 = .ok (.getfield 67, 3) := by decide +kernel
theorem dX10_image_103 : decode cX10_image 103 = .ok (.bipush 13, 2) := by decide +kernel
theorem dX10_image_105 : decode cX10_image 105 = .ok (.aload_n 0, 1) := by decide +kernel
theorem dX10_image_106 : decode cX10_image 106 = .ok (.getfield 157, 3) := by decide +kernel
theorem dX10_image_109 : decode cX10_image 109 = .ok (.iastore, 1) := by decide +kernel
theorem dX10_image_110 : decode cX10_image 110 = .ok (.aload_n 0, 1) := by decide +kernel
theorem dX10_image_111 : decode cX10_image 111 = .ok (.getfield 67, 3) := by decide +kernel
theorem dX10_image_114 : decode cX10_image 114 = .ok (.bipush 14, 2) := by decide +kernel
theorem dX10_image_116 : decode cX10_image 116 = .ok (.aload_n 0, 1) := by decide +kernel
theorem dX10_image_117 : decode cX10_image 117 = .ok (.getfield 160, 3) := by decide +kernel
theorem dX10_image_120 : decode cX10_image 120 = .ok (.iastore, 1) := by decide +kernel
theorem dX10_image_121 : decode cX10_image 121 = .ok (.aload_n 0, 1) := by decide +kernel
theorem dX10_image_122 : decode cX10_image 122 = .ok (.getfield 67, 3) := by decide +kernel
theorem dX10_image_125 : decode cX10_image 125 = .ok (.bipush 15, 2) := by decide +kernel
theorem dX10_image_127 : decode cX10_image 127 = .ok (.aload_n 0, 1) := by decide +kernel
theorem dX10_image_128 : decode cX10_image 128 = .ok (.getfield 301, 3) := by decide +kernel
theorem dX10_image_131 : decode cX10_image 131 = .ok (.iastore, 1) := by decide +kernel
theorem dX10_image_132 : decode cX10_image 132 = .ok (.aload_n 0, 1) := by decide +kernel
theorem dX10_image_133 : decode cX10_image 133 = .ok (.getfield 67, 3) := by decide +kernel
theorem dX10_image_136 : decode cX10_image 136 = .ok (.bipush 16, 2) := by decide +kernel
theorem dX10_image_138 : decode cX10_image 138 = .ok (.aload_n 0, 1) := by decide +kernel
theorem dX10_image_139 : decode cX10_image 139 = .ok (.getfield 304, 3) := by decide +kernel
theorem dX10_image_142 : decode cX10_image 142 = .ok (.iastore, 1) := by decide +kernel
theorem dX10_image_143 : decode cX10_image 143 = .ok (.aload_n 0, 1) := by decide +kernel
theorem dX10_image_144 : decode cX10_image 144 = .ok (.getfield 93, 3) := by decide +kernel
theorem dX10_image_147 : decode cX10_image 147 = .ok (.ireturn, 1) := by decide +kernel
theorem dX10_back_0 : decode cX10_back 0 = .ok (.aload_n 0, 1) := by decide +kernel
theorem dX10_back_1 : decode cX10_back 1 = .ok (.getfield 307, 3) := by decide +kernel
theorem dX10_back_4 : decode cX10_back 4 = .ok (.ifCond .ne 6, 3) := by decide +kernel
theorem dX10_back_7 : decode cX10_back 7 = .ok (.bipush (-5), 2) := by decide +kernel
theorem dX10_back_9 : decode cX10_back 9 = .ok (.ireturn, 1) := by decide +kernel
theorem dX10_back_10 : decode cX10_back 10 = .ok (.iconst 0, 1) := by decide +kernel
theorem dX10_back_11 : decode cX10_back 11 = .ok (.istore_n 1, 1) := by decide +kernel
theorem dX10_back_12 : decode cX10_back 12 = .ok (.iload_n 1, 1) := by decide +kernel
theorem dX10_back_13 : decode cX10_back 13 = .ok (.iconst 3, 1) := by decide +kernel
theorem dX10_back_14 : decode cX10_back 14 = .ok (.if_icmp .ge 117, 3) := by decide +kernel
theorem dX10_back_17 : decode cX10_back 17 = .ok (.iload_n 1, 1) := by decide +kernel
theorem dX10_back_18 : decode cX10_back 18 = .ok (.aload_n 0, 1) := by decide +kernel
theorem dX10_back_19 : decode cX10_back 19 = .ok (.getfield 310, 3) := by decide +kernel
theorem dX10_back_22 : decode cX10_back 22 = .ok (.if_icmp .ge 7, 3) := by decide +kernel
theorem dX10_back_25 : decode cX10_back 25 = .ok (.iconst 1, 1) := by decide +kernel
theorem dX10_back_26 : decode cX10_back 26 = .ok (.goto 4, 3) := by decide +kernel
theorem dX10_back_29 : decode cX10_back 29 = .ok (.iconst 0, 1) := by decide +kernel
theorem dX10_back_30 : decode cX10_back 30 = .ok (.istore_n 2, 1) := by decide +kernel
theorem dX10_back_31 : decode cX10_back 31 = .ok (.aload_n 0, 1) := by decide +kernel
theorem dX10_back_32 : decode cX10_back 32 = .ok (.getfield 22, 3) := by decide +kernel
theorem dX10_back_35 : decode cX10_back 35 = .ok (.iload_n 1, 1) := by decide +kernel
theorem dX10_back_36 : decode cX10_back 36 = .ok (.iload_n 2, 1) := by decide +kernel
theorem dX10_back_37 : decode cX10_back 37 = .ok (.ifCond .eq 14, 3) := by decide +kernel
theorem dX10_back_40 : decode cX10_back 40 = .ok (.aload_n 0, 1) := by decide +kernel
theorem dX10_back_41 : decode cX10_back 41 = .ok (.getfield 67, 3) := by decide +kernel
theorem dX10_back_44 : decode cX10_back 44 = .ok (.iconst 4, 1) := by decide +kernel
theorem dX10_back_45 : decode cX10_back 45 = .ok (.iload_n 1, 1) := by decide +kernel
theorem dX10_back_46 : decode cX10_back 46 = .ok (.imul, 1) := by decide +kernel
theorem dX10_back_47 : decode cX10_back 47 = .ok (.iaload, 1) := by decide +kernel
theorem dX10_back_48 : decode cX10_back 48 = .ok (.goto 4, 3) := by decide +kernel
theorem dX10_back_51 : decode cX10_back 51 = .ok (.iconst 0, 1) := by decide +kernel
theorem dX10_back_52 : decode cX10_back 52 = .ok (.iastore, 1) := by decide +kernel
theorem dX10_back_53 : decode cX10_back 53 = .ok (.aload_n 0, 1) := by decide +kernel
theorem dX10_back_54 : decode cX10_back 54 = .ok (.getfield 58, 3) := by decide +kernel
theorem dX10_back_57 : decode cX10_back 57 = .ok (.iload_n 1, 1) := by decide +kernel
theorem dX10_back_58 : decode cX10_back 58 = .ok (.iload_n 2, 1) := by decide +kernel
theorem dX10_back_59 : decode cX10_back 59 = .ok (.ifCond .eq 16, 3) := by decide +kernel
theorem dX10_back_62 : decode cX10_back 62 = .ok (.aload_n 0, 1) := by decide +kernel
theorem dX10_back_63 : decode cX10_back 63 = .ok (.getfield 67, 3) := by decide +kernel
theorem dX10_back_66 : decode cX10_back 66 = .ok (.iconst 4, 1) := by decide +kernel
theorem dX10_back_67 : decode cX10_back 67 = .ok (.iload_n 1, 1) := by decide +kernel
theorem dX10_back_68 : decode cX10_back 68 = .ok (.imul, 1) := by decide +kernel
theorem dX10_back_69 : decode cX10_back 69 = .ok (.iconst 1, 1) := by decide +kernel
theorem dX10_back_70 : decode cX10_back 70 = .ok (.iadd, 1) := by decide +kernel
theorem dX10_back_71 : decode cX10_back 71 = .ok (.iaload, 1) := by decide +kernel
theorem dX10_back_72 : decode cX10_back 72 = .ok (.goto 4, 3) := by decide +kernel
theorem dX10_back_75 : decode cX10_back 75 = .ok (.iconst 0, 1) := by decide +kernel
theorem dX10_back_76 : decode cX10_back 76 = .ok (.iastore, 1) := by decide +kernel
theorem dX10_back_77 : decode cX10_back 77 = .ok (.aload_n 0, 1) := by decide +kernel
theorem dX10_back_78 : decode cX10_back 78 = .ok (.getfield 61, 3) := by decide +kernel
theorem dX10_back_81 : decode cX10_back 81 = .ok (.iload_n 1, 1) := by decide +kernel
theorem dX10_back_82 : decode cX10_back 82 = .ok (.iload_n 2, 1) := by decide +kernel
theorem dX10_back_83 : decode cX10_back 83 = .ok (.ifCond .eq 16, 3) := by decide +kernel
theorem dX10_back_86 : decode cX10_back 86 = .ok (.aload_n 0, 1) := by decide +kernel
theorem dX10_back_87 : decode cX10_back 87 = .ok (.getfield 67, 3) := by decide +kernel
theorem dX10_back_90 : decode cX10_back 90 = .ok (.iconst 4, 1) := by decide +kernel
theorem dX10_back_91 : decode cX10_back 91 = .ok (.iload_n 1, 1) := by decide +kernel
theorem dX10_back_92 : decode cX10_back 92 = .ok (.imul, 1) := by decide +kernel
theorem dX10_back_93 : decode cX10_back 93 = .ok (.iconst 2, 1) := by decide +kernel
theorem dX10_back_94 : decode cX10_back 94 = .ok (.iadd, 1) := by decide +kernel
theorem dX10_back_95 : decode cX10_back 95 = .ok (.iaload, 1) := by decide +kernel
theorem dX10_back_96 : decode cX10_back 96 = .ok (.goto 4, 3) := by decide +kernel
theorem dX10_back_99 : decode cX10_back 99 = .ok (.iconst 0, 1) := by decide +kernel
theorem dX10_back_100 : decode cX10_back 100 = .ok (.iastore, 1) := by decide +kernel
theorem dX10_back_101 : decode cX10_back 101 = .ok (.aload_n 0, 1) := by decide +kernel
theorem dX10_back_102 : decode cX10_back 102 = .ok (.getfield 64, 3) := by decide +kernel
theorem dX10_back_105 : decode cX10_back 105 = .ok (.iload_n 1, 1) := by decide +kernel
theorem dX10_back_106 : decode cX10_back 106 = .ok (.iload_n 2, 1) := by decide +kernel
theorem dX10_back_107 : decode cX10_back 107 = .ok (.ifCond .eq 16, 3) := by decide +kernel
theorem dX10_back_110 : decode cX10_back 110 = .ok (.aload_n 0, 1) := by decide +kernel
theorem dX10_back_111 : decode cX10_back 111 = .ok (.getfield 67, 3) := by decide +kernel
theorem dX10_back_114 : decode cX10_back 114 = .ok (.iconst 4, 1) := by decide +kernel
theorem dX10_back_115 : decode cX10_back 115 = .ok (.iload_n 1, 1) := by decide +kernel
theorem dX10_back_116 : decode cX10_back 116 = .ok (.imul, 1) := by decide +kernel
theorem dX10_back_117 : decode cX10_back 117 = .ok (.iconst 3, 1) := by decide +kernel
theorem dX10_back_118 : decode cX10_back 118 = .ok (.iadd, 1) := by decide +kernel
theorem dX10_back_119 : decode cX10_back 119 = .ok (.iaload, 1) := by decide +kernel
theorem dX10_back_120 : decode cX10_back 120 = .ok (.goto 4, 3) := by decide +kernel
theorem dX10_back_123 : decode cX10_back 123 = .ok (.iconst 0, 1) := by decide +kernel
theorem dX10_back_124 : decode cX10_back 124 = .ok (.iastore, 1) := by decide +kernel
theorem dX10_back_125 : decode cX10_back 125 = .ok (.iinc 1 1, 3) := by decide +kernel
theorem dX10_back_128 : decode cX10_back 128 = .ok (.goto (-116), 3) := by decide +kernel
theorem dX10_back_131 : decode cX10_back 131 = .ok (.aload_n 0, 1) := by decide +kernel
theorem dX10_back_132 : decode cX10_back 132 = .ok (.aload_n 0, 1) := by decide +kernel
theorem dX10_back_133 : decode cX10_back 133 = .ok (.getfield 67, 3) := by decide +kernel
theorem dX10_back_136 : decode cX10_back 136 = .ok (.bipush 12, 2) := by decide +kernel
theorem dX10_back_138 : decode cX10_back 138 = .ok (.iaload, 1) := by decide +kernel
theorem dX10_back_139 : decode cX10_back 139 = .ok (.putfield 93, 3) := by decide +kernel
theorem dX10_back_142 : decode cX10_back 142 = .ok (.aload_n 0, 1) := by decide +kernel
theorem dX10_back_143 : decode cX10_back 143 = .ok (.aload_n 0, 1) := by decide +kernel
theorem dX10_back_144 : decode cX10_back 144 = .ok (.getfield 67, 3) := by decide +kernel
theorem dX10_back_147 : decode cX10_back 147 = .ok (.bipush 13, 2) := by decide +kernel
theorem dX10_back_149 : decode cX10_back 149 = .ok (.iaload, 1) := by decide +kernel
theorem dX10_back_150 : decode cX10_back 150 = .ok (.putfield 157, 3) := by decide +kernel
theorem dX10_back_153 : decode cX10_back 153 = .ok (.aload_n 0, 1) := by decide +kernel
theorem dX10_back_154 : decode cX10_back 154 = .ok (.aload_n 0, 1) := by decide +kernel
theorem dX10_back_155 : decode cX10_back 155 = .ok (.getfield 67, 3) := by decide +kernel
theorem dX10_back_158 : decode cX10_back 158 = .ok (.bipush 14, 2) := by decide +kernel
theorem dX10_back_160 : decode cX10_back 160 = .ok (.iaload, 1) := by decide +kernel
theorem dX10_back_161 : decode cX10_back 161 = .ok (.putfield 160, 3) := by decide +kernel
theorem dX10_back_164 : decode cX10_back 164 = .ok (.aload_n 0, 1) := by decide +kernel
theorem dX10_back_165 : decode cX10_back 165 = .ok (.aload_n 0, 1) := by decide +kernel
theorem dX10_back_166 : decode cX10_back 166 = .ok (.getfield 67, 3) := by decide +kernel
theorem dX10_back_169 : decode cX10_back 169 = .ok (.bipush 15, 2) := by decide +kernel
theorem dX10_back_171 : decode cX10_back 171 = .ok (.iaload, 1) := by decide +kernel
theorem dX10_back_172 : decode cX10_back 172 = .ok (.putfield 301, 3) := by decide +kernel
theorem dX10_back_175 : decode cX10_back 175 = .ok (.aload_n 0, 1) := by decide +kernel
theorem dX10_back_176 : decode cX10_back 176 = .ok (.aload_n 0, 1) := by decide +kernel
theorem dX10_back_177 : decode cX10_back 177 = .ok (.getfield 67, 3) := by decide +kernel
theorem dX10_back_180 : decode cX10_back 180 = .ok (.bipush 16, 2) := by decide +kernel
theorem dX10_back_182 : decode cX10_back 182 = .ok (.iaload, 1) := by decide +kernel
theorem dX10_back_183 : decode cX10_back 183 = .ok (.putfield 304, 3) := by decide +kernel
theorem dX10_back_186 : decode cX10_back 186 = .ok (.aload_n 0, 1) := by decide +kernel
theorem dX10_back_187 : decode cX10_back 187 = .ok (.getfield 93, 3) := by decide +kernel
theorem dX10_back_190 : decode cX10_back 190 = .ok (.ireturn, 1) := by decide +kernel
theorem dX10_isBody_0 : decode cX10_isBody 0 = .ok (.iload_n 1, 1) := by decide +kernel
theorem dX10_isBody_1 : decode cX10_isBody 1 = .ok (.i2l, 1) := by decide +kernel
theorem dX10_isBody_2 : decode cX10_isBody 2 = .ok (.lconst 0, 1) := by decide +kernel
theorem dX10_isBody_3 : decode cX10_isBody 3 = .ok (.aload_n 0, 1) := by decide +kernel
theorem dX10_isBody_4 : decode cX10_isBody 4 = .ok (.getfield 313, 3) := by decide +kernel
theorem dX10_isBody_7 : decode cX10_isBody 7 = .ok (.iconst 1, 1) := by decide +kernel
theorem dX10_isBody_8 : decode cX10_isBody 8 = .ok (.isub, 1) := by decide +kernel
theorem dX10_isBody_9 : decode cX10_isBody 9 = .ok (.i2l, 1) := by decide +kernel
theorem dX10_isBody_10 : decode cX10_isBody 10 = .ok (.invokestatic 105, 3) := by decide +kernel
theorem dX10_isBody_13 : decode cX10_isBody 13 = .ok (.ireturn, 1) := by decide +kernel
theorem dX10_kindOf_0 : decode cX10_kindOf 0 = .ok (.aload_n 0, 1) := by decide +kernel
theorem dX10_kindOf_1 : decode cX10_kindOf 1 = .ok (.getfield 70, 3) := by decide +kernel
theorem dX10_kindOf_4 : decode cX10_kindOf 4 = .ok (.iload_n 1, 1) := by decide +kernel
theorem dX10_kindOf_5 : decode cX10_kindOf 5 = .ok (.iaload, 1) := by decide +kernel
theorem dX10_kindOf_6 : decode cX10_kindOf 6 = .ok (.ireturn, 1) := by decide +kernel
theorem dX10_body_0 : decode cX10_body 0 = .ok (.iload_n 1, 1) := by decide +kernel
theorem dX10_body_1 : decode cX10_body 1 = .ok (.i2l, 1) := by decide +kernel
theorem dX10_body_2 : decode cX10_body 2 = .ok (.lconst 0, 1) := by decide +kernel
theorem dX10_body_3 : decode cX10_body 3 = .ok (.ldc2_w 128, 3) := by decide +kernel
theorem dX10_body_6 : decode cX10_body 6 = .ok (.invokestatic 105, 3) := by decide +kernel
theorem dX10_body_9 : decode cX10_body 9 = .ok (.ifCond .ne 5, 3) := by decide +kernel
theorem dX10_body_12 : decode cX10_body 12 = .ok (.iconst (-1), 1) := by decide +kernel
theorem dX10_body_13 : decode cX10_body 13 = .ok (.ireturn, 1) := by decide +kernel
theorem dX10_body_14 : decode cX10_body 14 = .ok (.aload_n 0, 1) := by decide +kernel
theorem dX10_body_15 : decode cX10_body 15 = .ok (.getfield 313, 3) := by decide +kernel
theorem dX10_body_18 : decode cX10_body 18 = .ok (.bipush 50, 2) := by decide +kernel
theorem dX10_body_20 : decode cX10_body 20 = .ok (.if_icmp .ne 6, 3) := by decide +kernel
theorem dX10_body_23 : decode cX10_body 23 = .ok (.bipush (-3), 2) := by decide +kernel
theorem dX10_body_25 : decode cX10_body 25 = .ok (.ireturn, 1) := by decide +kernel
theorem dX10_body_26 : decode cX10_body 26 = .ok (.aload_n 0, 1) := by decide +kernel
theorem dX10_body_27 : decode cX10_body 27 = .ok (.getfield 70, 3) := by decide +kernel
theorem dX10_body_30 : decode cX10_body 30 = .ok (.aload_n 0, 1) := by decide +kernel
theorem dX10_body_31 : decode cX10_body 31 = .ok (.getfield 313, 3) := by decide +kernel
theorem dX10_body_34 : decode cX10_body 34 = .ok (.iload_n 1, 1) := by decide +kernel
theorem dX10_body_35 : decode cX10_body 35 = .ok (.iastore, 1) := by decide +kernel
theorem dX10_body_36 : decode cX10_body 36 = .ok (.aload_n 0, 1) := by decide +kernel
theorem dX10_body_37 : decode cX10_body 37 = .ok (.dup, 1) := by decide +kernel
theorem dX10_body_38 : decode cX10_body 38 = .ok (.getfield 313, 3) := by decide +kernel
theorem dX10_body_41 : decode cX10_body 41 = .ok (.iconst 1, 1) := by decide +kernel
theorem dX10_body_42 : decode cX10_body 42 = .ok (.iadd, 1) := by decide +kernel
theorem dX10_body_43 : decode cX10_body 43 = .ok (.putfield 313, 3) := by decide +kernel
theorem dX10_body_46 : decode cX10_body 46 = .ok (.aload_n 0, 1) := by decide +kernel
theorem dX10_body_47 : decode cX10_body 47 = .ok (.getfield 313, 3) := by decide +kernel
theorem dX10_body_50 : decode cX10_body 50 = .ok (.iconst 1, 1) := by decide +kernel
theorem dX10_body_51 : decode cX10_body 51 = .ok (.isub, 1) := by decide +kernel
theorem dX10_body_52 : decode cX10_body 52 = .ok (.ireturn, 1) := by decide +kernel
theorem dX10_above_0 : decode cX10_above 0 = .ok (.iload_n 0, 1) := by decide +kernel
theorem dX10_above_1 : decode cX10_above 1 = .ok (.iconst 3, 1) := by decide +kernel
theorem dX10_above_2 : decode cX10_above 2 = .ok (.if_icmp .ne 7, 3) := by decide +kernel
theorem dX10_above_5 : decode cX10_above 5 = .ok (.iconst 2, 1) := by decide +kernel
theorem dX10_above_6 : decode cX10_above 6 = .ok (.goto 32, 3) := by decide +kernel
theorem dX10_above_9 : decode cX10_above 9 = .ok (.iload_n 0, 1) := by decide +kernel
theorem dX10_above_10 : decode cX10_above 10 = .ok (.iconst 4, 1) := by decide +kernel
theorem dX10_above_11 : decode cX10_above 11 = .ok (.if_icmp .ne 7, 3) := by decide +kernel
theorem dX10_above_14 : decode cX10_above 14 = .ok (.iconst 1, 1) := by decide +kernel
theorem dX10_above_15 : decode cX10_above 15 = .ok (.goto 23, 3) := by decide +kernel
theorem dX10_above_18 : decode cX10_above 18 = .ok (.iload_n 0, 1) := by decide +kernel
theorem dX10_above_19 : decode cX10_above 19 = .ok (.iconst 5, 1) := by decide +kernel
theorem dX10_above_20 : decode cX10_above 20 = .ok (.if_icmp .ne 7, 3) := by decide +kernel
theorem dX10_above_23 : decode cX10_above 23 = .ok (.iconst 3, 1) := by decide +kernel
theorem dX10_above_24 : decode cX10_above 24 = .ok (.goto 14, 3) := by decide +kernel
theorem dX10_above_27 : decode cX10_above 27 = .ok (.iload_n 0, 1) := by decide +kernel
theorem dX10_above_28 : decode cX10_above 28 = .ok (.bipush 7, 2) := by decide +kernel
theorem dX10_above_30 : decode cX10_above 30 = .ok (.if_icmp .ne 7, 3) := by decide +kernel
theorem dX10_above_33 : decode cX10_above 33 = .ok (.iconst 4, 1) := by decide +kernel
theorem dX10_above_34 : decode cX10_above 34 = .ok (.goto 4, 3) := by decide +kernel
theorem dX10_above_37 : decode cX10_above 37 = .ok (.iconst 0, 1) := by decide +kernel
theorem dX10_above_38 : decode cX10_above 38 = .ok (.ireturn, 1) := by decide +kernel
theorem dX10_begins_0 : decode cX10_begins 0 = .ok (.aload_n 0, 1) := by decide +kernel
theorem dX10_begins_1 : decode cX10_begins 1 = .ok (.getfield 316, 3) := by decide +kernel
theorem dX10_begins_4 : decode cX10_begins 4 = .ok (.bipush 24, 2) := by decide +kernel
theorem dX10_begins_6 : decode cX10_begins 6 = .ok (.if_icmp .ge 13, 3) := by decide +kernel
theorem dX10_begins_9 : decode cX10_begins 9 = .ok (.aload_n 0, 1) := by decide +kernel
theorem dX10_begins_10 : decode cX10_begins 10 = .ok (.getfield 73, 3) := by decide +kernel
theorem dX10_begins_13 : decode cX10_begins 13 = .ok (.aload_n 0, 1) := by decide +kernel
theorem dX10_begins_14 : decode cX10_begins 14 = .ok (.getfield 316, 3) := by decide +kernel
theorem dX10_begins_17 : decode cX10_begins 17 = .ok (.iload_n 1, 1) := by decide +kernel
theorem dX10_begins_18 : decode cX10_begins 18 = .ok (.iastore, 1) := by decide +kernel
theorem dX10_begins_19 : decode cX10_begins 19 = .ok (.aload_n 0, 1) := by decide +kernel
theorem dX10_begins_20 : decode cX10_begins 20 = .ok (.dup, 1) := by decide +kernel
theorem dX10_begins_21 : decode cX10_begins 21 = .ok (.getfield 316, 3) := by decide +kernel
theorem dX10_begins_24 : decode cX10_begins 24 = .ok (.iconst 1, 1) := by decide +kernel
theorem dX10_begins_25 : decode cX10_begins 25 = .ok (.iadd, 1) := by decide +kernel
theorem dX10_begins_26 : decode cX10_begins 26 = .ok (.putfield 316, 3) := by decide +kernel
theorem dX10_begins_29 : decode cX10_begins 29 = .ok (.return_, 1) := by decide +kernel
theorem dX10_drawsAs_0 : decode cX10_drawsAs 0 = .ok (.iload_n 1, 1) := by decide +kernel
theorem dX10_drawsAs_1 : decode cX10_drawsAs 1 = .ok (.iconst 1, 1) := by decide +kernel
theorem dX10_drawsAs_2 : decode cX10_drawsAs 2 = .ok (.if_icmp .eq 14, 3) := by decide +kernel
theorem dX10_drawsAs_5 : decode cX10_drawsAs 5 = .ok (.iload_n 1, 1) := by decide +kernel
theorem dX10_drawsAs_6 : decode cX10_drawsAs 6 = .ok (.iconst 4, 1) := by decide +kernel
theorem dX10_drawsAs_7 : decode cX10_drawsAs 7 = .ok (.if_icmp .eq 9, 3) := by decide +kernel
theorem dX10_drawsAs_10 : decode cX10_drawsAs 10 = .ok (.iload_n 1, 1) := by decide +kernel
theorem dX10_drawsAs_11 : decode cX10_drawsAs 11 = .ok (.bipush 7, 2) := by decide +kernel
theorem dX10_drawsAs_13 : decode cX10_drawsAs 13 = .ok (.if_icmp .ne 18, 3) := by decide +kernel
theorem dX10_drawsAs_16 : decode cX10_drawsAs 16 = .ok (.aload_n 0, 1) := by decide +kernel
theorem dX10_drawsAs_17 : decode cX10_drawsAs 17 = .ok (.bipush 20, 2) := by decide +kernel
theorem dX10_drawsAs_19 : decode cX10_drawsAs 19 = .ok (.invokevirtual 319, 3) := by decide +kernel
theorem dX10_drawsAs_22 : decode cX10_drawsAs 22 = .ok (.aload_n 0, 1) := by decide +kernel
theorem dX10_drawsAs_23 : decode cX10_drawsAs 23 = .ok (.iconst 0, 1) := by decide +kernel
theorem dX10_drawsAs_24 : decode cX10_drawsAs 24 = .ok (.iload_n 2, 1) := by decide +kernel
theorem dX10_drawsAs_25 : decode cX10_drawsAs 25 = .ok (.invokevirtual 322, 3) := by decide +kernel
theorem dX10_drawsAs_28 : decode cX10_drawsAs 28 = .ok (.iconst 3, 1) := by decide +kernel
theorem dX10_drawsAs_29 : decode cX10_drawsAs 29 = .ok (.iadd, 1) := by decide +kernel
theorem dX10_drawsAs_30 : decode cX10_drawsAs 30 = .ok (.ireturn, 1) := by decide +kernel
theorem dX10_drawsAs_31 : decode cX10_drawsAs 31 = .ok (.iload_n 1, 1) := by decide +kernel
theorem dX10_drawsAs_32 : decode cX10_drawsAs 32 = .ok (.bipush 6, 2) := by decide +kernel
theorem dX10_drawsAs_34 : decode cX10_drawsAs 34 = .ok (.if_icmp .ne 18, 3) := by decide +kernel
theorem dX10_drawsAs_37 : decode cX10_drawsAs 37 = .ok (.aload_n 0, 1) := by decide +kernel
theorem dX10_drawsAs_38 : decode cX10_drawsAs 38 = .ok (.bipush 70, 2) := by decide +kernel
theorem dX10_drawsAs_40 : decode cX10_drawsAs 40 = .ok (.invokevirtual 319, 3) := by decide +kernel
theorem dX10_drawsAs_43 : decode cX10_drawsAs 43 = .ok (.aload_n 0, 1) := by decide +kernel
theorem dX10_drawsAs_44 : decode cX10_drawsAs 44 = .ok (.iconst 0, 1) := by decide +kernel
theorem dX10_drawsAs_45 : decode cX10_drawsAs 45 = .ok (.iload_n 2, 1) := by decide +kernel
theorem dX10_drawsAs_46 : decode cX10_drawsAs 46 = .ok (.invokevirtual 322, 3) := by decide +kernel
theorem dX10_drawsAs_49 : decode cX10_drawsAs 49 = .ok (.iconst 2, 1) := by decide +kernel
theorem dX10_drawsAs_50 : decode cX10_drawsAs 50 = .ok (.imul, 1) := by decide +kernel
theorem dX10_drawsAs_51 : decode cX10_drawsAs 51 = .ok (.ireturn, 1) := by decide +kernel
theorem dX10_drawsAs_52 : decode cX10_drawsAs 52 = .ok (.aload_n 0, 1) := by decide +kernel
theorem dX10_drawsAs_53 : decode cX10_drawsAs 53 = .ok (.iconst 1, 1) := by decide +kernel
theorem dX10_drawsAs_54 : decode cX10_drawsAs 54 = .ok (.invokevirtual 319, 3) := by decide +kernel
theorem dX10_drawsAs_57 : decode cX10_drawsAs 57 = .ok (.iload_n 2, 1) := by decide +kernel
theorem dX10_drawsAs_58 : decode cX10_drawsAs 58 = .ok (.aload_n 0, 1) := by decide +kernel
theorem dX10_drawsAs_59 : decode cX10_drawsAs 59 = .ok (.getfield 325, 3) := by decide +kernel
theorem dX10_drawsAs_62 : decode cX10_drawsAs 62 = .ok (.iadd, 1) := by decide +kernel
theorem dX10_drawsAs_63 : decode cX10_drawsAs 63 = .ok (.ireturn, 1) := by decide +kernel
theorem dX10_getsAs_0 : decode cX10_getsAs 0 = .ok (.iload_n 1, 1) := by decide +kernel
theorem dX10_getsAs_1 : decode cX10_getsAs 1 = .ok (.iconst 3, 1) := by decide +kernel
theorem dX10_getsAs_2 : decode cX10_getsAs 2 = .ok (.if_icmp .eq 8, 3) := by decide +kernel
theorem dX10_getsAs_5 : decode cX10_getsAs 5 = .ok (.iload_n 1, 1) := by decide +kernel
theorem dX10_getsAs_6 : decode cX10_getsAs 6 = .ok (.iconst 5, 1) := by decide +kernel
theorem dX10_getsAs_7 : decode cX10_getsAs 7 = .ok (.if_icmp .ne 18, 3) := by decide +kernel
theorem dX10_getsAs_10 : decode cX10_getsAs 10 = .ok (.aload_n 0, 1) := by decide +kernel
theorem dX10_getsAs_11 : decode cX10_getsAs 11 = .ok (.bipush 41, 2) := by decide +kernel
theorem dX10_getsAs_13 : decode cX10_getsAs 13 = .ok (.invokevirtual 319, 3) := by decide +kernel
theorem dX10_getsAs_16 : decode cX10_getsAs 16 = .ok (.aload_n 0, 1) := by decide +kernel
theorem dX10_getsAs_17 : decode cX10_getsAs 17 = .ok (.iconst 2, 1) := by decide +kernel
theorem dX10_getsAs_18 : decode cX10_getsAs 18 = .ok (.iload_n 2, 1) := by decide +kernel
theorem dX10_getsAs_19 : decode cX10_getsAs 19 = .ok (.iconst 1, 1) := by decide +kernel
theorem dX10_getsAs_20 : decode cX10_getsAs 20 = .ok (.iadd, 1) := by decide +kernel
theorem dX10_getsAs_21 : decode cX10_getsAs 21 = .ok (.invokevirtual 328, 3) := by decide +kernel
theorem dX10_getsAs_24 : decode cX10_getsAs 24 = .ok (.ireturn, 1) := by decide +kernel
theorem dX10_getsAs_25 : decode cX10_getsAs 25 = .ok (.iload_n 1, 1) := by decide +kernel
theorem dX10_getsAs_26 : decode cX10_getsAs 26 = .ok (.iconst 2, 1) := by decide +kernel
theorem dX10_getsAs_27 : decode cX10_getsAs 27 = .ok (.if_icmp .ne 17, 3) := by decide +kernel
theorem dX10_getsAs_30 : decode cX10_getsAs 30 = .ok (.aload_n 0, 1) := by decide +kernel
theorem dX10_getsAs_31 : decode cX10_getsAs 31 = .ok (.bipush 30, 2) := by decide +kernel
theorem dX10_getsAs_33 : decode cX10_getsAs 33 = .ok (.invokevirtual 319, 3) := by decide +kernel
theorem dX10_getsAs_36 : decode cX10_getsAs 36 = .ok (.aload_n 0, 1) := by decide +kernel
theorem dX10_getsAs_37 : decode cX10_getsAs 37 = .ok (.iconst 0, 1) := by decide +kernel
theorem dX10_getsAs_38 : decode cX10_getsAs 38 = .ok (.iload_n 2, 1) := by decide +kernel
theorem dX10_getsAs_39 : decode cX10_getsAs 39 = .ok (.invokevirtual 328, 3) := by decide +kernel
theorem dX10_getsAs_42 : decode cX10_getsAs 42 = .ok (.ineg, 1) := by decide +kernel
theorem dX10_getsAs_43 : decode cX10_getsAs 43 = .ok (.ireturn, 1) := by decide +kernel
theorem dX10_getsAs_44 : decode cX10_getsAs 44 = .ok (.iload_n 1, 1) := by decide +kernel
theorem dX10_getsAs_45 : decode cX10_getsAs 45 = .ok (.bipush 7, 2) := by decide +kernel
theorem dX10_getsAs_47 : decode cX10_getsAs 47 = .ok (.if_icmp .ne 28, 3) := by decide +kernel
theorem dX10_getsAs_50 : decode cX10_getsAs 50 = .ok (.aload_n 0, 1) := by decide +kernel
theorem dX10_getsAs_51 : decode cX10_getsAs 51 = .ok (.bipush 80, 2) := by decide +kernel
theorem dX10_getsAs_53 : decode cX10_getsAs 53 = .ok (.invokevirtual 319, 3) := by decide +kernel
theorem dX10_getsAs_56 : decode cX10_getsAs 56 = .ok (.aload_n 0, 1) := by decide +kernel
theorem dX10_getsAs_57 : decode cX10_getsAs 57 = .ok (.iconst 4, 1) := by decide +kernel
theorem dX10_getsAs_58 : decode cX10_getsAs 58 = .ok (.iload_n 2, 1) := by decide +kernel
theorem dX10_getsAs_59 : decode cX10_getsAs 59 = .ok (.invokevirtual 328, 3) := by decide +kernel
theorem dX10_getsAs_62 : decode cX10_getsAs 62 = .ok (.istore_n 3, 1) := by decide +kernel
theorem dX10_getsAs_63 : decode cX10_getsAs 63 = .ok (.iload_n 3, 1) := by decide +kernel
theorem dX10_getsAs_64 : decode cX10_getsAs 64 = .ok (.aload_n 0, 1) := by decide +kernel
theorem dX10_getsAs_65 : decode cX10_getsAs 65 = .ok (.aload_n 0, 1) := by decide +kernel
theorem dX10_getsAs_66 : decode cX10_getsAs 66 = .ok (.getfield 331, 3) := by decide +kernel
theorem dX10_getsAs_69 : decode cX10_getsAs 69 = .ok (.iconst 2, 1) := by decide +kernel
theorem dX10_getsAs_70 : decode cX10_getsAs 70 = .ok (.invokevirtual 334, 3) := by decide +kernel
theorem dX10_getsAs_73 : decode cX10_getsAs 73 = .ok (.iadd, 1) := by decide +kernel
theorem dX10_getsAs_74 : decode cX10_getsAs 74 = .ok (.ireturn, 1) := by decide +kernel
theorem dX10_getsAs_75 : decode cX10_getsAs 75 = .ok (.aload_n 0, 1) := by decide +kernel
theorem dX10_getsAs_76 : decode cX10_getsAs 76 = .ok (.bipush 10, 2) := by decide +kernel
theorem dX10_getsAs_78 : decode cX10_getsAs 78 = .ok (.invokevirtual 319, 3) := by decide +kernel
theorem dX10_getsAs_81 : decode cX10_getsAs 81 = .ok (.aload_n 0, 1) := by decide +kernel
theorem dX10_getsAs_82 : decode cX10_getsAs 82 = .ok (.aload_n 0, 1) := by decide +kernel
theorem dX10_getsAs_83 : decode cX10_getsAs 83 = .ok (.getfield 331, 3) := by decide +kernel
theorem dX10_getsAs_86 : decode cX10_getsAs 86 = .ok (.iload_n 2, 1) := by decide +kernel
theorem dX10_getsAs_87 : decode cX10_getsAs 87 = .ok (.invokevirtual 322, 3) := by decide +kernel
theorem dX10_getsAs_90 : decode cX10_getsAs 90 = .ok (.iconst 2, 1) := by decide +kernel
theorem dX10_getsAs_91 : decode cX10_getsAs 91 = .ok (.imul, 1) := by decide +kernel
theorem dX10_getsAs_92 : decode cX10_getsAs 92 = .ok (.ireturn, 1) := by decide +kernel
theorem dX10_restsAs_0 : decode cX10_restsAs 0 = .ok (.iload_n 1, 1) := by decide +kernel
theorem dX10_restsAs_1 : decode cX10_restsAs 1 = .ok (.iconst 3, 1) := by decide +kernel
theorem dX10_restsAs_2 : decode cX10_restsAs 2 = .ok (.if_icmp .eq 8, 3) := by decide +kernel
theorem dX10_restsAs_5 : decode cX10_restsAs 5 = .ok (.iload_n 1, 1) := by decide +kernel
theorem dX10_restsAs_6 : decode cX10_restsAs 6 = .ok (.iconst 5, 1) := by decide +kernel
theorem dX10_restsAs_7 : decode cX10_restsAs 7 = .ok (.if_icmp .ne 18, 3) := by decide +kernel
theorem dX10_restsAs_10 : decode cX10_restsAs 10 = .ok (.aload_n 0, 1) := by decide +kernel
theorem dX10_restsAs_11 : decode cX10_restsAs 11 = .ok (.bipush 40, 2) := by decide +kernel
theorem dX10_restsAs_13 : decode cX10_restsAs 13 = .ok (.invokevirtual 319, 3) := by decide +kernel
theorem dX10_restsAs_16 : decode cX10_restsAs 16 = .ok (.aload_n 0, 1) := by decide +kernel
theorem dX10_restsAs_17 : decode cX10_restsAs 17 = .ok (.iconst 2, 1) := by decide +kernel
theorem dX10_restsAs_18 : decode cX10_restsAs 18 = .ok (.iload_n 2, 1) := by decide +kernel
theorem dX10_restsAs_19 : decode cX10_restsAs 19 = .ok (.invokevirtual 334, 3) := by decide +kernel
theorem dX10_restsAs_22 : decode cX10_restsAs 22 = .ok (.iconst 3, 1) := by decide +kernel
theorem dX10_restsAs_23 : decode cX10_restsAs 23 = .ok (.imul, 1) := by decide +kernel
theorem dX10_restsAs_24 : decode cX10_restsAs 24 = .ok (.ireturn, 1) := by decide +kernel
theorem dX10_restsAs_25 : decode cX10_restsAs 25 = .ok (.iload_n 1, 1) := by decide +kernel
theorem dX10_restsAs_26 : decode cX10_restsAs 26 = .ok (.iconst 4, 1) := by decide +kernel
theorem dX10_restsAs_27 : decode cX10_restsAs 27 = .ok (.if_icmp .eq 9, 3) := by decide +kernel
theorem dX10_restsAs_30 : decode cX10_restsAs 30 = .ok (.iload_n 1, 1) := by decide +kernel
theorem dX10_restsAs_31 : decode cX10_restsAs 31 = .ok (.bipush 7, 2) := by decide +kernel
theorem dX10_restsAs_33 : decode cX10_restsAs 33 = .ok (.if_icmp .ne 28, 3) := by decide +kernel
theorem dX10_restsAs_36 : decode cX10_restsAs 36 = .ok (.aload_n 0, 1) := by decide +kernel
theorem dX10_restsAs_37 : decode cX10_restsAs 37 = .ok (.bipush 50, 2) := by decide +kernel
theorem dX10_restsAs_39 : decode cX10_restsAs 39 = .ok (.invokevirtual 319, 3) := by decide +kernel
theorem dX10_restsAs_42 : decode cX10_restsAs 42 = .ok (.aload_n 0, 1) := by decide +kernel
theorem dX10_restsAs_43 : decode cX10_restsAs 43 = .ok (.iconst 1, 1) := by decide +kernel
theorem dX10_restsAs_44 : decode cX10_restsAs 44 = .ok (.iload_n 2, 1) := by decide +kernel
theorem dX10_restsAs_45 : decode cX10_restsAs 45 = .ok (.invokevirtual 334, 3) := by decide +kernel
theorem dX10_restsAs_48 : decode cX10_restsAs 48 = .ok (.istore_n 3, 1) := by decide +kernel
theorem dX10_restsAs_49 : decode cX10_restsAs 49 = .ok (.iload_n 3, 1) := by decide +kernel
theorem dX10_restsAs_50 : decode cX10_restsAs 50 = .ok (.aload_n 0, 1) := by decide +kernel
theorem dX10_restsAs_51 : decode cX10_restsAs 51 = .ok (.aload_n 0, 1) := by decide +kernel
theorem dX10_restsAs_52 : decode cX10_restsAs 52 = .ok (.getfield 331, 3) := by decide +kernel
theorem dX10_restsAs_55 : decode cX10_restsAs 55 = .ok (.iconst 2, 1) := by decide +kernel
theorem dX10_restsAs_56 : decode cX10_restsAs 56 = .ok (.invokevirtual 322, 3) := by decide +kernel
theorem dX10_restsAs_59 : decode cX10_restsAs 59 = .ok (.isub, 1) := by decide +kernel
theorem dX10_restsAs_60 : decode cX10_restsAs 60 = .ok (.ireturn, 1) := by decide +kernel
theorem dX10_restsAs_61 : decode cX10_restsAs 61 = .ok (.aload_n 0, 1) := by decide +kernel
theorem dX10_restsAs_62 : decode cX10_restsAs 62 = .ok (.bipush 11, 2) := by decide +kernel
theorem dX10_restsAs_64 : decode cX10_restsAs 64 = .ok (.invokevirtual 319, 3) := by decide +kernel
theorem dX10_restsAs_67 : decode cX10_restsAs 67 = .ok (.iload_n 2, 1) := by decide +kernel
theorem dX10_restsAs_68 : decode cX10_restsAs 68 = .ok (.aload_n 0, 1) := by decide +kernel
theorem dX10_restsAs_69 : decode cX10_restsAs 69 = .ok (.getfield 325, 3) := by decide +kernel
theorem dX10_restsAs_72 : decode cX10_restsAs 72 = .ok (.ixor, 1) := by decide +kernel
theorem dX10_restsAs_73 : decode cX10_restsAs 73 = .ok (.ireturn, 1) := by decide +kernel
theorem dX10_tellsAs_0 : decode cX10_tellsAs 0 = .ok (.iload_n 1, 1) := by decide +kernel
theorem dX10_tellsAs_1 : decode cX10_tellsAs 1 = .ok (.iconst 5, 1) := by decide +kernel
theorem dX10_tellsAs_2 : decode cX10_tellsAs 2 = .ok (.if_icmp .ne 18, 3) := by decide +kernel
theorem dX10_tellsAs_5 : decode cX10_tellsAs 5 = .ok (.aload_n 0, 1) := by decide +kernel
theorem dX10_tellsAs_6 : decode cX10_tellsAs 6 = .ok (.bipush 60, 2) := by decide +kernel
theorem dX10_tellsAs_8 : decode cX10_tellsAs 8 = .ok (.invokevirtual 319, 3) := by decide +kernel
theorem dX10_tellsAs_11 : decode cX10_tellsAs 11 = .ok (.aload_n 0, 1) := by decide +kernel
theorem dX10_tellsAs_12 : decode cX10_tellsAs 12 = .ok (.iconst 3, 1) := by decide +kernel
theorem dX10_tellsAs_13 : decode cX10_tellsAs 13 = .ok (.iload_n 2, 1) := by decide +kernel
theorem dX10_tellsAs_14 : decode cX10_tellsAs 14 = .ok (.invokevirtual 337, 3) := by decide +kernel
theorem dX10_tellsAs_17 : decode cX10_tellsAs 17 = .ok (.iconst 5, 1) := by decide +kernel
theorem dX10_tellsAs_18 : decode cX10_tellsAs 18 = .ok (.ixor, 1) := by decide +kernel
theorem dX10_tellsAs_19 : decode cX10_tellsAs 19 = .ok (.ireturn, 1) := by decide +kernel
theorem dX10_tellsAs_20 : decode cX10_tellsAs 20 = .ok (.iload_n 1, 1) := by decide +kernel
theorem dX10_tellsAs_21 : decode cX10_tellsAs 21 = .ok (.bipush 7, 2) := by decide +kernel
theorem dX10_tellsAs_23 : decode cX10_tellsAs 23 = .ok (.if_icmp .ne 18, 3) := by decide +kernel
theorem dX10_tellsAs_26 : decode cX10_tellsAs 26 = .ok (.aload_n 0, 1) := by decide +kernel
theorem dX10_tellsAs_27 : decode cX10_tellsAs 27 = .ok (.bipush 81, 2) := by decide +kernel
theorem dX10_tellsAs_29 : decode cX10_tellsAs 29 = .ok (.invokevirtual 319, 3) := by decide +kernel
theorem dX10_tellsAs_32 : decode cX10_tellsAs 32 = .ok (.aload_n 0, 1) := by decide +kernel
theorem dX10_tellsAs_33 : decode cX10_tellsAs 33 = .ok (.iconst 4, 1) := by decide +kernel
theorem dX10_tellsAs_34 : decode cX10_tellsAs 34 = .ok (.iload_n 2, 1) := by decide +kernel
theorem dX10_tellsAs_35 : decode cX10_tellsAs 35 = .ok (.invokevirtual 337, 3) := by decide +kernel
theorem dX10_tellsAs_38 : decode cX10_tellsAs 38 = .ok (.iconst 1, 1) := by decide +kernel
theorem dX10_tellsAs_39 : decode cX10_tellsAs 39 = .ok (.isub, 1) := by decide +kernel
theorem dX10_tellsAs_40 : decode cX10_tellsAs 40 = .ok (.ireturn, 1) := by decide +kernel
theorem dX10_tellsAs_41 : decode cX10_tellsAs 41 = .ok (.aload_n 0, 1) := by decide +kernel
theorem dX10_tellsAs_42 : decode cX10_tellsAs 42 = .ok (.iconst 2, 1) := by decide +kernel
theorem dX10_tellsAs_43 : decode cX10_tellsAs 43 = .ok (.invokevirtual 319, 3) := by decide +kernel
theorem dX10_tellsAs_46 : decode cX10_tellsAs 46 = .ok (.aload_n 0, 1) := by decide +kernel
theorem dX10_tellsAs_47 : decode cX10_tellsAs 47 = .ok (.aload_n 0, 1) := by decide +kernel
theorem dX10_tellsAs_48 : decode cX10_tellsAs 48 = .ok (.getfield 331, 3) := by decide +kernel
theorem dX10_tellsAs_51 : decode cX10_tellsAs 51 = .ok (.iload_n 2, 1) := by decide +kernel
theorem dX10_tellsAs_52 : decode cX10_tellsAs 52 = .ok (.invokevirtual 328, 3) := by decide +kernel
theorem dX10_tellsAs_55 : decode cX10_tellsAs 55 = .ok (.istore_n 3, 1) := by decide +kernel
theorem dX10_tellsAs_56 : decode cX10_tellsAs 56 = .ok (.iload_n 3, 1) := by decide +kernel
theorem dX10_tellsAs_57 : decode cX10_tellsAs 57 = .ok (.aload_n 0, 1) := by decide +kernel
theorem dX10_tellsAs_58 : decode cX10_tellsAs 58 = .ok (.aload_n 0, 1) := by decide +kernel
theorem dX10_tellsAs_59 : decode cX10_tellsAs 59 = .ok (.getfield 331, 3) := by decide +kernel
theorem dX10_tellsAs_62 : decode cX10_tellsAs 62 = .ok (.iconst 1, 1) := by decide +kernel
theorem dX10_tellsAs_63 : decode cX10_tellsAs 63 = .ok (.invokevirtual 334, 3) := by decide +kernel
theorem dX10_tellsAs_66 : decode cX10_tellsAs 66 = .ok (.isub, 1) := by decide +kernel
theorem dX10_tellsAs_67 : decode cX10_tellsAs 67 = .ok (.ireturn, 1) := by decide +kernel
theorem dX10_act_0 : decode cX10_act 0 = .ok (.aload_n 0, 1) := by decide +kernel
theorem dX10_act_1 : decode cX10_act 1 = .ok (.iconst 0, 1) := by decide +kernel
theorem dX10_act_2 : decode cX10_act 2 = .ok (.putfield 316, 3) := by decide +kernel
theorem dX10_act_5 : decode cX10_act 5 = .ok (.aload_n 0, 1) := by decide +kernel
theorem dX10_act_6 : decode cX10_act 6 = .ok (.iload_n 1, 1) := by decide +kernel
theorem dX10_act_7 : decode cX10_act 7 = .ok (.invokevirtual 340, 3) := by decide +kernel
theorem dX10_act_10 : decode cX10_act 10 = .ok (.ifCond .ne 5, 3) := by decide +kernel
theorem dX10_act_13 : decode cX10_act 13 = .ok (.iconst 0, 1) := by decide +kernel
theorem dX10_act_14 : decode cX10_act 14 = .ok (.ireturn, 1) := by decide +kernel
theorem dX10_act_15 : decode cX10_act 15 = .ok (.aload_n 0, 1) := by decide +kernel
theorem dX10_act_16 : decode cX10_act 16 = .ok (.aload_n 0, 1) := by decide +kernel
theorem dX10_act_17 : decode cX10_act 17 = .ok (.getfield 70, 3) := by decide +kernel
theorem dX10_act_20 : decode cX10_act 20 = .ok (.iload_n 1, 1) := by decide +kernel
theorem dX10_act_21 : decode cX10_act 21 = .ok (.iaload, 1) := by decide +kernel
theorem dX10_act_22 : decode cX10_act 22 = .ok (.putfield 331, 3) := by decide +kernel
theorem dX10_act_25 : decode cX10_act 25 = .ok (.aload_n 0, 1) := by decide +kernel
theorem dX10_act_26 : decode cX10_act 26 = .ok (.iload_n 1, 1) := by decide +kernel
theorem dX10_act_27 : decode cX10_act 27 = .ok (.putfield 325, 3) := by decide +kernel
theorem dX10_act_30 : decode cX10_act 30 = .ok (.iload_n 2, 1) := by decide +kernel
theorem dX10_act_31 : decode cX10_act 31 = .ok (.tableswitch 69 0 3 #[29, 39, 49, 59], 29) := by decide +kernel
theorem dX10_act_60 : decode cX10_act 60 = .ok (.aload_n 0, 1) := by decide +kernel
theorem dX10_act_61 : decode cX10_act 61 = .ok (.aload_n 0, 1) := by decide +kernel
theorem dX10_act_62 : decode cX10_act 62 = .ok (.getfield 331, 3) := by decide +kernel
theorem dX10_act_65 : decode cX10_act 65 = .ok (.iload_n 3, 1) := by decide +kernel
theorem dX10_act_66 : decode cX10_act 66 = .ok (.invokevirtual 322, 3) := by decide +kernel
theorem dX10_act_69 : decode cX10_act 69 = .ok (.ireturn, 1) := by decide +kernel
theorem dX10_act_70 : decode cX10_act 70 = .ok (.aload_n 0, 1) := by decide +kernel
theorem dX10_act_71 : decode cX10_act 71 = .ok (.aload_n 0, 1) := by decide +kernel
theorem dX10_act_72 : decode cX10_act 72 = .ok (.getfield 331, 3) := by decide +kernel
theorem dX10_act_75 : decode cX10_act 75 = .ok (.iload_n 3, 1) := by decide +kernel
theorem dX10_act_76 : decode cX10_act 76 = .ok (.invokevirtual 328, 3) := by decide +kernel
theorem dX10_act_79 : decode cX10_act 79 = .ok (.ireturn, 1) := by decide +kernel
theorem dX10_act_80 : decode cX10_act 80 = .ok (.aload_n 0, 1) := by decide +kernel
theorem dX10_act_81 : decode cX10_act 81 = .ok (.aload_n 0, 1) := by decide +kernel
theorem dX10_act_82 : decode cX10_act 82 = .ok (.getfield 331, 3) := by decide +kernel
theorem dX10_act_85 : decode cX10_act 85 = .ok (.iload_n 3, 1) := by decide +kernel
theorem dX10_act_86 : decode cX10_act 86 = .ok (.invokevirtual 334, 3) := by decide +kernel
theorem dX10_act_89 : decode cX10_act 89 = .ok (.ireturn, 1) := by decide +kernel
theorem dX10_act_90 : decode cX10_act 90 = .ok (.aload_n 0, 1) := by decide +kernel
theorem dX10_act_91 : decode cX10_act 91 = .ok (.aload_n 0, 1) := by decide +kernel
theorem dX10_act_92 : decode cX10_act 92 = .ok (.getfield 331, 3) := by decide +kernel
theorem dX10_act_95 : decode cX10_act 95 = .ok (.iload_n 3, 1) := by decide +kernel
theorem dX10_act_96 : decode cX10_act 96 = .ok (.invokevirtual 337, 3) := by decide +kernel
theorem dX10_act_99 : decode cX10_act 99 = .ok (.ireturn, 1) := by decide +kernel
theorem dX10_act_100 : decode cX10_act 100 = .ok (.iconst 0, 1) := by decide +kernel
theorem dX10_act_101 : decode cX10_act 101 = .ok (.ireturn, 1) := by decide +kernel
theorem dX10_trace_0 : decode cX10_trace 0 = .ok (.iload_n 1, 1) := by decide +kernel
theorem dX10_trace_1 : decode cX10_trace 1 = .ok (.ifCond .lt 26, 3) := by decide +kernel
theorem dX10_trace_4 : decode cX10_trace 4 = .ok (.iload_n 1, 1) := by decide +kernel
theorem dX10_trace_5 : decode cX10_trace 5 = .ok (.aload_n 0, 1) := by decide +kernel
theorem dX10_trace_6 : decode cX10_trace 6 = .ok (.getfield 316, 3) := by decide +kernel
theorem dX10_trace_9 : decode cX10_trace 9 = .ok (.if_icmp .ge 18, 3) := by decide +kernel
theorem dX10_trace_12 : decode cX10_trace 12 = .ok (.iload_n 1, 1) := by decide +kernel
theorem dX10_trace_13 : decode cX10_trace 13 = .ok (.bipush 24, 2) := by decide +kernel
theorem dX10_trace_15 : decode cX10_trace 15 = .ok (.if_icmp .ge 12, 3) := by decide +kernel
theorem dX10_trace_18 : decode cX10_trace 18 = .ok (.aload_n 0, 1) := by decide +kernel
theorem dX10_trace_19 : decode cX10_trace 19 = .ok (.getfield 73, 3) := by decide +kernel
theorem dX10_trace_22 : decode cX10_trace 22 = .ok (.iload_n 1, 1) := by decide +kernel
theorem dX10_trace_23 : decode cX10_trace 23 = .ok (.iaload, 1) := by decide +kernel
theorem dX10_trace_24 : decode cX10_trace 24 = .ok (.goto 4, 3) := by decide +kernel
theorem dX10_trace_27 : decode cX10_trace 27 = .ok (.iconst (-1), 1) := by decide +kernel
theorem dX10_trace_28 : decode cX10_trace 28 = .ok (.ireturn, 1) := by decide +kernel
theorem dX10_isShelf_0 : decode cX10_isShelf 0 = .ok (.iload_n 0, 1) := by decide +kernel
theorem dX10_isShelf_1 : decode cX10_isShelf 1 = .ok (.i2l, 1) := by decide +kernel
theorem dX10_isShelf_2 : decode cX10_isShelf 2 = .ok (.lconst 0, 1) := by decide +kernel
theorem dX10_isShelf_3 : decode cX10_isShelf 3 = .ok (.ldc2_w 343, 3) := by decide +kernel
theorem dX10_isShelf_6 : decode cX10_isShelf 6 = .ok (.invokestatic 105, 3) := by decide +kernel
theorem dX10_isShelf_9 : decode cX10_isShelf 9 = .ok (.ireturn, 1) := by decide +kernel
theorem dX10_keep_0 : decode cX10_keep 0 = .ok (.iload_n 1, 1) := by decide +kernel
theorem dX10_keep_1 : decode cX10_keep 1 = .ok (.invokestatic 124, 3) := by decide +kernel
theorem dX10_keep_4 : decode cX10_keep 4 = .ok (.ifCond .eq 16, 3) := by decide +kernel
theorem dX10_keep_7 : decode cX10_keep 7 = .ok (.iload_n 2, 1) := by decide +kernel
theorem dX10_keep_8 : decode cX10_keep 8 = .ok (.iconst (-1), 1) := by decide +kernel
theorem dX10_keep_9 : decode cX10_keep 9 = .ok (.if_icmp .eq 13, 3) := by decide +kernel
theorem dX10_keep_12 : decode cX10_keep 12 = .ok (.aload_n 0, 1) := by decide +kernel
theorem dX10_keep_13 : decode cX10_keep 13 = .ok (.iload_n 2, 1) := by decide +kernel
theorem dX10_keep_14 : decode cX10_keep 14 = .ok (.invokevirtual 340, 3) := by decide +kernel
theorem dX10_keep_17 : decode cX10_keep 17 = .ok (.ifCond .ne 5, 3) := by decide +kernel
theorem dX10_keep_20 : decode cX10_keep 20 = .ok (.iconst (-1), 1) := by decide +kernel
theorem dX10_keep_21 : decode cX10_keep 21 = .ok (.ireturn, 1) := by decide +kernel
theorem dX10_keep_22 : decode cX10_keep 22 = .ok (.aload_n 0, 1) := by decide +kernel
theorem dX10_keep_23 : decode cX10_keep 23 = .ok (.getfield 76, 3) := by decide +kernel
theorem dX10_keep_26 : decode cX10_keep 26 = .ok (.iload_n 1, 1) := by decide +kernel
theorem dX10_keep_27 : decode cX10_keep 27 = .ok (.iload_n 2, 1) := by decide +kernel
theorem dX10_keep_28 : decode cX10_keep 28 = .ok (.iastore, 1) := by decide +kernel
theorem dX10_keep_29 : decode cX10_keep 29 = .ok (.aload_n 0, 1) := by decide +kernel
theorem dX10_keep_30 : decode cX10_keep 30 = .ok (.getfield 79, 3) := by decide +kernel
theorem dX10_keep_33 : decode cX10_keep 33 = .ok (.iload_n 1, 1) := by decide +kernel
theorem dX10_keep_34 : decode cX10_keep 34 = .ok (.iconst 0, 1) := by decide +kernel
theorem dX10_keep_35 : decode cX10_keep 35 = .ok (.iastore, 1) := by decide +kernel
theorem dX10_keep_36 : decode cX10_keep 36 = .ok (.iconst 1, 1) := by decide +kernel
theorem dX10_keep_37 : decode cX10_keep 37 = .ok (.ireturn, 1) := by decide +kernel
theorem dX10_row_0 : decode cX10_row 0 = .ok (.iload_n 1, 1) := by decide +kernel
theorem dX10_row_1 : decode cX10_row 1 = .ok (.invokestatic 124, 3) := by decide +kernel
theorem dX10_row_4 : decode cX10_row 4 = .ok (.ifCond .eq 21, 3) := by decide +kernel
theorem dX10_row_7 : decode cX10_row 7 = .ok (.iload_n 2, 1) := by decide +kernel
theorem dX10_row_8 : decode cX10_row 8 = .ok (.i2l, 1) := by decide +kernel
theorem dX10_row_9 : decode cX10_row 9 = .ok (.lconst 0, 1) := by decide +kernel
theorem dX10_row_10 : decode cX10_row 10 = .ok (.ldc2_w 345, 3) := by decide +kernel
theorem dX10_row_13 : decode cX10_row 13 = .ok (.invokestatic 105, 3) := by decide +kernel
theorem dX10_row_16 : decode cX10_row 16 = .ok (.ifCond .eq 9, 3) := by decide +kernel
theorem dX10_row_19 : decode cX10_row 19 = .ok (.iload_n 3, 1) := by decide +kernel
theorem dX10_row_20 : decode cX10_row 20 = .ok (.bipush 60, 2) := by decide +kernel
theorem dX10_row_22 : decode cX10_row 22 = .ok (.if_icmp .le 5, 3) := by decide +kernel
theorem dX10_row_25 : decode cX10_row 25 = .ok (.iconst (-1), 1) := by decide +kernel
theorem dX10_row_26 : decode cX10_row 26 = .ok (.ireturn, 1) := by decide +kernel
theorem dX10_row_27 : decode cX10_row 27 = .ok (.iload_n 3, 1) := by decide +kernel
theorem dX10_row_28 : decode cX10_row 28 = .ok (.ifCond .ge 6, 3) := by decide +kernel
theorem dX10_row_31 : decode cX10_row 31 = .ok (.bipush (-14), 2) := by decide +kernel
theorem dX10_row_33 : decode cX10_row 33 = .ok (.ireturn, 1) := by decide +kernel
theorem dX10_row_34 : decode cX10_row 34 = .ok (.aload_n 0, 1) := by decide +kernel
theorem dX10_row_35 : decode cX10_row 35 = .ok (.getfield 76, 3) := by decide +kernel
theorem dX10_row_38 : decode cX10_row 38 = .ok (.iload_n 1, 1) := by decide +kernel
theorem dX10_row_39 : decode cX10_row 39 = .ok (.bipush 50, 2) := by decide +kernel
theorem dX10_row_41 : decode cX10_row 41 = .ok (.iload_n 2, 1) := by decide +kernel
theorem dX10_row_42 : decode cX10_row 42 = .ok (.iadd, 1) := by decide +kernel
theorem dX10_row_43 : decode cX10_row 43 = .ok (.iastore, 1) := by decide +kernel
theorem dX10_row_44 : decode cX10_row 44 = .ok (.aload_n 0, 1) := by decide +kernel
theorem dX10_row_45 : decode cX10_row 45 = .ok (.getfield 79, 3) := by decide +kernel
theorem dX10_row_48 : decode cX10_row 48 = .ok (.iload_n 1, 1) := by decide +kernel
theorem dX10_row_49 : decode cX10_row 49 = .ok (.iload_n 3, 1) := by decide +kernel
theorem dX10_row_50 : decode cX10_row 50 = .ok (.iastore, 1) := by decide +kernel
theorem dX10_row_51 : decode cX10_row 51 = .ok (.bipush 60, 2) := by decide +kernel
theorem dX10_row_53 : decode cX10_row 53 = .ok (.iload_n 1, 1) := by decide +kernel
theorem dX10_row_54 : decode cX10_row 54 = .ok (.imul, 1) := by decide +kernel
theorem dX10_row_55 : decode cX10_row 55 = .ok (.istore 4, 2) := by decide +kernel
theorem dX10_row_57 : decode cX10_row 57 = .ok (.iload 4, 2) := by decide +kernel
theorem dX10_row_59 : decode cX10_row 59 = .ok (.bipush 60, 2) := by decide +kernel
theorem dX10_row_61 : decode cX10_row 61 = .ok (.iload_n 1, 1) := by decide +kernel
theorem dX10_row_62 : decode cX10_row 62 = .ok (.imul, 1) := by decide +kernel
theorem dX10_row_63 : decode cX10_row 63 = .ok (.bipush 60, 2) := by decide +kernel
theorem dX10_row_65 : decode cX10_row 65 = .ok (.iadd, 1) := by decide +kernel
theorem dX10_row_66 : decode cX10_row 66 = .ok (.if_icmp .ge 17, 3) := by decide +kernel
theorem dX10_row_69 : decode cX10_row 69 = .ok (.aload_n 0, 1) := by decide +kernel
theorem dX10_row_70 : decode cX10_row 70 = .ok (.getfield 82, 3) := by decide +kernel
theorem dX10_row_73 : decode cX10_row 73 = .ok (.iload 4, 2) := by decide +kernel
theorem dX10_row_75 : decode cX10_row 75 = .ok (.lconst 0, 1) := by decide +kernel
theorem dX10_row_76 : decode cX10_row 76 = .ok (.lastore, 1) := by decide +kernel
theorem dX10_row_77 : decode cX10_row 77 = .ok (.iinc 4 1, 3) := by decide +kernel
theorem dX10_row_80 : decode cX10_row 80 = .ok (.goto (-23), 3) := by decide +kernel
theorem dX10_row_83 : decode cX10_row 83 = .ok (.iconst 1, 1) := by decide +kernel
theorem dX10_row_84 : decode cX10_row 84 = .ok (.ireturn, 1) := by decide +kernel
theorem dX10_refusal_0 : decode cX10_refusal 0 = .ok (.iload_n 1, 1) := by decide +kernel
theorem dX10_refusal_1 : decode cX10_refusal 1 = .ok (.invokestatic 124, 3) := by decide +kernel
theorem dX10_refusal_4 : decode cX10_refusal 4 = .ok (.ifCond .ne 5, 3) := by decide +kernel
theorem dX10_refusal_7 : decode cX10_refusal 7 = .ok (.iconst (-1), 1) := by decide +kernel
theorem dX10_refusal_8 : decode cX10_refusal 8 = .ok (.ireturn, 1) := by decide +kernel
theorem dX10_refusal_9 : decode cX10_refusal 9 = .ok (.aload_n 0, 1) := by decide +kernel
theorem dX10_refusal_10 : decode cX10_refusal 10 = .ok (.getfield 76, 3) := by decide +kernel
theorem dX10_refusal_13 : decode cX10_refusal 13 = .ok (.iload_n 1, 1) := by decide +kernel
theorem dX10_refusal_14 : decode cX10_refusal 14 = .ok (.iaload, 1) := by decide +kernel
theorem dX10_refusal_15 : decode cX10_refusal 15 = .ok (.ifCond .ge 6, 3) := by decide +kernel
theorem dX10_refusal_18 : decode cX10_refusal 18 = .ok (.bipush (-11), 2) := by decide +kernel
theorem dX10_refusal_20 : decode cX10_refusal 20 = .ok (.ireturn, 1) := by decide +kernel
theorem dX10_refusal_21 : decode cX10_refusal 21 = .ok (.aload_n 0, 1) := by decide +kernel
theorem dX10_refusal_22 : decode cX10_refusal 22 = .ok (.getfield 76, 3) := by decide +kernel
theorem dX10_refusal_25 : decode cX10_refusal 25 = .ok (.iload_n 1, 1) := by decide +kernel
theorem dX10_refusal_26 : decode cX10_refusal 26 = .ok (.iaload, 1) := by decide +kernel
theorem dX10_refusal_27 : decode cX10_refusal 27 = .ok (.bipush 50, 2) := by decide +kernel
theorem dX10_refusal_29 : decode cX10_refusal 29 = .ok (.if_icmp .ge 6, 3) := by decide +kernel
theorem dX10_refusal_32 : decode cX10_refusal 32 = .ok (.bipush (-12), 2) := by decide +kernel
theorem dX10_refusal_34 : decode cX10_refusal 34 = .ok (.ireturn, 1) := by decide +kernel
theorem dX10_refusal_35 : decode cX10_refusal 35 = .ok (.iload_n 2, 1) := by decide +kernel
theorem dX10_refusal_36 : decode cX10_refusal 36 = .ok (.ifCond .lt 17, 3) := by decide +kernel
theorem dX10_refusal_39 : decode cX10_refusal 39 = .ok (.iload_n 2, 1) := by decide +kernel
theorem dX10_refusal_40 : decode cX10_refusal 40 = .ok (.aload_n 0, 1) := by decide +kernel
theorem dX10_refusal_41 : decode cX10_refusal 41 = .ok (.getfield 79, 3) := by decide +kernel
theorem dX10_refusal_44 : decode cX10_refusal 44 = .ok (.iload_n 1, 1) := by decide +kernel
theorem dX10_refusal_45 : decode cX10_refusal 45 = .ok (.iaload, 1) := by decide +kernel
theorem dX10_refusal_46 : decode cX10_refusal 46 = .ok (.if_icmp .ge 7, 3) := by decide +kernel
theorem dX10_refusal_49 : decode cX10_refusal 49 = .ok (.iconst 0, 1) := by decide +kernel
theorem dX10_refusal_50 : decode cX10_refusal 50 = .ok (.goto 5, 3) := by decide +kernel
theorem dX10_refusal_53 : decode cX10_refusal 53 = .ok (.bipush (-13), 2) := by decide +kernel
theorem dX10_refusal_55 : decode cX10_refusal 55 = .ok (.ireturn, 1) := by decide +kernel
theorem dX10_asSort_0 : decode cX10_asSort 0 = .ok (.iload_n 0, 1) := by decide +kernel
theorem dX10_asSort_1 : decode cX10_asSort 1 = .ok (.ifCond .ne 10, 3) := by decide +kernel
theorem dX10_asSort_4 : decode cX10_asSort 4 = .ok (.lload_n 1, 1) := by decide +kernel
theorem dX10_asSort_5 : decode cX10_asSort 5 = .ok (.l2i, 1) := by decide +kernel
theorem dX10_asSort_6 : decode cX10_asSort 6 = .ok (.i2b, 1) := by decide +kernel
theorem dX10_asSort_7 : decode cX10_asSort 7 = .ok (.i2l, 1) := by decide +kernel
theorem dX10_asSort_8 : decode cX10_asSort 8 = .ok (.goto 46, 3) := by decide +kernel
theorem dX10_asSort_11 : decode cX10_asSort 11 = .ok (.iload_n 0, 1) := by decide +kernel
theorem dX10_asSort_12 : decode cX10_asSort 12 = .ok (.iconst 1, 1) := by decide +kernel
theorem dX10_asSort_13 : decode cX10_asSort 13 = .ok (.if_icmp .ne 10, 3) := by decide +kernel
theorem dX10_asSort_16 : decode cX10_asSort 16 = .ok (.lload_n 1, 1) := by decide +kernel
theorem dX10_asSort_17 : decode cX10_asSort 17 = .ok (.l2i, 1) := by decide +kernel
theorem dX10_asSort_18 : decode cX10_asSort 18 = .ok (.i2s, 1) := by decide +kernel
theorem dX10_asSort_19 : decode cX10_asSort 19 = .ok (.i2l, 1) := by decide +kernel
theorem dX10_asSort_20 : decode cX10_asSort 20 = .ok (.goto 34, 3) := by decide +kernel
theorem dX10_asSort_23 : decode cX10_asSort 23 = .ok (.iload_n 0, 1) := by decide +kernel
theorem dX10_asSort_24 : decode cX10_asSort 24 = .ok (.iconst 2, 1) := by decide +kernel
theorem dX10_asSort_25 : decode cX10_asSort 25 = .ok (.if_icmp .ne 9, 3) := by decide +kernel
theorem dX10_asSort_28 : decode cX10_asSort 28 = .ok (.lload_n 1, 1) := by decide +kernel
theorem dX10_asSort_29 : decode cX10_asSort 29 = .ok (.l2i, 1) := by decide +kernel
theorem dX10_asSort_30 : decode cX10_asSort 30 = .ok (.i2l, 1) := by decide +kernel
theorem dX10_asSort_31 : decode cX10_asSort 31 = .ok (.goto 23, 3) := by decide +kernel
theorem dX10_asSort_34 : decode cX10_asSort 34 = .ok (.iload_n 0, 1) := by decide +kernel
theorem dX10_asSort_35 : decode cX10_asSort 35 = .ok (.iconst 4, 1) := by decide +kernel
theorem dX10_asSort_36 : decode cX10_asSort 36 = .ok (.if_icmp .ne 17, 3) := by decide +kernel
theorem dX10_asSort_39 : decode cX10_asSort 39 = .ok (.lload_n 1, 1) := by decide +kernel
theorem dX10_asSort_40 : decode cX10_asSort 40 = .ok (.lconst 0, 1) := by decide +kernel
theorem dX10_asSort_41 : decode cX10_asSort 41 = .ok (.lcmp, 1) := by decide +kernel
theorem dX10_asSort_42 : decode cX10_asSort 42 = .ok (.ifCond .eq 7, 3) := by decide +kernel
theorem dX10_asSort_45 : decode cX10_asSort 45 = .ok (.lconst 1, 1) := by decide +kernel
theorem dX10_asSort_46 : decode cX10_asSort 46 = .ok (.goto 8, 3) := by decide +kernel
theorem dX10_asSort_49 : decode cX10_asSort 49 = .ok (.lconst 0, 1) := by decide +kernel
theorem dX10_asSort_50 : decode cX10_asSort 50 = .ok (.goto 4, 3) := by decide +kernel
theorem dX10_asSort_53 : decode cX10_asSort 53 = .ok (.lload_n 1, 1) := by decide +kernel
theorem dX10_asSort_54 : decode cX10_asSort 54 = .ok (.lreturn, 1) := by decide +kernel
theorem dX10_put_0 : decode cX10_put 0 = .ok (.aload_n 0, 1) := by decide +kernel
theorem dX10_put_1 : decode cX10_put 1 = .ok (.iload_n 1, 1) := by decide +kernel
theorem dX10_put_2 : decode cX10_put 2 = .ok (.iload_n 2, 1) := by decide +kernel
theorem dX10_put_3 : decode cX10_put 3 = .ok (.invokevirtual 347, 3) := by decide +kernel
theorem dX10_put_6 : decode cX10_put 6 = .ok (.istore 5, 2) := by decide +kernel
theorem dX10_put_8 : decode cX10_put 8 = .ok (.iload 5, 2) := by decide +kernel
theorem dX10_put_10 : decode cX10_put 10 = .ok (.ifCond .ne 27, 3) := by decide +kernel
theorem dX10_put_13 : decode cX10_put 13 = .ok (.aload_n 0, 1) := by decide +kernel
theorem dX10_put_14 : decode cX10_put 14 = .ok (.getfield 82, 3) := by decide +kernel
theorem dX10_put_17 : decode cX10_put 17 = .ok (.bipush 60, 2) := by decide +kernel
theorem dX10_put_19 : decode cX10_put 19 = .ok (.iload_n 1, 1) := by decide +kernel
theorem dX10_put_20 : decode cX10_put 20 = .ok (.imul, 1) := by decide +kernel
theorem dX10_put_21 : decode cX10_put 21 = .ok (.iload_n 2, 1) := by decide +kernel
theorem dX10_put_22 : decode cX10_put 22 = .ok (.iadd, 1) := by decide +kernel
theorem dX10_put_23 : decode cX10_put 23 = .ok (.aload_n 0, 1) := by decide +kernel
theorem dX10_put_24 : decode cX10_put 24 = .ok (.getfield 76, 3) := by decide +kernel
theorem dX10_put_27 : decode cX10_put 27 = .ok (.iload_n 1, 1) := by decide +kernel
theorem dX10_put_28 : decode cX10_put 28 = .ok (.iaload, 1) := by decide +kernel
theorem dX10_put_29 : decode cX10_put 29 = .ok (.bipush 50, 2) := by decide +kernel
theorem dX10_put_31 : decode cX10_put 31 = .ok (.isub, 1) := by decide +kernel
theorem dX10_put_32 : decode cX10_put 32 = .ok (.lload_n 3, 1) := by decide +kernel
theorem dX10_put_33 : decode cX10_put 33 = .ok (.invokestatic 350, 3) := by decide +kernel
theorem dX10_put_36 : decode cX10_put 36 = .ok (.lastore, 1) := by decide +kernel
theorem dX10_put_37 : decode cX10_put 37 = .ok (.iload 5, 2) := by decide +kernel
theorem dX10_put_39 : decode cX10_put 39 = .ok (.ifCond .ne 7, 3) := by decide +kernel
theorem dX10_put_42 : decode cX10_put 42 = .ok (.iconst 1, 1) := by decide +kernel
theorem dX10_put_43 : decode cX10_put 43 = .ok (.goto 5, 3) := by decide +kernel
theorem dX10_put_46 : decode cX10_put 46 = .ok (.iload 5, 2) := by decide +kernel
theorem dX10_put_48 : decode cX10_put 48 = .ok (.ireturn, 1) := by decide +kernel
theorem dX10_element_0 : decode cX10_element 0 = .ok (.aload_n 0, 1) := by decide +kernel
theorem dX10_element_1 : decode cX10_element 1 = .ok (.iload_n 1, 1) := by decide +kernel
theorem dX10_element_2 : decode cX10_element 2 = .ok (.iload_n 2, 1) := by decide +kernel
theorem dX10_element_3 : decode cX10_element 3 = .ok (.invokevirtual 347, 3) := by decide +kernel
theorem dX10_element_6 : decode cX10_element 6 = .ok (.ifCond .eq 9, 3) := by decide +kernel
theorem dX10_element_9 : decode cX10_element 9 = .ok (.ldc2_w 356, 3) := by decide +kernel
theorem dX10_element_12 : decode cX10_element 12 = .ok (.goto 14, 3) := by decide +kernel
theorem dX10_element_15 : decode cX10_element 15 = .ok (.aload_n 0, 1) := by decide +kernel
theorem dX10_element_16 : decode cX10_element 16 = .ok (.getfield 82, 3) := by decide +kernel
theorem dX10_element_19 : decode cX10_element 19 = .ok (.bipush 60, 2) := by decide +kernel
theorem dX10_element_21 : decode cX10_element 21 = .ok (.iload_n 1, 1) := by decide +kernel
theorem dX10_element_22 : decode cX10_element 22 = .ok (.imul, 1) := by decide +kernel
theorem dX10_element_23 : decode cX10_element 23 = .ok (.iload_n 2, 1) := by decide +kernel
theorem dX10_element_24 : decode cX10_element 24 = .ok (.iadd, 1) := by decide +kernel
theorem dX10_element_25 : decode cX10_element 25 = .ok (.laload, 1) := by decide +kernel
theorem dX10_element_26 : decode cX10_element 26 = .ok (.lreturn, 1) := by decide +kernel
theorem dX10_shift_0 : decode cX10_shift 0 = .ok (.iload_n 1, 1) := by decide +kernel
theorem dX10_shift_1 : decode cX10_shift 1 = .ok (.invokestatic 124, 3) := by decide +kernel
theorem dX10_shift_4 : decode cX10_shift 4 = .ok (.ifCond .eq 10, 3) := by decide +kernel
theorem dX10_shift_7 : decode cX10_shift 7 = .ok (.iload_n 3, 1) := by decide +kernel
theorem dX10_shift_8 : decode cX10_shift 8 = .ok (.invokestatic 124, 3) := by decide +kernel
theorem dX10_shift_11 : decode cX10_shift 11 = .ok (.ifCond .ne 5, 3) := by decide +kernel
theorem dX10_shift_14 : decode cX10_shift 14 = .ok (.iconst (-1), 1) := by decide +kernel
theorem dX10_shift_15 : decode cX10_shift 15 = .ok (.ireturn, 1) := by decide +kernel
theorem dX10_shift_16 : decode cX10_shift 16 = .ok (.aload_n 0, 1) := by decide +kernel
theorem dX10_shift_17 : decode cX10_shift 17 = .ok (.getfield 76, 3) := by decide +kernel
theorem dX10_shift_20 : decode cX10_shift 20 = .ok (.iload_n 1, 1) := by decide +kernel
theorem dX10_shift_21 : decode cX10_shift 21 = .ok (.iaload, 1) := by decide +kernel
theorem dX10_shift_22 : decode cX10_shift 22 = .ok (.ifCond .lt 12, 3) := by decide +kernel
theorem dX10_shift_25 : decode cX10_shift 25 = .ok (.aload_n 0, 1) := by decide +kernel
theorem dX10_shift_26 : decode cX10_shift 26 = .ok (.getfield 76, 3) := by decide +kernel
theorem dX10_shift_29 : decode cX10_shift 29 = .ok (.iload_n 3, 1) := by decide +kernel
theorem dX10_shift_30 : decode cX10_shift 30 = .ok (.iaload, 1) := by decide +kernel
theorem dX10_shift_31 : decode cX10_shift 31 = .ok (.ifCond .ge 6, 3) := by decide +kernel
theorem dX10_shift_34 : decode cX10_shift 34 = .ok (.bipush (-11), 2) := by decide +kernel
theorem dX10_shift_36 : decode cX10_shift 36 = .ok (.ireturn, 1) := by decide +kernel
theorem dX10_shift_37 : decode cX10_shift 37 = .ok (.aload_n 0, 1) := by decide +kernel
theorem dX10_shift_38 : decode cX10_shift 38 = .ok (.getfield 76, 3) := by decide +kernel
theorem dX10_shift_41 : decode cX10_shift 41 = .ok (.iload_n 1, 1) := by decide +kernel
theorem dX10_shift_42 : decode cX10_shift 42 = .ok (.iaload, 1) := by decide +kernel
theorem dX10_shift_43 : decode cX10_shift 43 = .ok (.bipush 50, 2) := by decide +kernel
theorem dX10_shift_45 : decode cX10_shift 45 = .ok (.if_icmp .lt 18, 3) := by decide +kernel
theorem dX10_shift_48 : decode cX10_shift 48 = .ok (.aload_n 0, 1) := by decide +kernel
theorem dX10_shift_49 : decode cX10_shift 49 = .ok (.getfield 76, 3) := by decide +kernel
theorem dX10_shift_52 : decode cX10_shift 52 = .ok (.iload_n 1, 1) := by decide +kernel
theorem dX10_shift_53 : decode cX10_shift 53 = .ok (.iaload, 1) := by decide +kernel
theorem dX10_shift_54 : decode cX10_shift 54 = .ok (.aload_n 0, 1) := by decide +kernel
theorem dX10_shift_55 : decode cX10_shift 55 = .ok (.getfield 76, 3) := by decide +kernel
theorem dX10_shift_58 : decode cX10_shift 58 = .ok (.iload_n 3, 1) := by decide +kernel
theorem dX10_shift_59 : decode cX10_shift 59 = .ok (.iaload, 1) := by decide +kernel
theorem dX10_shift_60 : decode cX10_shift 60 = .ok (.if_icmp .eq 6, 3) := by decide +kernel
theorem dX10_shift_63 : decode cX10_shift 63 = .ok (.bipush (-12), 2) := by decide +kernel
theorem dX10_shift_65 : decode cX10_shift 65 = .ok (.ireturn, 1) := by decide +kernel
theorem dX10_shift_66 : decode cX10_shift 66 = .ok (.iload 5, 2) := by decide +kernel
theorem dX10_shift_68 : decode cX10_shift 68 = .ok (.ifCond .lt 39, 3) := by decide +kernel
theorem dX10_shift_71 : decode cX10_shift 71 = .ok (.iload_n 2, 1) := by decide +kernel
theorem dX10_shift_72 : decode cX10_shift 72 = .ok (.ifCond .lt 35, 3) := by decide +kernel
theorem dX10_shift_75 : decode cX10_shift 75 = .ok (.iload 4, 2) := by decide +kernel
theorem dX10_shift_77 : decode cX10_shift 77 = .ok (.ifCond .lt 30, 3) := by decide +kernel
theorem dX10_shift_80 : decode cX10_shift 80 = .ok (.iload_n 2, 1) := by decide +kernel
theorem dX10_shift_81 : decode cX10_shift 81 = .ok (.aload_n 0, 1) := by decide +kernel
theorem dX10_shift_82 : decode cX10_shift 82 = .ok (.getfield 79, 3) := by decide +kernel
theorem dX10_shift_85 : decode cX10_shift 85 = .ok (.iload_n 1, 1) := by decide +kernel
theorem dX10_shift_86 : decode cX10_shift 86 = .ok (.iaload, 1) := by decide +kernel
theorem dX10_shift_87 : decode cX10_shift 87 = .ok (.iload 5, 2) := by decide +kernel
theorem dX10_shift_89 : decode cX10_shift 89 = .ok (.isub, 1) := by decide +kernel
theorem dX10_shift_90 : decode cX10_shift 90 = .ok (.if_icmp .gt 17, 3) := by decide +kernel
theorem dX10_shift_93 : decode cX10_shift 93 = .ok (.iload 4, 2) := by decide +kernel
theorem dX10_shift_95 : decode cX10_shift 95 = .ok (.aload_n 0, 1) := by decide +kernel
theorem dX10_shift_96 : decode cX10_shift 96 = .ok (.getfield 79, 3) := by decide +kernel
theorem dX10_shift_99 : decode cX10_shift 99 = .ok (.iload_n 3, 1) := by decide +kernel
theorem dX10_shift_100 : decode cX10_shift 100 = .ok (.iaload, 1) := by decide +kernel
theorem dX10_shift_101 : decode cX10_shift 101 = .ok (.iload 5, 2) := by decide +kernel
theorem dX10_shift_103 : decode cX10_shift 103 = .ok (.isub, 1) := by decide +kernel
theorem dX10_shift_104 : decode cX10_shift 104 = .ok (.if_icmp .le 6, 3) := by decide +kernel
theorem dX10_shift_107 : decode cX10_shift 107 = .ok (.bipush (-13), 2) := by decide +kernel
theorem dX10_shift_109 : decode cX10_shift 109 = .ok (.ireturn, 1) := by decide +kernel
theorem dX10_shift_110 : decode cX10_shift 110 = .ok (.iconst 0, 1) := by decide +kernel
theorem dX10_shift_111 : decode cX10_shift 111 = .ok (.istore 6, 2) := by decide +kernel
theorem dX10_shift_113 : decode cX10_shift 113 = .ok (.iload 6, 2) := by decide +kernel
theorem dX10_shift_115 : decode cX10_shift 115 = .ok (.iload 5, 2) := by decide +kernel
theorem dX10_shift_117 : decode cX10_shift 117 = .ok (.if_icmp .ge 30, 3) := by decide +kernel
theorem dX10_shift_120 : decode cX10_shift 120 = .ok (.aload_n 0, 1) := by decide +kernel
theorem dX10_shift_121 : decode cX10_shift 121 = .ok (.getfield 86, 3) := by decide +kernel
theorem dX10_shift_124 : decode cX10_shift 124 = .ok (.iload 6, 2) := by decide +kernel
theorem dX10_shift_126 : decode cX10_shift 126 = .ok (.aload_n 0, 1) := by decide +kernel
theorem dX10_shift_127 : decode cX10_shift 127 = .ok (.getfield 82, 3) := by decide +kernel
theorem dX10_shift_130 : decode cX10_shift 130 = .ok (.bipush 60, 2) := by decide +kernel
theorem dX10_shift_132 : decode cX10_shift 132 = .ok (.iload_n 1, 1) := by decide +kernel
theorem dX10_shift_133 : decode cX10_shift 133 = .ok (.imul, 1) := by decide +kernel
theorem dX10_shift_134 : decode cX10_shift 134 = .ok (.iload_n 2, 1) := by decide +kernel
theorem dX10_shift_135 : decode cX10_shift 135 = .ok (.iadd, 1) := by decide +kernel
theorem dX10_shift_136 : decode cX10_shift 136 = .ok (.iload 6, 2) := by decide +kernel
theorem dX10_shift_138 : decode cX10_shift 138 = .ok (.iadd, 1) := by decide +kernel
theorem dX10_shift_139 : decode cX10_shift 139 = .ok (.laload, 1) := by decide +kernel
theorem dX10_shift_140 : decode cX10_shift 140 = .ok (.lastore, 1) := by decide +kernel
theorem dX10_shift_141 : decode cX10_shift 141 = .ok (.iinc 6 1, 3) := by decide +kernel
theorem dX10_shift_144 : decode cX10_shift 144 = .ok (.goto (-31), 3) := by decide +kernel
theorem dX10_shift_147 : decode cX10_shift 147 = .ok (.iconst 0, 1) := by decide +kernel
theorem dX10_shift_148 : decode cX10_shift 148 = .ok (.istore 6, 2) := by decide +kernel
theorem dX10_shift_150 : decode cX10_shift 150 = .ok (.iload 6, 2) := by decide +kernel
theorem dX10_shift_152 : decode cX10_shift 152 = .ok (.iload 5, 2) := by decide +kernel
theorem dX10_shift_154 : decode cX10_shift 154 = .ok (.if_icmp .ge 31, 3) := by decide +kernel
theorem dX10_shift_157 : decode cX10_shift 157 = .ok (.aload_n 0, 1) := by decide +kernel
theorem dX10_shift_158 : decode cX10_shift 158 = .ok (.getfield 82, 3) := by decide +kernel
theorem dX10_shift_161 : decode cX10_shift 161 = .ok (.bipush 60, 2) := by decide +kernel
theorem dX10_shift_163 : decode cX10_shift 163 = .ok (.iload_n 3, 1) := by decide +kernel
theorem dX10_shift_164 : decode cX10_shift 164 = .ok (.imul, 1) := by decide +kernel
theorem dX10_shift_165 : decode cX10_shift 165 = .ok (.iload 4, 2) := by decide +kernel
theorem dX10_shift_167 : decode cX10_shift 167 = .ok (.iadd, 1) := by decide +kernel
theorem dX10_shift_168 : decode cX10_shift 168 = .ok (.iload 6, 2) := by decide +kernel
theorem dX10_shift_170 : decode cX10_shift 170 = .ok (.iadd, 1) := by decide +kernel
theorem dX10_shift_171 : decode cX10_shift 171 = .ok (.aload_n 0, 1) := by decide +kernel
theorem dX10_shift_172 : decode cX10_shift 172 = .ok (.getfield 86, 3) := by decide +kernel
theorem dX10_shift_175 : decode cX10_shift 175 = .ok (.iload 6, 2) := by decide +kernel
theorem dX10_shift_177 : decode cX10_shift 177 = .ok (.laload, 1) := by decide +kernel
theorem dX10_shift_178 : decode cX10_shift 178 = .ok (.lastore, 1) := by decide +kernel
theorem dX10_shift_179 : decode cX10_shift 179 = .ok (.iinc 6 1, 3) := by decide +kernel
theorem dX10_shift_182 : decode cX10_shift 182 = .ok (.goto (-32), 3) := by decide +kernel
theorem dX10_shift_185 : decode cX10_shift 185 = .ok (.iload 5, 2) := by decide +kernel
theorem dX10_shift_187 : decode cX10_shift 187 = .ok (.ireturn, 1) := by decide +kernel
theorem dX10_taken_0 : decode cX10_taken 0 = .ok (.iload_n 1, 1) := by decide +kernel
theorem dX10_taken_1 : decode cX10_taken 1 = .ok (.invokestatic 124, 3) := by decide +kernel
theorem dX10_taken_4 : decode cX10_taken 4 = .ok (.ifCond .eq 15, 3) := by decide +kernel
theorem dX10_taken_7 : decode cX10_taken 7 = .ok (.iload_n 2, 1) := by decide +kernel
theorem dX10_taken_8 : decode cX10_taken 8 = .ok (.i2l, 1) := by decide +kernel
theorem dX10_taken_9 : decode cX10_taken 9 = .ok (.lconst 0, 1) := by decide +kernel
theorem dX10_taken_10 : decode cX10_taken 10 = .ok (.ldc2_w 128, 3) := by decide +kernel
theorem dX10_taken_13 : decode cX10_taken 13 = .ok (.invokestatic 105, 3) := by decide +kernel
theorem dX10_taken_16 : decode cX10_taken 16 = .ok (.ifCond .ne 5, 3) := by decide +kernel
theorem dX10_taken_19 : decode cX10_taken 19 = .ok (.iconst (-1), 1) := by decide +kernel
theorem dX10_taken_20 : decode cX10_taken 20 = .ok (.ireturn, 1) := by decide +kernel
theorem dX10_taken_21 : decode cX10_taken 21 = .ok (.aload_n 0, 1) := by decide +kernel
theorem dX10_taken_22 : decode cX10_taken 22 = .ok (.getfield 76, 3) := by decide +kernel
theorem dX10_taken_25 : decode cX10_taken 25 = .ok (.iload_n 1, 1) := by decide +kernel
theorem dX10_taken_26 : decode cX10_taken 26 = .ok (.iaload, 1) := by decide +kernel
theorem dX10_taken_27 : decode cX10_taken 27 = .ok (.ifCond .ge 6, 3) := by decide +kernel
theorem dX10_taken_30 : decode cX10_taken 30 = .ok (.bipush (-11), 2) := by decide +kernel
theorem dX10_taken_32 : decode cX10_taken 32 = .ok (.ireturn, 1) := by decide +kernel
theorem dX10_taken_33 : decode cX10_taken 33 = .ok (.aload_n 0, 1) := by decide +kernel
theorem dX10_taken_34 : decode cX10_taken 34 = .ok (.getfield 76, 3) := by decide +kernel
theorem dX10_taken_37 : decode cX10_taken 37 = .ok (.iload_n 1, 1) := by decide +kernel
theorem dX10_taken_38 : decode cX10_taken 38 = .ok (.iaload, 1) := by decide +kernel
theorem dX10_taken_39 : decode cX10_taken 39 = .ok (.bipush 50, 2) := by decide +kernel
theorem dX10_taken_41 : decode cX10_taken 41 = .ok (.if_icmp .lt 6, 3) := by decide +kernel
theorem dX10_taken_44 : decode cX10_taken 44 = .ok (.bipush (-12), 2) := by decide +kernel
theorem dX10_taken_46 : decode cX10_taken 46 = .ok (.ireturn, 1) := by decide +kernel
theorem dX10_taken_47 : decode cX10_taken 47 = .ok (.aload_n 0, 1) := by decide +kernel
theorem dX10_taken_48 : decode cX10_taken 48 = .ok (.aload_n 0, 1) := by decide +kernel
theorem dX10_taken_49 : decode cX10_taken 49 = .ok (.getfield 76, 3) := by decide +kernel
theorem dX10_taken_52 : decode cX10_taken 52 = .ok (.iload_n 1, 1) := by decide +kernel
theorem dX10_taken_53 : decode cX10_taken 53 = .ok (.iaload, 1) := by decide +kernel
theorem dX10_taken_54 : decode cX10_taken 54 = .ok (.invokevirtual 358, 3) := by decide +kernel
theorem dX10_taken_57 : decode cX10_taken 57 = .ok (.istore_n 3, 1) := by decide +kernel
theorem dX10_taken_58 : decode cX10_taken 58 = .ok (.iload_n 3, 1) := by decide +kernel
theorem dX10_taken_59 : decode cX10_taken 59 = .ok (.iload_n 2, 1) := by decide +kernel
theorem dX10_taken_60 : decode cX10_taken 60 = .ok (.if_icmp .eq 15, 3) := by decide +kernel
theorem dX10_taken_63 : decode cX10_taken 63 = .ok (.iload_n 3, 1) := by decide +kernel
theorem dX10_taken_64 : decode cX10_taken 64 = .ok (.ifCond .le 11, 3) := by decide +kernel
theorem dX10_taken_67 : decode cX10_taken 67 = .ok (.iload_n 3, 1) := by decide +kernel
theorem dX10_taken_68 : decode cX10_taken 68 = .ok (.invokestatic 361, 3) := by decide +kernel
theorem dX10_taken_71 : decode cX10_taken 71 = .ok (.istore_n 3, 1) := by decide +kernel
theorem dX10_taken_72 : decode cX10_taken 72 = .ok (.goto (-14), 3) := by decide +kernel
theorem dX10_taken_75 : decode cX10_taken 75 = .ok (.iload_n 3, 1) := by decide +kernel
theorem dX10_taken_76 : decode cX10_taken 76 = .ok (.iload_n 2, 1) := by decide +kernel
theorem dX10_taken_77 : decode cX10_taken 77 = .ok (.if_icmp .ne 16, 3) := by decide +kernel
theorem dX10_taken_80 : decode cX10_taken 80 = .ok (.aload_n 0, 1) := by decide +kernel
theorem dX10_taken_81 : decode cX10_taken 81 = .ok (.aload_n 0, 1) := by decide +kernel
theorem dX10_taken_82 : decode cX10_taken 82 = .ok (.getfield 76, 3) := by decide +kernel
theorem dX10_taken_85 : decode cX10_taken 85 = .ok (.iload_n 1, 1) := by decide +kernel
theorem dX10_taken_86 : decode cX10_taken 86 = .ok (.iaload, 1) := by decide +kernel
theorem dX10_taken_87 : decode cX10_taken 87 = .ok (.invokevirtual 358, 3) := by decide +kernel
theorem dX10_taken_90 : decode cX10_taken 90 = .ok (.goto 5, 3) := by decide +kernel
theorem dX10_taken_93 : decode cX10_taken 93 = .ok (.bipush (-12), 2) := by decide +kernel
theorem dX10_taken_95 : decode cX10_taken 95 = .ok (.ireturn, 1) := by decide +kernel
theorem dX10_count_0 : decode cX10_count 0 = .ok (.iload_n 1, 1) := by decide +kernel
theorem dX10_count_1 : decode cX10_count 1 = .ok (.tableswitch 60 0 4 #[35, 40, 45, 50, 55], 35) := by decide +kernel
theorem dX10_count_36 : decode cX10_count 36 = .ok (.aload_n 0, 1) := by decide +kernel
theorem dX10_count_37 : decode cX10_count 37 = .ok (.getfield 102, 3) := by decide +kernel
theorem dX10_count_40 : decode cX10_count 40 = .ok (.ireturn, 1) := by decide +kernel
theorem dX10_count_41 : decode cX10_count 41 = .ok (.aload_n 0, 1) := by decide +kernel
theorem dX10_count_42 : decode cX10_count 42 = .ok (.getfield 165, 3) := by decide +kernel
theorem dX10_count_45 : decode cX10_count 45 = .ok (.ireturn, 1) := by decide +kernel
theorem dX10_count_46 : decode cX10_count 46 = .ok (.aload_n 0, 1) := by decide +kernel
theorem dX10_count_47 : decode cX10_count 47 = .ok (.getfield 96, 3) := by decide +kernel
theorem dX10_count_50 : decode cX10_count 50 = .ok (.ireturn, 1) := by decide +kernel
theorem dX10_count_51 : decode cX10_count 51 = .ok (.aload_n 0, 1) := by decide +kernel
theorem dX10_count_52 : decode cX10_count 52 = .ok (.getfield 313, 3) := by decide +kernel
theorem dX10_count_55 : decode cX10_count 55 = .ok (.ireturn, 1) := by decide +kernel
theorem dX10_count_56 : decode cX10_count 56 = .ok (.aload_n 0, 1) := by decide +kernel
theorem dX10_count_57 : decode cX10_count 57 = .ok (.getfield 316, 3) := by decide +kernel
theorem dX10_count_60 : decode cX10_count 60 = .ok (.ireturn, 1) := by decide +kernel
theorem dX10_count_61 : decode cX10_count 61 = .ok (.iconst (-1), 1) := by decide +kernel
theorem dX10_count_62 : decode cX10_count 62 = .ok (.ireturn, 1) := by decide +kernel
end
section
theorem dL_law_0 : decode cL_law 0 = .ok (.new 7, 3) := by decide +kernel
theorem dL_law_3 : decode cL_law 3 = .ok (.dup, 1) := by decide +kernel
theorem dL_law_4 : decode cL_law 4 = .ok (.invokespecial 9, 3) := by decide +kernel
theorem dL_law_7 : decode cL_law 7 = .ok (.astore_n 1, 1) := by decide +kernel
theorem dL_law_8 : decode cL_law 8 = .ok (.new 10, 3) := by decide +kernel
theorem dL_law_11 : decode cL_law 11 = .ok (.dup, 1) := by decide +kernel
theorem dL_law_12 : decode cL_law 12 = .ok (.invokespecial 12, 3) := by decide +kernel
theorem dL_law_15 : decode cL_law 15 = .ok (.astore_n 2, 1) := by decide +kernel
theorem dL_law_16 : decode cL_law 16 = .ok (.iconst 0, 1) := by decide +kernel
theorem dL_law_17 : decode cL_law 17 = .ok (.istore_n 3, 1) := by decide +kernel
theorem dL_law_18 : decode cL_law 18 = .ok (.iload_n 3, 1) := by decide +kernel
theorem dL_law_19 : decode cL_law 19 = .ok (.aload_n 0, 1) := by decide +kernel
theorem dL_law_20 : decode cL_law 20 = .ok (.arraylength, 1) := by decide +kernel
theorem dL_law_21 : decode cL_law 21 = .ok (.bipush 6, 2) := by decide +kernel
theorem dL_law_23 : decode cL_law 23 = .ok (.isub, 1) := by decide +kernel
theorem dL_law_24 : decode cL_law 24 = .ok (.if_icmp .gt 1488, 3) := by decide +kernel
theorem dL_law_27 : decode cL_law 27 = .ok (.aload_n 0, 1) := by decide +kernel
theorem dL_law_28 : decode cL_law 28 = .ok (.iload_n 3, 1) := by decide +kernel
theorem dL_law_29 : decode cL_law 29 = .ok (.iaload, 1) := by decide +kernel
theorem dL_law_30 : decode cL_law 30 = .ok (.bipush 63, 2) := by decide +kernel
theorem dL_law_32 : decode cL_law 32 = .ok (.iand, 1) := by decide +kernel
theorem dL_law_33 : decode cL_law 33 = .ok (.tableswitch 1473 0 40 #[179, 212, 255, 298, 331, 354, 367, 410, 453, 486, 499, 532, 575, 598, 631, 674, 707, 740, 783, 806, 829, 862, 895, 938, 951, 974, 997, 1030, 1043, 1056, 1069, 1082, 1105, 1148, 1171, 1204, 1247, 1320, 1354, 1417, 1450], 179) := by decide +kernel
theorem dL_law_212 : decode cL_law 212 = .ok (.aload_n 1, 1) := by decide +kernel
theorem dL_law_213 : decode cL_law 213 = .ok (.aload_n 0, 1) := by decide +kernel
theorem dL_law_214 : decode cL_law 214 = .ok (.iload_n 3, 1) := by decide +kernel
theorem dL_law_215 : decode cL_law 215 = .ok (.iconst 1, 1) := by decide +kernel
theorem dL_law_216 : decode cL_law 216 = .ok (.iadd, 1) := by decide +kernel
theorem dL_law_217 : decode cL_law 217 = .ok (.iaload, 1) := by decide +kernel
theorem dL_law_218 : decode cL_law 218 = .ok (.aload_n 0, 1) := by decide +kernel
theorem dL_law_219 : decode cL_law 219 = .ok (.iload_n 3, 1) := by decide +kernel
theorem dL_law_220 : decode cL_law 220 = .ok (.iconst 2, 1) := by decide +kernel
theorem dL_law_221 : decode cL_law 221 = .ok (.iadd, 1) := by decide +kernel
theorem dL_law_222 : decode cL_law 222 = .ok (.iaload, 1) := by decide +kernel
theorem dL_law_223 : decode cL_law 223 = .ok (.invokevirtual 13, 3) := by decide +kernel
theorem dL_law_226 : decode cL_law 226 = .ok (.aload_n 2, 1) := by decide +kernel
theorem dL_law_227 : decode cL_law 227 = .ok (.aload_n 0, 1) := by decide +kernel
theorem dL_law_228 : decode cL_law 228 = .ok (.iload_n 3, 1) := by decide +kernel
theorem dL_law_229 : decode cL_law 229 = .ok (.iconst 1, 1) := by decide +kernel
theorem dL_law_230 : decode cL_law 230 = .ok (.iadd, 1) := by decide +kernel
theorem dL_law_231 : decode cL_law 231 = .ok (.iaload, 1) := by decide +kernel
theorem dL_law_232 : decode cL_law 232 = .ok (.aload_n 0, 1) := by decide +kernel
theorem dL_law_233 : decode cL_law 233 = .ok (.iload_n 3, 1) := by decide +kernel
theorem dL_law_234 : decode cL_law 234 = .ok (.iconst 2, 1) := by decide +kernel
theorem dL_law_235 : decode cL_law 235 = .ok (.iadd, 1) := by decide +kernel
theorem dL_law_236 : decode cL_law 236 = .ok (.iaload, 1) := by decide +kernel
theorem dL_law_237 : decode cL_law 237 = .ok (.invokevirtual 17, 3) := by decide +kernel
theorem dL_law_240 : decode cL_law 240 = .ok (.if_icmp .eq 1266, 3) := by decide +kernel
theorem dL_law_243 : decode cL_law 243 = .ok (.iconst 0, 1) := by decide +kernel
theorem dL_law_244 : decode cL_law 244 = .ok (.ireturn, 1) := by decide +kernel
theorem dL_law_245 : decode cL_law 245 = .ok (.aload_n 1, 1) := by decide +kernel
theorem dL_law_246 : decode cL_law 246 = .ok (.aload_n 0, 1) := by decide +kernel
theorem dL_law_247 : decode cL_law 247 = .ok (.iload_n 3, 1) := by decide +kernel
theorem dL_law_248 : decode cL_law 248 = .ok (.iconst 1, 1) := by decide +kernel
theorem dL_law_249 : decode cL_law 249 = .ok (.iadd, 1) := by decide +kernel
theorem dL_law_250 : decode cL_law 250 = .ok (.iaload, 1) := by decide +kernel
theorem dL_law_251 : decode cL_law 251 = .ok (.aload_n 0, 1) := by decide +kernel
theorem dL_law_252 : decode cL_law 252 = .ok (.iload_n 3, 1) := by decide +kernel
theorem dL_law_253 : decode cL_law 253 = .ok (.iconst 2, 1) := by decide +kernel
theorem dL_law_254 : decode cL_law 254 = .ok (.iadd, 1) := by decide +kernel
theorem dL_law_255 : decode cL_law 255 = .ok (.iaload, 1) := by decide +kernel
theorem dL_law_256 : decode cL_law 256 = .ok (.aload_n 0, 1) := by decide +kernel
theorem dL_law_257 : decode cL_law 257 = .ok (.iload_n 3, 1) := by decide +kernel
theorem dL_law_258 : decode cL_law 258 = .ok (.iconst 3, 1) := by decide +kernel
theorem dL_law_259 : decode cL_law 259 = .ok (.iadd, 1) := by decide +kernel
theorem dL_law_260 : decode cL_law 260 = .ok (.iaload, 1) := by decide +kernel
theorem dL_law_261 : decode cL_law 261 = .ok (.invokevirtual 18, 3) := by decide +kernel
theorem dL_law_264 : decode cL_law 264 = .ok (.aload_n 2, 1) := by decide +kernel
theorem dL_law_265 : decode cL_law 265 = .ok (.aload_n 0, 1) := by decide +kernel
theorem dL_law_266 : decode cL_law 266 = .ok (.iload_n 3, 1) := by decide +kernel
theorem dL_law_267 : decode cL_law 267 = .ok (.iconst 1, 1) := by decide +kernel
theorem dL_law_268 : decode cL_law 268 = .ok (.iadd, 1) := by decide +kernel
theorem dL_law_269 : decode cL_law 269 = .ok (.iaload, 1) := by decide +kernel
theorem dL_law_270 : decode cL_law 270 = .ok (.aload_n 0, 1) := by decide +kernel
theorem dL_law_271 : decode cL_law 271 = .ok (.iload_n 3, 1) := by decide +kernel
theorem dL_law_272 : decode cL_law 272 = .ok (.iconst 2, 1) := by decide +kernel
theorem dL_law_273 : decode cL_law 273 = .ok (.iadd, 1) := by decide +kernel
theorem dL_law_274 : decode cL_law 274 = .ok (.iaload, 1) := by decide +kernel
theorem dL_law_275 : decode cL_law 275 = .ok (.aload_n 0, 1) := by decide +kernel
theorem dL_law_276 : decode cL_law 276 = .ok (.iload_n 3, 1) := by decide +kernel
theorem dL_law_277 : decode cL_law 277 = .ok (.iconst 3, 1) := by decide +kernel
theorem dL_law_278 : decode cL_law 278 = .ok (.iadd, 1) := by decide +kernel
theorem dL_law_279 : decode cL_law 279 = .ok (.iaload, 1) := by decide +kernel
theorem dL_law_280 : decode cL_law 280 = .ok (.invokevirtual 22, 3) := by decide +kernel
theorem dL_law_283 : decode cL_law 283 = .ok (.if_icmp .eq 1223, 3) := by decide +kernel
theorem dL_law_286 : decode cL_law 286 = .ok (.iconst 0, 1) := by decide +kernel
theorem dL_law_287 : decode cL_law 287 = .ok (.ireturn, 1) := by decide +kernel
theorem dL_law_288 : decode cL_law 288 = .ok (.aload_n 1, 1) := by decide +kernel
theorem dL_law_289 : decode cL_law 289 = .ok (.aload_n 0, 1) := by decide +kernel
theorem dL_law_290 : decode cL_law 290 = .ok (.iload_n 3, 1) := by decide +kernel
theorem dL_law_291 : decode cL_law 291 = .ok (.iconst 1, 1) := by decide +kernel
theorem dL_law_292 : decode cL_law 292 = .ok (.iadd, 1) := by decide +kernel
theorem dL_law_293 : decode cL_law 293 = .ok (.iaload, 1) := by decide +kernel
theorem dL_law_294 : decode cL_law 294 = .ok (.aload_n 0, 1) := by decide +kernel
theorem dL_law_295 : decode cL_law 295 = .ok (.iload_n 3, 1) := by decide +kernel
theorem dL_law_296 : decode cL_law 296 = .ok (.iconst 2, 1) := by decide +kernel
theorem dL_law_297 : decode cL_law 297 = .ok (.iadd, 1) := by decide +kernel
theorem dL_law_298 : decode cL_law 298 = .ok (.iaload, 1) := by decide +kernel
theorem dL_law_299 : decode cL_law 299 = .ok (.aload_n 0, 1) := by decide +kernel
theorem dL_law_300 : decode cL_law 300 = .ok (.iload_n 3, 1) := by decide +kernel
theorem dL_law_301 : decode cL_law 301 = .ok (.iconst 3, 1) := by decide +kernel
theorem dL_law_302 : decode cL_law 302 = .ok (.iadd, 1) := by decide +kernel
theorem dL_law_303 : decode cL_law 303 = .ok (.iaload, 1) := by decide +kernel
theorem dL_law_304 : decode cL_law 304 = .ok (.invokevirtual 23, 3) := by decide +kernel
theorem dL_law_307 : decode cL_law 307 = .ok (.aload_n 2, 1) := by decide +kernel
theorem dL_law_308 : decode cL_law 308 = .ok (.aload_n 0, 1) := by decide +kernel
theorem dL_law_309 : decode cL_law 309 = .ok (.iload_n 3, 1) := by decide +kernel
theorem dL_law_310 : decode cL_law 310 = .ok (.iconst 1, 1) := by decide +kernel
theorem dL_law_311 : decode cL_law 311 = .ok (.iadd, 1) := by decide +kernel
theorem dL_law_312 : decode cL_law 312 = .ok (.iaload, 1) := by decide +kernel
theorem dL_law_313 : decode cL_law 313 = .ok (.aload_n 0, 1) := by decide +kernel
theorem dL_law_314 : decode cL_law 314 = .ok (.iload_n 3, 1) := by decide +kernel
theorem dL_law_315 : decode cL_law 315 = .ok (.iconst 2, 1) := by decide +kernel
theorem dL_law_316 : decode cL_law 316 = .ok (.iadd, 1) := by decide +kernel
theorem dL_law_317 : decode cL_law 317 = .ok (.iaload, 1) := by decide +kernel
theorem dL_law_318 : decode cL_law 318 = .ok (.aload_n 0, 1) := by decide +kernel
theorem dL_law_319 : decode cL_law 319 = .ok (.iload_n 3, 1) := by decide +kernel
theorem dL_law_320 : decode cL_law 320 = .ok (.iconst 3, 1) := by decide +kernel
theorem dL_law_321 : decode cL_law 321 = .ok (.iadd, 1) := by decide +kernel
theorem dL_law_322 : decode cL_law 322 = .ok (.iaload, 1) := by decide +kernel
theorem dL_law_323 : decode cL_law 323 = .ok (.invokevirtual 26, 3) := by decide +kernel
theorem dL_law_326 : decode cL_law 326 = .ok (.if_icmp .eq 1180, 3) := by decide +kernel
theorem dL_law_329 : decode cL_law 329 = .ok (.iconst 0, 1) := by decide +kernel
theorem dL_law_330 : decode cL_law 330 = .ok (.ireturn, 1) := by decide +kernel
theorem dL_law_331 : decode cL_law 331 = .ok (.aload_n 1, 1) := by decide +kernel
theorem dL_law_332 : decode cL_law 332 = .ok (.aload_n 0, 1) := by decide +kernel
theorem dL_law_333 : decode cL_law 333 = .ok (.iload_n 3, 1) := by decide +kernel
theorem dL_law_334 : decode cL_law 334 = .ok (.iconst 1, 1) := by decide +kernel
theorem dL_law_335 : decode cL_law 335 = .ok (.iadd, 1) := by decide +kernel
theorem dL_law_336 : decode cL_law 336 = .ok (.iaload, 1) := by decide +kernel
theorem dL_law_337 : decode cL_law 337 = .ok (.aload_n 0, 1) := by decide +kernel
theorem dL_law_338 : decode cL_law 338 = .ok (.iload_n 3, 1) := by decide +kernel
theorem dL_law_339 : decode cL_law 339 = .ok (.iconst 2, 1) := by decide +kernel
theorem dL_law_340 : decode cL_law 340 = .ok (.iadd, 1) := by decide +kernel
theorem dL_law_341 : decode cL_law 341 = .ok (.iaload, 1) := by decide +kernel
theorem dL_law_342 : decode cL_law 342 = .ok (.invokevirtual 27, 3) := by decide +kernel
theorem dL_law_345 : decode cL_law 345 = .ok (.aload_n 2, 1) := by decide +kernel
theorem dL_law_346 : decode cL_law 346 = .ok (.aload_n 0, 1) := by decide +kernel
theorem dL_law_347 : decode cL_law 347 = .ok (.iload_n 3, 1) := by decide +kernel
theorem dL_law_348 : decode cL_law 348 = .ok (.iconst 1, 1) := by decide +kernel
theorem dL_law_349 : decode cL_law 349 = .ok (.iadd, 1) := by decide +kernel
theorem dL_law_350 : decode cL_law 350 = .ok (.iaload, 1) := by decide +kernel
theorem dL_law_351 : decode cL_law 351 = .ok (.aload_n 0, 1) := by decide +kernel
theorem dL_law_352 : decode cL_law 352 = .ok (.iload_n 3, 1) := by decide +kernel
theorem dL_law_353 : decode cL_law 353 = .ok (.iconst 2, 1) := by decide +kernel
theorem dL_law_354 : decode cL_law 354 = .ok (.iadd, 1) := by decide +kernel
theorem dL_law_355 : decode cL_law 355 = .ok (.iaload, 1) := by decide +kernel
theorem dL_law_356 : decode cL_law 356 = .ok (.invokevirtual 30, 3) := by decide +kernel
theorem dL_law_359 : decode cL_law 359 = .ok (.if_icmp .eq 1147, 3) := by decide +kernel
theorem dL_law_362 : decode cL_law 362 = .ok (.iconst 0, 1) := by decide +kernel
theorem dL_law_363 : decode cL_law 363 = .ok (.ireturn, 1) := by decide +kernel
theorem dL_law_364 : decode cL_law 364 = .ok (.aload_n 1, 1) := by decide +kernel
theorem dL_law_365 : decode cL_law 365 = .ok (.aload_n 0, 1) := by decide +kernel
theorem dL_law_366 : decode cL_law 366 = .ok (.iload_n 3, 1) := by decide +kernel
theorem dL_law_367 : decode cL_law 367 = .ok (.iconst 1, 1) := by decide +kernel
theorem dL_law_368 : decode cL_law 368 = .ok (.iadd, 1) := by decide +kernel
theorem dL_law_369 : decode cL_law 369 = .ok (.iaload, 1) := by decide +kernel
theorem dL_law_370 : decode cL_law 370 = .ok (.invokevirtual 31, 3) := by decide +kernel
theorem dL_law_373 : decode cL_law 373 = .ok (.aload_n 2, 1) := by decide +kernel
theorem dL_law_374 : decode cL_law 374 = .ok (.aload_n 0, 1) := by decide +kernel
theorem dL_law_375 : decode cL_law 375 = .ok (.iload_n 3, 1) := by decide +kernel
theorem dL_law_376 : decode cL_law 376 = .ok (.iconst 1, 1) := by decide +kernel
theorem dL_law_377 : decode cL_law 377 = .ok (.iadd, 1) := by decide +kernel
theorem dL_law_378 : decode cL_law 378 = .ok (.iaload, 1) := by decide +kernel
theorem dL_law_379 : decode cL_law 379 = .ok (.invokevirtual 35, 3) := by decide +kernel
theorem dL_law_382 : decode cL_law 382 = .ok (.if_icmp .eq 1124, 3) := by decide +kernel
theorem dL_law_385 : decode cL_law 385 = .ok (.iconst 0, 1) := by decide +kernel
theorem dL_law_386 : decode cL_law 386 = .ok (.ireturn, 1) := by decide +kernel
theorem dL_law_387 : decode cL_law 387 = .ok (.aload_n 1, 1) := by decide +kernel
theorem dL_law_388 : decode cL_law 388 = .ok (.invokevirtual 36, 3) := by decide +kernel
theorem dL_law_391 : decode cL_law 391 = .ok (.aload_n 2, 1) := by decide +kernel
theorem dL_law_392 : decode cL_law 392 = .ok (.invokevirtual 40, 3) := by decide +kernel
theorem dL_law_395 : decode cL_law 395 = .ok (.if_icmp .eq 1111, 3) := by decide +kernel
theorem dL_law_398 : decode cL_law 398 = .ok (.iconst 0, 1) := by decide +kernel
theorem dL_law_399 : decode cL_law 399 = .ok (.ireturn, 1) := by decide +kernel
theorem dL_law_400 : decode cL_law 400 = .ok (.aload_n 1, 1) := by decide +kernel
theorem dL_law_401 : decode cL_law 401 = .ok (.aload_n 0, 1) := by decide +kernel
theorem dL_law_402 : decode cL_law 402 = .ok (.iload_n 3, 1) := by decide +kernel
theorem dL_law_403 : decode cL_law 403 = .ok (.iconst 1, 1) := by decide +kernel
theorem dL_law_404 : decode cL_law 404 = .ok (.iadd, 1) := by decide +kernel
theorem dL_law_405 : decode cL_law 405 = .ok (.iaload, 1) := by decide +kernel
theorem dL_law_406 : decode cL_law 406 = .ok (.aload_n 0, 1) := by decide +kernel
theorem dL_law_407 : decode cL_law 407 = .ok (.iload_n 3, 1) := by decide +kernel
theorem dL_law_408 : decode cL_law 408 = .ok (.iconst 2, 1) := by decide +kernel
theorem dL_law_409 : decode cL_law 409 = .ok (.iadd, 1) := by decide +kernel
theorem dL_law_410 : decode cL_law 410 = .ok (.iaload, 1) := by decide +kernel
theorem dL_law_411 : decode cL_law 411 = .ok (.aload_n 0, 1) := by decide +kernel
theorem dL_law_412 : decode cL_law 412 = .ok (.iload_n 3, 1) := by decide +kernel
theorem dL_law_413 : decode cL_law 413 = .ok (.iconst 3, 1) := by decide +kernel
theorem dL_law_414 : decode cL_law 414 = .ok (.iadd, 1) := by decide +kernel
theorem dL_law_415 : decode cL_law 415 = .ok (.iaload, 1) := by decide +kernel
theorem dL_law_416 : decode cL_law 416 = .ok (.invokevirtual 41, 3) := by decide +kernel
theorem dL_law_419 : decode cL_law 419 = .ok (.aload_n 2, 1) := by decide +kernel
theorem dL_law_420 : decode cL_law 420 = .ok (.aload_n 0, 1) := by decide +kernel
theorem dL_law_421 : decode cL_law 421 = .ok (.iload_n 3, 1) := by decide +kernel
theorem dL_law_422 : decode cL_law 422 = .ok (.iconst 1, 1) := by decide +kernel
theorem dL_law_423 : decode cL_law 423 = .ok (.iadd, 1) := by decide +kernel
theorem dL_law_424 : decode cL_law 424 = .ok (.iaload, 1) := by decide +kernel
theorem dL_law_425 : decode cL_law 425 = .ok (.aload_n 0, 1) := by decide +kernel
theorem dL_law_426 : decode cL_law 426 = .ok (.iload_n 3, 1) := by decide +kernel
theorem dL_law_427 : decode cL_law 427 = .ok (.iconst 2, 1) := by decide +kernel
theorem dL_law_428 : decode cL_law 428 = .ok (.iadd, 1) := by decide +kernel
theorem dL_law_429 : decode cL_law 429 = .ok (.iaload, 1) := by decide +kernel
theorem dL_law_430 : decode cL_law 430 = .ok (.aload_n 0, 1) := by decide +kernel
theorem dL_law_431 : decode cL_law 431 = .ok (.iload_n 3, 1) := by decide +kernel
theorem dL_law_432 : decode cL_law 432 = .ok (.iconst 3, 1) := by decide +kernel
theorem dL_law_433 : decode cL_law 433 = .ok (.iadd, 1) := by decide +kernel
theorem dL_law_434 : decode cL_law 434 = .ok (.iaload, 1) := by decide +kernel
theorem dL_law_435 : decode cL_law 435 = .ok (.invokevirtual 44, 3) := by decide +kernel
theorem dL_law_438 : decode cL_law 438 = .ok (.if_icmp .eq 1068, 3) := by decide +kernel
theorem dL_law_441 : decode cL_law 441 = .ok (.iconst 0, 1) := by decide +kernel
theorem dL_law_442 : decode cL_law 442 = .ok (.ireturn, 1) := by decide +kernel
theorem dL_law_443 : decode cL_law 443 = .ok (.aload_n 1, 1) := by decide +kernel
theorem dL_law_444 : decode cL_law 444 = .ok (.aload_n 0, 1) := by decide +kernel
theorem dL_law_445 : decode cL_law 445 = .ok (.iload_n 3, 1) := by decide +kernel
theorem dL_law_446 : decode cL_law 446 = .ok (.iconst 1, 1) := by decide +kernel
theorem dL_law_447 : decode cL_law 447 = .ok (.iadd, 1) := by decide +kernel
theorem dL_law_448 : decode cL_law 448 = .ok (.iaload, 1) := by decide +kernel
theorem dL_law_449 : decode cL_law 449 = .ok (.aload_n 0, 1) := by decide +kernel
theorem dL_law_450 : decode cL_law 450 = .ok (.iload_n 3, 1) := by decide +kernel
theorem dL_law_451 : decode cL_law 451 = .ok (.iconst 2, 1) := by decide +kernel
theorem dL_law_452 : decode cL_law 452 = .ok (.iadd, 1) := by decide +kernel
theorem dL_law_453 : decode cL_law 453 = .ok (.iaload, 1) := by decide +kernel
theorem dL_law_454 : decode cL_law 454 = .ok (.aload_n 0, 1) := by decide +kernel
theorem dL_law_455 : decode cL_law 455 = .ok (.iload_n 3, 1) := by decide +kernel
theorem dL_law_456 : decode cL_law 456 = .ok (.iconst 3, 1) := by decide +kernel
theorem dL_law_457 : decode cL_law 457 = .ok (.iadd, 1) := by decide +kernel
theorem dL_law_458 : decode cL_law 458 = .ok (.iaload, 1) := by decide +kernel
theorem dL_law_459 : decode cL_law 459 = .ok (.invokevirtual 45, 3) := by decide +kernel
theorem dL_law_462 : decode cL_law 462 = .ok (.aload_n 2, 1) := by decide +kernel
theorem dL_law_463 : decode cL_law 463 = .ok (.aload_n 0, 1) := by decide +kernel
theorem dL_law_464 : decode cL_law 464 = .ok (.iload_n 3, 1) := by decide +kernel
theorem dL_law_465 : decode cL_law 465 = .ok (.iconst 1, 1) := by decide +kernel
theorem dL_law_466 : decode cL_law 466 = .ok (.iadd, 1) := by decide +kernel
theorem dL_law_467 : decode cL_law 467 = .ok (.iaload, 1) := by decide +kernel
theorem dL_law_468 : decode cL_law 468 = .ok (.aload_n 0, 1) := by decide +kernel
theorem dL_law_469 : decode cL_law 469 = .ok (.iload_n 3, 1) := by decide +kernel
theorem dL_law_470 : decode cL_law 470 = .ok (.iconst 2, 1) := by decide +kernel
theorem dL_law_471 : decode cL_law 471 = .ok (.iadd, 1) := by decide +kernel
theorem dL_law_472 : decode cL_law 472 = .ok (.iaload, 1) := by decide +kernel
theorem dL_law_473 : decode cL_law 473 = .ok (.aload_n 0, 1) := by decide +kernel
theorem dL_law_474 : decode cL_law 474 = .ok (.iload_n 3, 1) := by decide +kernel
theorem dL_law_475 : decode cL_law 475 = .ok (.iconst 3, 1) := by decide +kernel
theorem dL_law_476 : decode cL_law 476 = .ok (.iadd, 1) := by decide +kernel
theorem dL_law_477 : decode cL_law 477 = .ok (.iaload, 1) := by decide +kernel
theorem dL_law_478 : decode cL_law 478 = .ok (.invokevirtual 48, 3) := by decide +kernel
theorem dL_law_481 : decode cL_law 481 = .ok (.if_icmp .eq 1025, 3) := by decide +kernel
theorem dL_law_484 : decode cL_law 484 = .ok (.iconst 0, 1) := by decide +kernel
theorem dL_law_485 : decode cL_law 485 = .ok (.ireturn, 1) := by decide +kernel
theorem dL_law_486 : decode cL_law 486 = .ok (.aload_n 1, 1) := by decide +kernel
theorem dL_law_487 : decode cL_law 487 = .ok (.aload_n 0, 1) := by decide +kernel
theorem dL_law_488 : decode cL_law 488 = .ok (.iload_n 3, 1) := by decide +kernel
theorem dL_law_489 : decode cL_law 489 = .ok (.iconst 1, 1) := by decide +kernel
theorem dL_law_490 : decode cL_law 490 = .ok (.iadd, 1) := by decide +kernel
theorem dL_law_491 : decode cL_law 491 = .ok (.iaload, 1) := by decide +kernel
theorem dL_law_492 : decode cL_law 492 = .ok (.aload_n 0, 1) := by decide +kernel
theorem dL_law_493 : decode cL_law 493 = .ok (.iload_n 3, 1) := by decide +kernel
theorem dL_law_494 : decode cL_law 494 = .ok (.iconst 2, 1) := by decide +kernel
theorem dL_law_495 : decode cL_law 495 = .ok (.iadd, 1) := by decide +kernel
theorem dL_law_496 : decode cL_law 496 = .ok (.iaload, 1) := by decide +kernel
theorem dL_law_497 : decode cL_law 497 = .ok (.invokevirtual 49, 3) := by decide +kernel
theorem dL_law_500 : decode cL_law 500 = .ok (.aload_n 2, 1) := by decide +kernel
theorem dL_law_501 : decode cL_law 501 = .ok (.aload_n 0, 1) := by decide +kernel
theorem dL_law_502 : decode cL_law 502 = .ok (.iload_n 3, 1) := by decide +kernel
theorem dL_law_503 : decode cL_law 503 = .ok (.iconst 1, 1) := by decide +kernel
theorem dL_law_504 : decode cL_law 504 = .ok (.iadd, 1) := by decide +kernel
theorem dL_law_505 : decode cL_law 505 = .ok (.iaload, 1) := by decide +kernel
theorem dL_law_506 : decode cL_law 506 = .ok (.aload_n 0, 1) := by decide +kernel
theorem dL_law_507 : decode cL_law 507 = .ok (.iload_n 3, 1) := by decide +kernel
theorem dL_law_508 : decode cL_law 508 = .ok (.iconst 2, 1) := by decide +kernel
theorem dL_law_509 : decode cL_law 509 = .ok (.iadd, 1) := by decide +kernel
theorem dL_law_510 : decode cL_law 510 = .ok (.iaload, 1) := by decide +kernel
theorem dL_law_511 : decode cL_law 511 = .ok (.invokevirtual 52, 3) := by decide +kernel
theorem dL_law_514 : decode cL_law 514 = .ok (.if_icmp .eq 992, 3) := by decide +kernel
theorem dL_law_517 : decode cL_law 517 = .ok (.iconst 0, 1) := by decide +kernel
theorem dL_law_518 : decode cL_law 518 = .ok (.ireturn, 1) := by decide +kernel
theorem dL_law_519 : decode cL_law 519 = .ok (.aload_n 1, 1) := by decide +kernel
theorem dL_law_520 : decode cL_law 520 = .ok (.invokevirtual 53, 3) := by decide +kernel
theorem dL_law_523 : decode cL_law 523 = .ok (.aload_n 2, 1) := by decide +kernel
theorem dL_law_524 : decode cL_law 524 = .ok (.invokevirtual 56, 3) := by decide +kernel
theorem dL_law_527 : decode cL_law 527 = .ok (.if_icmp .eq 979, 3) := by decide +kernel
theorem dL_law_530 : decode cL_law 530 = .ok (.iconst 0, 1) := by decide +kernel
theorem dL_law_531 : decode cL_law 531 = .ok (.ireturn, 1) := by decide +kernel
theorem dL_law_532 : decode cL_law 532 = .ok (.aload_n 1, 1) := by decide +kernel
theorem dL_law_533 : decode cL_law 533 = .ok (.aload_n 0, 1) := by decide +kernel
theorem dL_law_534 : decode cL_law 534 = .ok (.iload_n 3, 1) := by decide +kernel
theorem dL_law_535 : decode cL_law 535 = .ok (.iconst 1, 1) := by decide +kernel
theorem dL_law_536 : decode cL_law 536 = .ok (.iadd, 1) := by decide +kernel
theorem dL_law_537 : decode cL_law 537 = .ok (.iaload, 1) := by decide +kernel
theorem dL_law_538 : decode cL_law 538 = .ok (.aload_n 0, 1) := by decide +kernel
theorem dL_law_539 : decode cL_law 539 = .ok (.iload_n 3, 1) := by decide +kernel
theorem dL_law_540 : decode cL_law 540 = .ok (.iconst 2, 1) := by decide +kernel
theorem dL_law_541 : decode cL_law 541 = .ok (.iadd, 1) := by decide +kernel
theorem dL_law_542 : decode cL_law 542 = .ok (.iaload, 1) := by decide +kernel
theorem dL_law_543 : decode cL_law 543 = .ok (.invokevirtual 57, 3) := by decide +kernel
theorem dL_law_546 : decode cL_law 546 = .ok (.aload_n 2, 1) := by decide +kernel
theorem dL_law_547 : decode cL_law 547 = .ok (.aload_n 0, 1) := by decide +kernel
theorem dL_law_548 : decode cL_law 548 = .ok (.iload_n 3, 1) := by decide +kernel
theorem dL_law_549 : decode cL_law 549 = .ok (.iconst 1, 1) := by decide +kernel
theorem dL_law_550 : decode cL_law 550 = .ok (.iadd, 1) := by decide +kernel
theorem dL_law_551 : decode cL_law 551 = .ok (.iaload, 1) := by decide +kernel
theorem dL_law_552 : decode cL_law 552 = .ok (.aload_n 0, 1) := by decide +kernel
theorem dL_law_553 : decode cL_law 553 = .ok (.iload_n 3, 1) := by decide +kernel
theorem dL_law_554 : decode cL_law 554 = .ok (.iconst 2, 1) := by decide +kernel
theorem dL_law_555 : decode cL_law 555 = .ok (.iadd, 1) := by decide +kernel
theorem dL_law_556 : decode cL_law 556 = .ok (.iaload, 1) := by decide +kernel
theorem dL_law_557 : decode cL_law 557 = .ok (.invokevirtual 60, 3) := by decide +kernel
theorem dL_law_560 : decode cL_law 560 = .ok (.if_icmp .eq 946, 3) := by decide +kernel
theorem dL_law_563 : decode cL_law 563 = .ok (.iconst 0, 1) := by decide +kernel
theorem dL_law_564 : decode cL_law 564 = .ok (.ireturn, 1) := by decide +kernel
theorem dL_law_565 : decode cL_law 565 = .ok (.aload_n 1, 1) := by decide +kernel
theorem dL_law_566 : decode cL_law 566 = .ok (.aload_n 0, 1) := by decide +kernel
theorem dL_law_567 : decode cL_law 567 = .ok (.iload_n 3, 1) := by decide +kernel
theorem dL_law_568 : decode cL_law 568 = .ok (.iconst 1, 1) := by decide +kernel
theorem dL_law_569 : decode cL_law 569 = .ok (.iadd, 1) := by decide +kernel
theorem dL_law_570 : decode cL_law 570 = .ok (.iaload, 1) := by decide +kernel
theorem dL_law_571 : decode cL_law 571 = .ok (.aload_n 0, 1) := by decide +kernel
theorem dL_law_572 : decode cL_law 572 = .ok (.iload_n 3, 1) := by decide +kernel
theorem dL_law_573 : decode cL_law 573 = .ok (.iconst 2, 1) := by decide +kernel
theorem dL_law_574 : decode cL_law 574 = .ok (.iadd, 1) := by decide +kernel
theorem dL_law_575 : decode cL_law 575 = .ok (.iaload, 1) := by decide +kernel
theorem dL_law_576 : decode cL_law 576 = .ok (.aload_n 0, 1) := by decide +kernel
theorem dL_law_577 : decode cL_law 577 = .ok (.iload_n 3, 1) := by decide +kernel
theorem dL_law_578 : decode cL_law 578 = .ok (.iconst 3, 1) := by decide +kernel
theorem dL_law_579 : decode cL_law 579 = .ok (.iadd, 1) := by decide +kernel
theorem dL_law_580 : decode cL_law 580 = .ok (.iaload, 1) := by decide +kernel
theorem dL_law_581 : decode cL_law 581 = .ok (.invokevirtual 61, 3) := by decide +kernel
theorem dL_law_584 : decode cL_law 584 = .ok (.aload_n 2, 1) := by decide +kernel
theorem dL_law_585 : decode cL_law 585 = .ok (.aload_n 0, 1) := by decide +kernel
theorem dL_law_586 : decode cL_law 586 = .ok (.iload_n 3, 1) := by decide +kernel
theorem dL_law_587 : decode cL_law 587 = .ok (.iconst 1, 1) := by decide +kernel
theorem dL_law_588 : decode cL_law 588 = .ok (.iadd, 1) := by decide +kernel
theorem dL_law_589 : decode cL_law 589 = .ok (.iaload, 1) := by decide +kernel
theorem dL_law_590 : decode cL_law 590 = .ok (.aload_n 0, 1) := by decide +kernel
theorem dL_law_591 : decode cL_law 591 = .ok (.iload_n 3, 1) := by decide +kernel
theorem dL_law_592 : decode cL_law 592 = .ok (.iconst 2, 1) := by decide +kernel
theorem dL_law_593 : decode cL_law 593 = .ok (.iadd, 1) := by decide +kernel
theorem dL_law_594 : decode cL_law 594 = .ok (.iaload, 1) := by decide +kernel
theorem dL_law_595 : decode cL_law 595 = .ok (.aload_n 0, 1) := by decide +kernel
theorem dL_law_596 : decode cL_law 596 = .ok (.iload_n 3, 1) := by decide +kernel
theorem dL_law_597 : decode cL_law 597 = .ok (.iconst 3, 1) := by decide +kernel
theorem dL_law_598 : decode cL_law 598 = .ok (.iadd, 1) := by decide +kernel
theorem dL_law_599 : decode cL_law 599 = .ok (.iaload, 1) := by decide +kernel
theorem dL_law_600 : decode cL_law 600 = .ok (.invokevirtual 64, 3) := by decide +kernel
theorem dL_law_603 : decode cL_law 603 = .ok (.if_icmp .eq 903, 3) := by decide +kernel
theorem dL_law_606 : decode cL_law 606 = .ok (.iconst 0, 1) := by decide +kernel
theorem dL_law_607 : decode cL_law 607 = .ok (.ireturn, 1) := by decide +kernel
theorem dL_law_608 : decode cL_law 608 = .ok (.aload_n 1, 1) := by decide +kernel
theorem dL_law_609 : decode cL_law 609 = .ok (.aload_n 0, 1) := by decide +kernel
theorem dL_law_610 : decode cL_law 610 = .ok (.iload_n 3, 1) := by decide +kernel
theorem dL_law_611 : decode cL_law 611 = .ok (.iconst 1, 1) := by decide +kernel
theorem dL_law_612 : decode cL_law 612 = .ok (.iadd, 1) := by decide +kernel
theorem dL_law_613 : decode cL_law 613 = .ok (.iaload, 1) := by decide +kernel
theorem dL_law_614 : decode cL_law 614 = .ok (.invokevirtual 65, 3) := by decide +kernel
theorem dL_law_617 : decode cL_law 617 = .ok (.aload_n 2, 1) := by decide +kernel
theorem dL_law_618 : decode cL_law 618 = .ok (.aload_n 0, 1) := by decide +kernel
theorem dL_law_619 : decode cL_law 619 = .ok (.iload_n 3, 1) := by decide +kernel
theorem dL_law_620 : decode cL_law 620 = .ok (.iconst 1, 1) := by decide +kernel
theorem dL_law_621 : decode cL_law 621 = .ok (.iadd, 1) := by decide +kernel
theorem dL_law_622 : decode cL_law 622 = .ok (.iaload, 1) := by decide +kernel
theorem dL_law_623 : decode cL_law 623 = .ok (.invokevirtual 68, 3) := by decide +kernel
theorem dL_law_626 : decode cL_law 626 = .ok (.if_icmp .eq 880, 3) := by decide +kernel
theorem dL_law_629 : decode cL_law 629 = .ok (.iconst 0, 1) := by decide +kernel
theorem dL_law_630 : decode cL_law 630 = .ok (.ireturn, 1) := by decide +kernel
theorem dL_law_631 : decode cL_law 631 = .ok (.aload_n 1, 1) := by decide +kernel
theorem dL_law_632 : decode cL_law 632 = .ok (.aload_n 0, 1) := by decide +kernel
theorem dL_law_633 : decode cL_law 633 = .ok (.iload_n 3, 1) := by decide +kernel
theorem dL_law_634 : decode cL_law 634 = .ok (.iconst 1, 1) := by decide +kernel
theorem dL_law_635 : decode cL_law 635 = .ok (.iadd, 1) := by decide +kernel
theorem dL_law_636 : decode cL_law 636 = .ok (.iaload, 1) := by decide +kernel
theorem dL_law_637 : decode cL_law 637 = .ok (.aload_n 0, 1) := by decide +kernel
theorem dL_law_638 : decode cL_law 638 = .ok (.iload_n 3, 1) := by decide +kernel
theorem dL_law_639 : decode cL_law 639 = .ok (.iconst 2, 1) := by decide +kernel
theorem dL_law_640 : decode cL_law 640 = .ok (.iadd, 1) := by decide +kernel
theorem dL_law_641 : decode cL_law 641 = .ok (.iaload, 1) := by decide +kernel
theorem dL_law_642 : decode cL_law 642 = .ok (.invokevirtual 69, 3) := by decide +kernel
theorem dL_law_645 : decode cL_law 645 = .ok (.aload_n 2, 1) := by decide +kernel
theorem dL_law_646 : decode cL_law 646 = .ok (.aload_n 0, 1) := by decide +kernel
theorem dL_law_647 : decode cL_law 647 = .ok (.iload_n 3, 1) := by decide +kernel
theorem dL_law_648 : decode cL_law 648 = .ok (.iconst 1, 1) := by decide +kernel
theorem dL_law_649 : decode cL_law 649 = .ok (.iadd, 1) := by decide +kernel
theorem dL_law_650 : decode cL_law 650 = .ok (.iaload, 1) := by decide +kernel
theorem dL_law_651 : decode cL_law 651 = .ok (.aload_n 0, 1) := by decide +kernel
theorem dL_law_652 : decode cL_law 652 = .ok (.iload_n 3, 1) := by decide +kernel
theorem dL_law_653 : decode cL_law 653 = .ok (.iconst 2, 1) := by decide +kernel
theorem dL_law_654 : decode cL_law 654 = .ok (.iadd, 1) := by decide +kernel
theorem dL_law_655 : decode cL_law 655 = .ok (.iaload, 1) := by decide +kernel
theorem dL_law_656 : decode cL_law 656 = .ok (.invokevirtual 72, 3) := by decide +kernel
theorem dL_law_659 : decode cL_law 659 = .ok (.if_icmp .eq 847, 3) := by decide +kernel
theorem dL_law_662 : decode cL_law 662 = .ok (.iconst 0, 1) := by decide +kernel
theorem dL_law_663 : decode cL_law 663 = .ok (.ireturn, 1) := by decide +kernel
theorem dL_law_664 : decode cL_law 664 = .ok (.aload_n 1, 1) := by decide +kernel
theorem dL_law_665 : decode cL_law 665 = .ok (.aload_n 0, 1) := by decide +kernel
theorem dL_law_666 : decode cL_law 666 = .ok (.iload_n 3, 1) := by decide +kernel
theorem dL_law_667 : decode cL_law 667 = .ok (.iconst 1, 1) := by decide +kernel
theorem dL_law_668 : decode cL_law 668 = .ok (.iadd, 1) := by decide +kernel
theorem dL_law_669 : decode cL_law 669 = .ok (.iaload, 1) := by decide +kernel
theorem dL_law_670 : decode cL_law 670 = .ok (.aload_n 0, 1) := by decide +kernel
theorem dL_law_671 : decode cL_law 671 = .ok (.iload_n 3, 1) := by decide +kernel
theorem dL_law_672 : decode cL_law 672 = .ok (.iconst 2, 1) := by decide +kernel
theorem dL_law_673 : decode cL_law 673 = .ok (.iadd, 1) := by decide +kernel
theorem dL_law_674 : decode cL_law 674 = .ok (.iaload, 1) := by decide +kernel
theorem dL_law_675 : decode cL_law 675 = .ok (.aload_n 0, 1) := by decide +kernel
theorem dL_law_676 : decode cL_law 676 = .ok (.iload_n 3, 1) := by decide +kernel
theorem dL_law_677 : decode cL_law 677 = .ok (.iconst 3, 1) := by decide +kernel
theorem dL_law_678 : decode cL_law 678 = .ok (.iadd, 1) := by decide +kernel
theorem dL_law_679 : decode cL_law 679 = .ok (.iaload, 1) := by decide +kernel
theorem dL_law_680 : decode cL_law 680 = .ok (.invokevirtual 73, 3) := by decide +kernel
theorem dL_law_683 : decode cL_law 683 = .ok (.aload_n 2, 1) := by decide +kernel
theorem dL_law_684 : decode cL_law 684 = .ok (.aload_n 0, 1) := by decide +kernel
theorem dL_law_685 : decode cL_law 685 = .ok (.iload_n 3, 1) := by decide +kernel
theorem dL_law_686 : decode cL_law 686 = .ok (.iconst 1, 1) := by decide +kernel
theorem dL_law_687 : decode cL_law 687 = .ok (.iadd, 1) := by decide +kernel
theorem dL_law_688 : decode cL_law 688 = .ok (.iaload, 1) := by decide +kernel
theorem dL_law_689 : decode cL_law 689 = .ok (.aload_n 0, 1) := by decide +kernel
theorem dL_law_690 : decode cL_law 690 = .ok (.iload_n 3, 1) := by decide +kernel
theorem dL_law_691 : decode cL_law 691 = .ok (.iconst 2, 1) := by decide +kernel
theorem dL_law_692 : decode cL_law 692 = .ok (.iadd, 1) := by decide +kernel
theorem dL_law_693 : decode cL_law 693 = .ok (.iaload, 1) := by decide +kernel
theorem dL_law_694 : decode cL_law 694 = .ok (.aload_n 0, 1) := by decide +kernel
theorem dL_law_695 : decode cL_law 695 = .ok (.iload_n 3, 1) := by decide +kernel
theorem dL_law_696 : decode cL_law 696 = .ok (.iconst 3, 1) := by decide +kernel
theorem dL_law_697 : decode cL_law 697 = .ok (.iadd, 1) := by decide +kernel
theorem dL_law_698 : decode cL_law 698 = .ok (.iaload, 1) := by decide +kernel
theorem dL_law_699 : decode cL_law 699 = .ok (.invokevirtual 76, 3) := by decide +kernel
theorem dL_law_702 : decode cL_law 702 = .ok (.if_icmp .eq 804, 3) := by decide +kernel
theorem dL_law_705 : decode cL_law 705 = .ok (.iconst 0, 1) := by decide +kernel
theorem dL_law_706 : decode cL_law 706 = .ok (.ireturn, 1) := by decide +kernel
theorem dL_law_707 : decode cL_law 707 = .ok (.aload_n 1, 1) := by decide +kernel
theorem dL_law_708 : decode cL_law 708 = .ok (.aload_n 0, 1) := by decide +kernel
theorem dL_law_709 : decode cL_law 709 = .ok (.iload_n 3, 1) := by decide +kernel
theorem dL_law_710 : decode cL_law 710 = .ok (.iconst 1, 1) := by decide +kernel
theorem dL_law_711 : decode cL_law 711 = .ok (.iadd, 1) := by decide +kernel
theorem dL_law_712 : decode cL_law 712 = .ok (.iaload, 1) := by decide +kernel
theorem dL_law_713 : decode cL_law 713 = .ok (.aload_n 0, 1) := by decide +kernel
theorem dL_law_714 : decode cL_law 714 = .ok (.iload_n 3, 1) := by decide +kernel
theorem dL_law_715 : decode cL_law 715 = .ok (.iconst 2, 1) := by decide +kernel
theorem dL_law_716 : decode cL_law 716 = .ok (.iadd, 1) := by decide +kernel
theorem dL_law_717 : decode cL_law 717 = .ok (.iaload, 1) := by decide +kernel
theorem dL_law_718 : decode cL_law 718 = .ok (.invokevirtual 77, 3) := by decide +kernel
theorem dL_law_721 : decode cL_law 721 = .ok (.aload_n 2, 1) := by decide +kernel
theorem dL_law_722 : decode cL_law 722 = .ok (.aload_n 0, 1) := by decide +kernel
theorem dL_law_723 : decode cL_law 723 = .ok (.iload_n 3, 1) := by decide +kernel
theorem dL_law_724 : decode cL_law 724 = .ok (.iconst 1, 1) := by decide +kernel
theorem dL_law_725 : decode cL_law 725 = .ok (.iadd, 1) := by decide +kernel
theorem dL_law_726 : decode cL_law 726 = .ok (.iaload, 1) := by decide +kernel
theorem dL_law_727 : decode cL_law 727 = .ok (.aload_n 0, 1) := by decide +kernel
theorem dL_law_728 : decode cL_law 728 = .ok (.iload_n 3, 1) := by decide +kernel
theorem dL_law_729 : decode cL_law 729 = .ok (.iconst 2, 1) := by decide +kernel
theorem dL_law_730 : decode cL_law 730 = .ok (.iadd, 1) := by decide +kernel
theorem dL_law_731 : decode cL_law 731 = .ok (.iaload, 1) := by decide +kernel
theorem dL_law_732 : decode cL_law 732 = .ok (.invokevirtual 80, 3) := by decide +kernel
theorem dL_law_735 : decode cL_law 735 = .ok (.if_icmp .eq 771, 3) := by decide +kernel
theorem dL_law_738 : decode cL_law 738 = .ok (.iconst 0, 1) := by decide +kernel
theorem dL_law_739 : decode cL_law 739 = .ok (.ireturn, 1) := by decide +kernel
theorem dL_law_740 : decode cL_law 740 = .ok (.aload_n 1, 1) := by decide +kernel
theorem dL_law_741 : decode cL_law 741 = .ok (.aload_n 0, 1) := by decide +kernel
theorem dL_law_742 : decode cL_law 742 = .ok (.iload_n 3, 1) := by decide +kernel
theorem dL_law_743 : decode cL_law 743 = .ok (.iconst 1, 1) := by decide +kernel
theorem dL_law_744 : decode cL_law 744 = .ok (.iadd, 1) := by decide +kernel
theorem dL_law_745 : decode cL_law 745 = .ok (.iaload, 1) := by decide +kernel
theorem dL_law_746 : decode cL_law 746 = .ok (.aload_n 0, 1) := by decide +kernel
theorem dL_law_747 : decode cL_law 747 = .ok (.iload_n 3, 1) := by decide +kernel
theorem dL_law_748 : decode cL_law 748 = .ok (.iconst 2, 1) := by decide +kernel
theorem dL_law_749 : decode cL_law 749 = .ok (.iadd, 1) := by decide +kernel
theorem dL_law_750 : decode cL_law 750 = .ok (.iaload, 1) := by decide +kernel
theorem dL_law_751 : decode cL_law 751 = .ok (.invokevirtual 81, 3) := by decide +kernel
theorem dL_law_754 : decode cL_law 754 = .ok (.aload_n 2, 1) := by decide +kernel
theorem dL_law_755 : decode cL_law 755 = .ok (.aload_n 0, 1) := by decide +kernel
theorem dL_law_756 : decode cL_law 756 = .ok (.iload_n 3, 1) := by decide +kernel
theorem dL_law_757 : decode cL_law 757 = .ok (.iconst 1, 1) := by decide +kernel
theorem dL_law_758 : decode cL_law 758 = .ok (.iadd, 1) := by decide +kernel
theorem dL_law_759 : decode cL_law 759 = .ok (.iaload, 1) := by decide +kernel
theorem dL_law_760 : decode cL_law 760 = .ok (.aload_n 0, 1) := by decide +kernel
theorem dL_law_761 : decode cL_law 761 = .ok (.iload_n 3, 1) := by decide +kernel
theorem dL_law_762 : decode cL_law 762 = .ok (.iconst 2, 1) := by decide +kernel
theorem dL_law_763 : decode cL_law 763 = .ok (.iadd, 1) := by decide +kernel
theorem dL_law_764 : decode cL_law 764 = .ok (.iaload, 1) := by decide +kernel
theorem dL_law_765 : decode cL_law 765 = .ok (.invokevirtual 84, 3) := by decide +kernel
theorem dL_law_768 : decode cL_law 768 = .ok (.if_icmp .eq 738, 3) := by decide +kernel
theorem dL_law_771 : decode cL_law 771 = .ok (.iconst 0, 1) := by decide +kernel
theorem dL_law_772 : decode cL_law 772 = .ok (.ireturn, 1) := by decide +kernel
theorem dL_law_773 : decode cL_law 773 = .ok (.aload_n 1, 1) := by decide +kernel
theorem dL_law_774 : decode cL_law 774 = .ok (.aload_n 0, 1) := by decide +kernel
theorem dL_law_775 : decode cL_law 775 = .ok (.iload_n 3, 1) := by decide +kernel
theorem dL_law_776 : decode cL_law 776 = .ok (.iconst 1, 1) := by decide +kernel
theorem dL_law_777 : decode cL_law 777 = .ok (.iadd, 1) := by decide +kernel
theorem dL_law_778 : decode cL_law 778 = .ok (.iaload, 1) := by decide +kernel
theorem dL_law_779 : decode cL_law 779 = .ok (.aload_n 0, 1) := by decide +kernel
theorem dL_law_780 : decode cL_law 780 = .ok (.iload_n 3, 1) := by decide +kernel
theorem dL_law_781 : decode cL_law 781 = .ok (.iconst 2, 1) := by decide +kernel
theorem dL_law_782 : decode cL_law 782 = .ok (.iadd, 1) := by decide +kernel
theorem dL_law_783 : decode cL_law 783 = .ok (.iaload, 1) := by decide +kernel
theorem dL_law_784 : decode cL_law 784 = .ok (.aload_n 0, 1) := by decide +kernel
theorem dL_law_785 : decode cL_law 785 = .ok (.iload_n 3, 1) := by decide +kernel
theorem dL_law_786 : decode cL_law 786 = .ok (.iconst 3, 1) := by decide +kernel
theorem dL_law_787 : decode cL_law 787 = .ok (.iadd, 1) := by decide +kernel
theorem dL_law_788 : decode cL_law 788 = .ok (.iaload, 1) := by decide +kernel
theorem dL_law_789 : decode cL_law 789 = .ok (.invokevirtual 85, 3) := by decide +kernel
theorem dL_law_792 : decode cL_law 792 = .ok (.aload_n 2, 1) := by decide +kernel
theorem dL_law_793 : decode cL_law 793 = .ok (.aload_n 0, 1) := by decide +kernel
theorem dL_law_794 : decode cL_law 794 = .ok (.iload_n 3, 1) := by decide +kernel
theorem dL_law_795 : decode cL_law 795 = .ok (.iconst 1, 1) := by decide +kernel
theorem dL_law_796 : decode cL_law 796 = .ok (.iadd, 1) := by decide +kernel
theorem dL_law_797 : decode cL_law 797 = .ok (.iaload, 1) := by decide +kernel
theorem dL_law_798 : decode cL_law 798 = .ok (.aload_n 0, 1) := by decide +kernel
theorem dL_law_799 : decode cL_law 799 = .ok (.iload_n 3, 1) := by decide +kernel
theorem dL_law_800 : decode cL_law 800 = .ok (.iconst 2, 1) := by decide +kernel
theorem dL_law_801 : decode cL_law 801 = .ok (.iadd, 1) := by decide +kernel
theorem dL_law_802 : decode cL_law 802 = .ok (.iaload, 1) := by decide +kernel
theorem dL_law_803 : decode cL_law 803 = .ok (.aload_n 0, 1) := by decide +kernel
theorem dL_law_804 : decode cL_law 804 = .ok (.iload_n 3, 1) := by decide +kernel
theorem dL_law_805 : decode cL_law 805 = .ok (.iconst 3, 1) := by decide +kernel
theorem dL_law_806 : decode cL_law 806 = .ok (.iadd, 1) := by decide +kernel
theorem dL_law_807 : decode cL_law 807 = .ok (.iaload, 1) := by decide +kernel
theorem dL_law_808 : decode cL_law 808 = .ok (.invokevirtual 88, 3) := by decide +kernel
theorem dL_law_811 : decode cL_law 811 = .ok (.if_icmp .eq 695, 3) := by decide +kernel
theorem dL_law_814 : decode cL_law 814 = .ok (.iconst 0, 1) := by decide +kernel
theorem dL_law_815 : decode cL_law 815 = .ok (.ireturn, 1) := by decide +kernel
theorem dL_law_816 : decode cL_law 816 = .ok (.aload_n 1, 1) := by decide +kernel
theorem dL_law_817 : decode cL_law 817 = .ok (.aload_n 0, 1) := by decide +kernel
theorem dL_law_818 : decode cL_law 818 = .ok (.iload_n 3, 1) := by decide +kernel
theorem dL_law_819 : decode cL_law 819 = .ok (.iconst 1, 1) := by decide +kernel
theorem dL_law_820 : decode cL_law 820 = .ok (.iadd, 1) := by decide +kernel
theorem dL_law_821 : decode cL_law 821 = .ok (.iaload, 1) := by decide +kernel
theorem dL_law_822 : decode cL_law 822 = .ok (.invokevirtual 89, 3) := by decide +kernel
theorem dL_law_825 : decode cL_law 825 = .ok (.aload_n 2, 1) := by decide +kernel
theorem dL_law_826 : decode cL_law 826 = .ok (.aload_n 0, 1) := by decide +kernel
theorem dL_law_827 : decode cL_law 827 = .ok (.iload_n 3, 1) := by decide +kernel
theorem dL_law_828 : decode cL_law 828 = .ok (.iconst 1, 1) := by decide +kernel
theorem dL_law_829 : decode cL_law 829 = .ok (.iadd, 1) := by decide +kernel
theorem dL_law_830 : decode cL_law 830 = .ok (.iaload, 1) := by decide +kernel
theorem dL_law_831 : decode cL_law 831 = .ok (.invokevirtual 92, 3) := by decide +kernel
theorem dL_law_834 : decode cL_law 834 = .ok (.if_icmp .eq 672, 3) := by decide +kernel
theorem dL_law_837 : decode cL_law 837 = .ok (.iconst 0, 1) := by decide +kernel
theorem dL_law_838 : decode cL_law 838 = .ok (.ireturn, 1) := by decide +kernel
theorem dL_law_839 : decode cL_law 839 = .ok (.aload_n 1, 1) := by decide +kernel
theorem dL_law_840 : decode cL_law 840 = .ok (.aload_n 0, 1) := by decide +kernel
theorem dL_law_841 : decode cL_law 841 = .ok (.iload_n 3, 1) := by decide +kernel
theorem dL_law_842 : decode cL_law 842 = .ok (.iconst 1, 1) := by decide +kernel
theorem dL_law_843 : decode cL_law 843 = .ok (.iadd, 1) := by decide +kernel
theorem dL_law_844 : decode cL_law 844 = .ok (.iaload, 1) := by decide +kernel
theorem dL_law_845 : decode cL_law 845 = .ok (.invokevirtual 93, 3) := by decide +kernel
theorem dL_law_848 : decode cL_law 848 = .ok (.aload_n 2, 1) := by decide +kernel
theorem dL_law_849 : decode cL_law 849 = .ok (.aload_n 0, 1) := by decide +kernel
theorem dL_law_850 : decode cL_law 850 = .ok (.iload_n 3, 1) := by decide +kernel
theorem dL_law_851 : decode cL_law 851 = .ok (.iconst 1, 1) := by decide +kernel
theorem dL_law_852 : decode cL_law 852 = .ok (.iadd, 1) := by decide +kernel
theorem dL_law_853 : decode cL_law 853 = .ok (.iaload, 1) := by decide +kernel
theorem dL_law_854 : decode cL_law 854 = .ok (.invokevirtual 96, 3) := by decide +kernel
theorem dL_law_857 : decode cL_law 857 = .ok (.if_icmp .eq 649, 3) := by decide +kernel
theorem dL_law_860 : decode cL_law 860 = .ok (.iconst 0, 1) := by decide +kernel
theorem dL_law_861 : decode cL_law 861 = .ok (.ireturn, 1) := by decide +kernel
theorem dL_law_862 : decode cL_law 862 = .ok (.aload_n 1, 1) := by decide +kernel
theorem dL_law_863 : decode cL_law 863 = .ok (.aload_n 0, 1) := by decide +kernel
theorem dL_law_864 : decode cL_law 864 = .ok (.iload_n 3, 1) := by decide +kernel
theorem dL_law_865 : decode cL_law 865 = .ok (.iconst 1, 1) := by decide +kernel
theorem dL_law_866 : decode cL_law 866 = .ok (.iadd, 1) := by decide +kernel
theorem dL_law_867 : decode cL_law 867 = .ok (.iaload, 1) := by decide +kernel
theorem dL_law_868 : decode cL_law 868 = .ok (.aload_n 0, 1) := by decide +kernel
theorem dL_law_869 : decode cL_law 869 = .ok (.iload_n 3, 1) := by decide +kernel
theorem dL_law_870 : decode cL_law 870 = .ok (.iconst 2, 1) := by decide +kernel
theorem dL_law_871 : decode cL_law 871 = .ok (.iadd, 1) := by decide +kernel
theorem dL_law_872 : decode cL_law 872 = .ok (.iaload, 1) := by decide +kernel
theorem dL_law_873 : decode cL_law 873 = .ok (.invokevirtual 97, 3) := by decide +kernel
theorem dL_law_876 : decode cL_law 876 = .ok (.aload_n 2, 1) := by decide +kernel
theorem dL_law_877 : decode cL_law 877 = .ok (.aload_n 0, 1) := by decide +kernel
theorem dL_law_878 : decode cL_law 878 = .ok (.iload_n 3, 1) := by decide +kernel
theorem dL_law_879 : decode cL_law 879 = .ok (.iconst 1, 1) := by decide +kernel
theorem dL_law_880 : decode cL_law 880 = .ok (.iadd, 1) := by decide +kernel
theorem dL_law_881 : decode cL_law 881 = .ok (.iaload, 1) := by decide +kernel
theorem dL_law_882 : decode cL_law 882 = .ok (.aload_n 0, 1) := by decide +kernel
theorem dL_law_883 : decode cL_law 883 = .ok (.iload_n 3, 1) := by decide +kernel
theorem dL_law_884 : decode cL_law 884 = .ok (.iconst 2, 1) := by decide +kernel
theorem dL_law_885 : decode cL_law 885 = .ok (.iadd, 1) := by decide +kernel
theorem dL_law_886 : decode cL_law 886 = .ok (.iaload, 1) := by decide +kernel
theorem dL_law_887 : decode cL_law 887 = .ok (.invokevirtual 100, 3) := by decide +kernel
theorem dL_law_890 : decode cL_law 890 = .ok (.if_icmp .eq 616, 3) := by decide +kernel
theorem dL_law_893 : decode cL_law 893 = .ok (.iconst 0, 1) := by decide +kernel
theorem dL_law_894 : decode cL_law 894 = .ok (.ireturn, 1) := by decide +kernel
theorem dL_law_895 : decode cL_law 895 = .ok (.aload_n 1, 1) := by decide +kernel
theorem dL_law_896 : decode cL_law 896 = .ok (.aload_n 0, 1) := by decide +kernel
theorem dL_law_897 : decode cL_law 897 = .ok (.iload_n 3, 1) := by decide +kernel
theorem dL_law_898 : decode cL_law 898 = .ok (.iconst 1, 1) := by decide +kernel
theorem dL_law_899 : decode cL_law 899 = .ok (.iadd, 1) := by decide +kernel
theorem dL_law_900 : decode cL_law 900 = .ok (.iaload, 1) := by decide +kernel
theorem dL_law_901 : decode cL_law 901 = .ok (.aload_n 0, 1) := by decide +kernel
theorem dL_law_902 : decode cL_law 902 = .ok (.iload_n 3, 1) := by decide +kernel
theorem dL_law_903 : decode cL_law 903 = .ok (.iconst 2, 1) := by decide +kernel
theorem dL_law_904 : decode cL_law 904 = .ok (.iadd, 1) := by decide +kernel
theorem dL_law_905 : decode cL_law 905 = .ok (.iaload, 1) := by decide +kernel
theorem dL_law_906 : decode cL_law 906 = .ok (.invokevirtual 101, 3) := by decide +kernel
theorem dL_law_909 : decode cL_law 909 = .ok (.aload_n 2, 1) := by decide +kernel
theorem dL_law_910 : decode cL_law 910 = .ok (.aload_n 0, 1) := by decide +kernel
theorem dL_law_911 : decode cL_law 911 = .ok (.iload_n 3, 1) := by decide +kernel
theorem dL_law_912 : decode cL_law 912 = .ok (.iconst 1, 1) := by decide +kernel
theorem dL_law_913 : decode cL_law 913 = .ok (.iadd, 1) := by decide +kernel
theorem dL_law_914 : decode cL_law 914 = .ok (.iaload, 1) := by decide +kernel
theorem dL_law_915 : decode cL_law 915 = .ok (.aload_n 0, 1) := by decide +kernel
theorem dL_law_916 : decode cL_law 916 = .ok (.iload_n 3, 1) := by decide +kernel
theorem dL_law_917 : decode cL_law 917 = .ok (.iconst 2, 1) := by decide +kernel
theorem dL_law_918 : decode cL_law 918 = .ok (.iadd, 1) := by decide +kernel
theorem dL_law_919 : decode cL_law 919 = .ok (.iaload, 1) := by decide +kernel
theorem dL_law_920 : decode cL_law 920 = .ok (.invokevirtual 104, 3) := by decide +kernel
theorem dL_law_923 : decode cL_law 923 = .ok (.if_icmp .eq 583, 3) := by decide +kernel
theorem dL_law_926 : decode cL_law 926 = .ok (.iconst 0, 1) := by decide +kernel
theorem dL_law_927 : decode cL_law 927 = .ok (.ireturn, 1) := by decide +kernel
theorem dL_law_928 : decode cL_law 928 = .ok (.aload_n 1, 1) := by decide +kernel
theorem dL_law_929 : decode cL_law 929 = .ok (.aload_n 0, 1) := by decide +kernel
theorem dL_law_930 : decode cL_law 930 = .ok (.iload_n 3, 1) := by decide +kernel
theorem dL_law_931 : decode cL_law 931 = .ok (.iconst 1, 1) := by decide +kernel
theorem dL_law_932 : decode cL_law 932 = .ok (.iadd, 1) := by decide +kernel
theorem dL_law_933 : decode cL_law 933 = .ok (.iaload, 1) := by decide +kernel
theorem dL_law_934 : decode cL_law 934 = .ok (.aload_n 0, 1) := by decide +kernel
theorem dL_law_935 : decode cL_law 935 = .ok (.iload_n 3, 1) := by decide +kernel
theorem dL_law_936 : decode cL_law 936 = .ok (.iconst 2, 1) := by decide +kernel
theorem dL_law_937 : decode cL_law 937 = .ok (.iadd, 1) := by decide +kernel
theorem dL_law_938 : decode cL_law 938 = .ok (.iaload, 1) := by decide +kernel
theorem dL_law_939 : decode cL_law 939 = .ok (.aload_n 0, 1) := by decide +kernel
theorem dL_law_940 : decode cL_law 940 = .ok (.iload_n 3, 1) := by decide +kernel
theorem dL_law_941 : decode cL_law 941 = .ok (.iconst 3, 1) := by decide +kernel
theorem dL_law_942 : decode cL_law 942 = .ok (.iadd, 1) := by decide +kernel
theorem dL_law_943 : decode cL_law 943 = .ok (.iaload, 1) := by decide +kernel
theorem dL_law_944 : decode cL_law 944 = .ok (.invokevirtual 105, 3) := by decide +kernel
theorem dL_law_947 : decode cL_law 947 = .ok (.aload_n 2, 1) := by decide +kernel
theorem dL_law_948 : decode cL_law 948 = .ok (.aload_n 0, 1) := by decide +kernel
theorem dL_law_949 : decode cL_law 949 = .ok (.iload_n 3, 1) := by decide +kernel
theorem dL_law_950 : decode cL_law 950 = .ok (.iconst 1, 1) := by decide +kernel
theorem dL_law_951 : decode cL_law 951 = .ok (.iadd, 1) := by decide +kernel
theorem dL_law_952 : decode cL_law 952 = .ok (.iaload, 1) := by decide +kernel
theorem dL_law_953 : decode cL_law 953 = .ok (.aload_n 0, 1) := by decide +kernel
theorem dL_law_954 : decode cL_law 954 = .ok (.iload_n 3, 1) := by decide +kernel
theorem dL_law_955 : decode cL_law 955 = .ok (.iconst 2, 1) := by decide +kernel
theorem dL_law_956 : decode cL_law 956 = .ok (.iadd, 1) := by decide +kernel
theorem dL_law_957 : decode cL_law 957 = .ok (.iaload, 1) := by decide +kernel
theorem dL_law_958 : decode cL_law 958 = .ok (.aload_n 0, 1) := by decide +kernel
theorem dL_law_959 : decode cL_law 959 = .ok (.iload_n 3, 1) := by decide +kernel
theorem dL_law_960 : decode cL_law 960 = .ok (.iconst 3, 1) := by decide +kernel
theorem dL_law_961 : decode cL_law 961 = .ok (.iadd, 1) := by decide +kernel
theorem dL_law_962 : decode cL_law 962 = .ok (.iaload, 1) := by decide +kernel
theorem dL_law_963 : decode cL_law 963 = .ok (.invokevirtual 108, 3) := by decide +kernel
theorem dL_law_966 : decode cL_law 966 = .ok (.if_icmp .eq 540, 3) := by decide +kernel
theorem dL_law_969 : decode cL_law 969 = .ok (.iconst 0, 1) := by decide +kernel
theorem dL_law_970 : decode cL_law 970 = .ok (.ireturn, 1) := by decide +kernel
theorem dL_law_971 : decode cL_law 971 = .ok (.aload_n 1, 1) := by decide +kernel
theorem dL_law_972 : decode cL_law 972 = .ok (.invokevirtual 109, 3) := by decide +kernel
theorem dL_law_975 : decode cL_law 975 = .ok (.aload_n 2, 1) := by decide +kernel
theorem dL_law_976 : decode cL_law 976 = .ok (.invokevirtual 112, 3) := by decide +kernel
theorem dL_law_979 : decode cL_law 979 = .ok (.if_icmp .eq 527, 3) := by decide +kernel
theorem dL_law_982 : decode cL_law 982 = .ok (.iconst 0, 1) := by decide +kernel
theorem dL_law_983 : decode cL_law 983 = .ok (.ireturn, 1) := by decide +kernel
theorem dL_law_984 : decode cL_law 984 = .ok (.aload_n 1, 1) := by decide +kernel
theorem dL_law_985 : decode cL_law 985 = .ok (.aload_n 0, 1) := by decide +kernel
theorem dL_law_986 : decode cL_law 986 = .ok (.iload_n 3, 1) := by decide +kernel
theorem dL_law_987 : decode cL_law 987 = .ok (.iconst 1, 1) := by decide +kernel
theorem dL_law_988 : decode cL_law 988 = .ok (.iadd, 1) := by decide +kernel
theorem dL_law_989 : decode cL_law 989 = .ok (.iaload, 1) := by decide +kernel
theorem dL_law_990 : decode cL_law 990 = .ok (.invokevirtual 113, 3) := by decide +kernel
theorem dL_law_993 : decode cL_law 993 = .ok (.aload_n 2, 1) := by decide +kernel
theorem dL_law_994 : decode cL_law 994 = .ok (.aload_n 0, 1) := by decide +kernel
theorem dL_law_995 : decode cL_law 995 = .ok (.iload_n 3, 1) := by decide +kernel
theorem dL_law_996 : decode cL_law 996 = .ok (.iconst 1, 1) := by decide +kernel
theorem dL_law_997 : decode cL_law 997 = .ok (.iadd, 1) := by decide +kernel
theorem dL_law_998 : decode cL_law 998 = .ok (.iaload, 1) := by decide +kernel
theorem dL_law_999 : decode cL_law 999 = .ok (.invokevirtual 116, 3) := by decide +kernel
theorem dL_law_1002 : decode cL_law 1002 = .ok (.if_icmp .eq 504, 3) := by decide +kernel
theorem dL_law_1005 : decode cL_law 1005 = .ok (.iconst 0, 1) := by decide +kernel
theorem dL_law_1006 : decode cL_law 1006 = .ok (.ireturn, 1) := by decide +kernel
theorem dL_law_1007 : decode cL_law 1007 = .ok (.aload_n 1, 1) := by decide +kernel
theorem dL_law_1008 : decode cL_law 1008 = .ok (.aload_n 0, 1) := by decide +kernel
theorem dL_law_1009 : decode cL_law 1009 = .ok (.iload_n 3, 1) := by decide +kernel
theorem dL_law_1010 : decode cL_law 1010 = .ok (.iconst 1, 1) := by decide +kernel
theorem dL_law_1011 : decode cL_law 1011 = .ok (.iadd, 1) := by decide +kernel
theorem dL_law_1012 : decode cL_law 1012 = .ok (.iaload, 1) := by decide +kernel
theorem dL_law_1013 : decode cL_law 1013 = .ok (.invokevirtual 117, 3) := by decide +kernel
theorem dL_law_1016 : decode cL_law 1016 = .ok (.aload_n 2, 1) := by decide +kernel
theorem dL_law_1017 : decode cL_law 1017 = .ok (.aload_n 0, 1) := by decide +kernel
theorem dL_law_1018 : decode cL_law 1018 = .ok (.iload_n 3, 1) := by decide +kernel
theorem dL_law_1019 : decode cL_law 1019 = .ok (.iconst 1, 1) := by decide +kernel
theorem dL_law_1020 : decode cL_law 1020 = .ok (.iadd, 1) := by decide +kernel
theorem dL_law_1021 : decode cL_law 1021 = .ok (.iaload, 1) := by decide +kernel
theorem dL_law_1022 : decode cL_law 1022 = .ok (.invokevirtual 120, 3) := by decide +kernel
theorem dL_law_1025 : decode cL_law 1025 = .ok (.if_icmp .eq 481, 3) := by decide +kernel
theorem dL_law_1028 : decode cL_law 1028 = .ok (.iconst 0, 1) := by decide +kernel
theorem dL_law_1029 : decode cL_law 1029 = .ok (.ireturn, 1) := by decide +kernel
theorem dL_law_1030 : decode cL_law 1030 = .ok (.aload_n 1, 1) := by decide +kernel
theorem dL_law_1031 : decode cL_law 1031 = .ok (.aload_n 0, 1) := by decide +kernel
theorem dL_law_1032 : decode cL_law 1032 = .ok (.iload_n 3, 1) := by decide +kernel
theorem dL_law_1033 : decode cL_law 1033 = .ok (.iconst 1, 1) := by decide +kernel
theorem dL_law_1034 : decode cL_law 1034 = .ok (.iadd, 1) := by decide +kernel
theorem dL_law_1035 : decode cL_law 1035 = .ok (.iaload, 1) := by decide +kernel
theorem dL_law_1036 : decode cL_law 1036 = .ok (.aload_n 0, 1) := by decide +kernel
theorem dL_law_1037 : decode cL_law 1037 = .ok (.iload_n 3, 1) := by decide +kernel
theorem dL_law_1038 : decode cL_law 1038 = .ok (.iconst 2, 1) := by decide +kernel
theorem dL_law_1039 : decode cL_law 1039 = .ok (.iadd, 1) := by decide +kernel
theorem dL_law_1040 : decode cL_law 1040 = .ok (.iaload, 1) := by decide +kernel
theorem dL_law_1041 : decode cL_law 1041 = .ok (.invokevirtual 121, 3) := by decide +kernel
theorem dL_law_1044 : decode cL_law 1044 = .ok (.aload_n 2, 1) := by decide +kernel
theorem dL_law_1045 : decode cL_law 1045 = .ok (.aload_n 0, 1) := by decide +kernel
theorem dL_law_1046 : decode cL_law 1046 = .ok (.iload_n 3, 1) := by decide +kernel
theorem dL_law_1047 : decode cL_law 1047 = .ok (.iconst 1, 1) := by decide +kernel
theorem dL_law_1048 : decode cL_law 1048 = .ok (.iadd, 1) := by decide +kernel
theorem dL_law_1049 : decode cL_law 1049 = .ok (.iaload, 1) := by decide +kernel
theorem dL_law_1050 : decode cL_law 1050 = .ok (.aload_n 0, 1) := by decide +kernel
theorem dL_law_1051 : decode cL_law 1051 = .ok (.iload_n 3, 1) := by decide +kernel
theorem dL_law_1052 : decode cL_law 1052 = .ok (.iconst 2, 1) := by decide +kernel
theorem dL_law_1053 : decode cL_law 1053 = .ok (.iadd, 1) := by decide +kernel
theorem dL_law_1054 : decode cL_law 1054 = .ok (.iaload, 1) := by decide +kernel
theorem dL_law_1055 : decode cL_law 1055 = .ok (.invokevirtual 124, 3) := by decide +kernel
theorem dL_law_1058 : decode cL_law 1058 = .ok (.if_icmp .eq 448, 3) := by decide +kernel
theorem dL_law_1061 : decode cL_law 1061 = .ok (.iconst 0, 1) := by decide +kernel
theorem dL_law_1062 : decode cL_law 1062 = .ok (.ireturn, 1) := by decide +kernel
theorem dL_law_1063 : decode cL_law 1063 = .ok (.aload_n 1, 1) := by decide +kernel
theorem dL_law_1064 : decode cL_law 1064 = .ok (.invokevirtual 125, 3) := by decide +kernel
theorem dL_law_1067 : decode cL_law 1067 = .ok (.aload_n 2, 1) := by decide +kernel
theorem dL_law_1068 : decode cL_law 1068 = .ok (.invokevirtual 128, 3) := by decide +kernel
theorem dL_law_1071 : decode cL_law 1071 = .ok (.if_icmp .eq 435, 3) := by decide +kernel
theorem dL_law_1074 : decode cL_law 1074 = .ok (.iconst 0, 1) := by decide +kernel
theorem dL_law_1075 : decode cL_law 1075 = .ok (.ireturn, 1) := by decide +kernel
theorem dL_law_1076 : decode cL_law 1076 = .ok (.aload_n 1, 1) := by decide +kernel
theorem dL_law_1077 : decode cL_law 1077 = .ok (.invokevirtual 129, 3) := by decide +kernel
theorem dL_law_1080 : decode cL_law 1080 = .ok (.aload_n 2, 1) := by decide +kernel
theorem dL_law_1081 : decode cL_law 1081 = .ok (.invokevirtual 132, 3) := by decide +kernel
theorem dL_law_1084 : decode cL_law 1084 = .ok (.if_icmp .eq 422, 3) := by decide +kernel
theorem dL_law_1087 : decode cL_law 1087 = .ok (.iconst 0, 1) := by decide +kernel
theorem dL_law_1088 : decode cL_law 1088 = .ok (.ireturn, 1) := by decide +kernel
theorem dL_law_1089 : decode cL_law 1089 = .ok (.aload_n 1, 1) := by decide +kernel
theorem dL_law_1090 : decode cL_law 1090 = .ok (.invokevirtual 133, 3) := by decide +kernel
theorem dL_law_1093 : decode cL_law 1093 = .ok (.aload_n 2, 1) := by decide +kernel
theorem dL_law_1094 : decode cL_law 1094 = .ok (.invokevirtual 136, 3) := by decide +kernel
theorem dL_law_1097 : decode cL_law 1097 = .ok (.if_icmp .eq 409, 3) := by decide +kernel
theorem dL_law_1100 : decode cL_law 1100 = .ok (.iconst 0, 1) := by decide +kernel
theorem dL_law_1101 : decode cL_law 1101 = .ok (.ireturn, 1) := by decide +kernel
theorem dL_law_1102 : decode cL_law 1102 = .ok (.aload_n 1, 1) := by decide +kernel
theorem dL_law_1103 : decode cL_law 1103 = .ok (.invokevirtual 137, 3) := by decide +kernel
theorem dL_law_1106 : decode cL_law 1106 = .ok (.aload_n 2, 1) := by decide +kernel
theorem dL_law_1107 : decode cL_law 1107 = .ok (.invokevirtual 140, 3) := by decide +kernel
theorem dL_law_1110 : decode cL_law 1110 = .ok (.if_icmp .eq 396, 3) := by decide +kernel
theorem dL_law_1113 : decode cL_law 1113 = .ok (.iconst 0, 1) := by decide +kernel
theorem dL_law_1114 : decode cL_law 1114 = .ok (.ireturn, 1) := by decide +kernel
theorem dL_law_1115 : decode cL_law 1115 = .ok (.aload_n 1, 1) := by decide +kernel
theorem dL_law_1116 : decode cL_law 1116 = .ok (.aload_n 0, 1) := by decide +kernel
theorem dL_law_1117 : decode cL_law 1117 = .ok (.iload_n 3, 1) := by decide +kernel
theorem dL_law_1118 : decode cL_law 1118 = .ok (.iconst 1, 1) := by decide +kernel
theorem dL_law_1119 : decode cL_law 1119 = .ok (.iadd, 1) := by decide +kernel
theorem dL_law_1120 : decode cL_law 1120 = .ok (.iaload, 1) := by decide +kernel
theorem dL_law_1121 : decode cL_law 1121 = .ok (.invokevirtual 141, 3) := by decide +kernel
theorem dL_law_1124 : decode cL_law 1124 = .ok (.aload_n 2, 1) := by decide +kernel
theorem dL_law_1125 : decode cL_law 1125 = .ok (.aload_n 0, 1) := by decide +kernel
theorem dL_law_1126 : decode cL_law 1126 = .ok (.iload_n 3, 1) := by decide +kernel
theorem dL_law_1127 : decode cL_law 1127 = .ok (.iconst 1, 1) := by decide +kernel
theorem dL_law_1128 : decode cL_law 1128 = .ok (.iadd, 1) := by decide +kernel
theorem dL_law_1129 : decode cL_law 1129 = .ok (.iaload, 1) := by decide +kernel
theorem dL_law_1130 : decode cL_law 1130 = .ok (.invokevirtual 144, 3) := by decide +kernel
theorem dL_law_1133 : decode cL_law 1133 = .ok (.if_icmp .eq 373, 3) := by decide +kernel
theorem dL_law_1136 : decode cL_law 1136 = .ok (.iconst 0, 1) := by decide +kernel
theorem dL_law_1137 : decode cL_law 1137 = .ok (.ireturn, 1) := by decide +kernel
theorem dL_law_1138 : decode cL_law 1138 = .ok (.aload_n 1, 1) := by decide +kernel
theorem dL_law_1139 : decode cL_law 1139 = .ok (.aload_n 0, 1) := by decide +kernel
theorem dL_law_1140 : decode cL_law 1140 = .ok (.iload_n 3, 1) := by decide +kernel
theorem dL_law_1141 : decode cL_law 1141 = .ok (.iconst 1, 1) := by decide +kernel
theorem dL_law_1142 : decode cL_law 1142 = .ok (.iadd, 1) := by decide +kernel
theorem dL_law_1143 : decode cL_law 1143 = .ok (.iaload, 1) := by decide +kernel
theorem dL_law_1144 : decode cL_law 1144 = .ok (.aload_n 0, 1) := by decide +kernel
theorem dL_law_1145 : decode cL_law 1145 = .ok (.iload_n 3, 1) := by decide +kernel
theorem dL_law_1146 : decode cL_law 1146 = .ok (.iconst 2, 1) := by decide +kernel
theorem dL_law_1147 : decode cL_law 1147 = .ok (.iadd, 1) := by decide +kernel
theorem dL_law_1148 : decode cL_law 1148 = .ok (.iaload, 1) := by decide +kernel
theorem dL_law_1149 : decode cL_law 1149 = .ok (.aload_n 0, 1) := by decide +kernel
theorem dL_law_1150 : decode cL_law 1150 = .ok (.iload_n 3, 1) := by decide +kernel
theorem dL_law_1151 : decode cL_law 1151 = .ok (.iconst 3, 1) := by decide +kernel
theorem dL_law_1152 : decode cL_law 1152 = .ok (.iadd, 1) := by decide +kernel
theorem dL_law_1153 : decode cL_law 1153 = .ok (.iaload, 1) := by decide +kernel
theorem dL_law_1154 : decode cL_law 1154 = .ok (.invokevirtual 145, 3) := by decide +kernel
theorem dL_law_1157 : decode cL_law 1157 = .ok (.aload_n 2, 1) := by decide +kernel
theorem dL_law_1158 : decode cL_law 1158 = .ok (.aload_n 0, 1) := by decide +kernel
theorem dL_law_1159 : decode cL_law 1159 = .ok (.iload_n 3, 1) := by decide +kernel
theorem dL_law_1160 : decode cL_law 1160 = .ok (.iconst 1, 1) := by decide +kernel
theorem dL_law_1161 : decode cL_law 1161 = .ok (.iadd, 1) := by decide +kernel
theorem dL_law_1162 : decode cL_law 1162 = .ok (.iaload, 1) := by decide +kernel
theorem dL_law_1163 : decode cL_law 1163 = .ok (.aload_n 0, 1) := by decide +kernel
theorem dL_law_1164 : decode cL_law 1164 = .ok (.iload_n 3, 1) := by decide +kernel
theorem dL_law_1165 : decode cL_law 1165 = .ok (.iconst 2, 1) := by decide +kernel
theorem dL_law_1166 : decode cL_law 1166 = .ok (.iadd, 1) := by decide +kernel
theorem dL_law_1167 : decode cL_law 1167 = .ok (.iaload, 1) := by decide +kernel
theorem dL_law_1168 : decode cL_law 1168 = .ok (.aload_n 0, 1) := by decide +kernel
theorem dL_law_1169 : decode cL_law 1169 = .ok (.iload_n 3, 1) := by decide +kernel
theorem dL_law_1170 : decode cL_law 1170 = .ok (.iconst 3, 1) := by decide +kernel
theorem dL_law_1171 : decode cL_law 1171 = .ok (.iadd, 1) := by decide +kernel
theorem dL_law_1172 : decode cL_law 1172 = .ok (.iaload, 1) := by decide +kernel
theorem dL_law_1173 : decode cL_law 1173 = .ok (.invokevirtual 148, 3) := by decide +kernel
theorem dL_law_1176 : decode cL_law 1176 = .ok (.if_icmp .eq 330, 3) := by decide +kernel
theorem dL_law_1179 : decode cL_law 1179 = .ok (.iconst 0, 1) := by decide +kernel
theorem dL_law_1180 : decode cL_law 1180 = .ok (.ireturn, 1) := by decide +kernel
theorem dL_law_1181 : decode cL_law 1181 = .ok (.aload_n 1, 1) := by decide +kernel
theorem dL_law_1182 : decode cL_law 1182 = .ok (.aload_n 0, 1) := by decide +kernel
theorem dL_law_1183 : decode cL_law 1183 = .ok (.iload_n 3, 1) := by decide +kernel
theorem dL_law_1184 : decode cL_law 1184 = .ok (.iconst 1, 1) := by decide +kernel
theorem dL_law_1185 : decode cL_law 1185 = .ok (.iadd, 1) := by decide +kernel
theorem dL_law_1186 : decode cL_law 1186 = .ok (.iaload, 1) := by decide +kernel
theorem dL_law_1187 : decode cL_law 1187 = .ok (.invokevirtual 149, 3) := by decide +kernel
theorem dL_law_1190 : decode cL_law 1190 = .ok (.aload_n 2, 1) := by decide +kernel
theorem dL_law_1191 : decode cL_law 1191 = .ok (.aload_n 0, 1) := by decide +kernel
theorem dL_law_1192 : decode cL_law 1192 = .ok (.iload_n 3, 1) := by decide +kernel
theorem dL_law_1193 : decode cL_law 1193 = .ok (.iconst 1, 1) := by decide +kernel
theorem dL_law_1194 : decode cL_law 1194 = .ok (.iadd, 1) := by decide +kernel
theorem dL_law_1195 : decode cL_law 1195 = .ok (.iaload, 1) := by decide +kernel
theorem dL_law_1196 : decode cL_law 1196 = .ok (.invokevirtual 152, 3) := by decide +kernel
theorem dL_law_1199 : decode cL_law 1199 = .ok (.if_icmp .eq 307, 3) := by decide +kernel
theorem dL_law_1202 : decode cL_law 1202 = .ok (.iconst 0, 1) := by decide +kernel
theorem dL_law_1203 : decode cL_law 1203 = .ok (.ireturn, 1) := by decide +kernel
theorem dL_law_1204 : decode cL_law 1204 = .ok (.aload_n 1, 1) := by decide +kernel
theorem dL_law_1205 : decode cL_law 1205 = .ok (.aload_n 0, 1) := by decide +kernel
theorem dL_law_1206 : decode cL_law 1206 = .ok (.iload_n 3, 1) := by decide +kernel
theorem dL_law_1207 : decode cL_law 1207 = .ok (.iconst 1, 1) := by decide +kernel
theorem dL_law_1208 : decode cL_law 1208 = .ok (.iadd, 1) := by decide +kernel
theorem dL_law_1209 : decode cL_law 1209 = .ok (.iaload, 1) := by decide +kernel
theorem dL_law_1210 : decode cL_law 1210 = .ok (.aload_n 0, 1) := by decide +kernel
theorem dL_law_1211 : decode cL_law 1211 = .ok (.iload_n 3, 1) := by decide +kernel
theorem dL_law_1212 : decode cL_law 1212 = .ok (.iconst 2, 1) := by decide +kernel
theorem dL_law_1213 : decode cL_law 1213 = .ok (.iadd, 1) := by decide +kernel
theorem dL_law_1214 : decode cL_law 1214 = .ok (.iaload, 1) := by decide +kernel
theorem dL_law_1215 : decode cL_law 1215 = .ok (.invokevirtual 153, 3) := by decide +kernel
theorem dL_law_1218 : decode cL_law 1218 = .ok (.aload_n 2, 1) := by decide +kernel
theorem dL_law_1219 : decode cL_law 1219 = .ok (.aload_n 0, 1) := by decide +kernel
theorem dL_law_1220 : decode cL_law 1220 = .ok (.iload_n 3, 1) := by decide +kernel
theorem dL_law_1221 : decode cL_law 1221 = .ok (.iconst 1, 1) := by decide +kernel
theorem dL_law_1222 : decode cL_law 1222 = .ok (.iadd, 1) := by decide +kernel
theorem dL_law_1223 : decode cL_law 1223 = .ok (.iaload, 1) := by decide +kernel
theorem dL_law_1224 : decode cL_law 1224 = .ok (.aload_n 0, 1) := by decide +kernel
theorem dL_law_1225 : decode cL_law 1225 = .ok (.iload_n 3, 1) := by decide +kernel
theorem dL_law_1226 : decode cL_law 1226 = .ok (.iconst 2, 1) := by decide +kernel
theorem dL_law_1227 : decode cL_law 1227 = .ok (.iadd, 1) := by decide +kernel
theorem dL_law_1228 : decode cL_law 1228 = .ok (.iaload, 1) := by decide +kernel
theorem dL_law_1229 : decode cL_law 1229 = .ok (.invokevirtual 156, 3) := by decide +kernel
theorem dL_law_1232 : decode cL_law 1232 = .ok (.if_icmp .eq 274, 3) := by decide +kernel
theorem dL_law_1235 : decode cL_law 1235 = .ok (.iconst 0, 1) := by decide +kernel
theorem dL_law_1236 : decode cL_law 1236 = .ok (.ireturn, 1) := by decide +kernel
theorem dL_law_1237 : decode cL_law 1237 = .ok (.aload_n 1, 1) := by decide +kernel
theorem dL_law_1238 : decode cL_law 1238 = .ok (.aload_n 0, 1) := by decide +kernel
theorem dL_law_1239 : decode cL_law 1239 = .ok (.iload_n 3, 1) := by decide +kernel
theorem dL_law_1240 : decode cL_law 1240 = .ok (.iconst 1, 1) := by decide +kernel
theorem dL_law_1241 : decode cL_law 1241 = .ok (.iadd, 1) := by decide +kernel
theorem dL_law_1242 : decode cL_law 1242 = .ok (.iaload, 1) := by decide +kernel
theorem dL_law_1243 : decode cL_law 1243 = .ok (.aload_n 0, 1) := by decide +kernel
theorem dL_law_1244 : decode cL_law 1244 = .ok (.iload_n 3, 1) := by decide +kernel
theorem dL_law_1245 : decode cL_law 1245 = .ok (.iconst 2, 1) := by decide +kernel
theorem dL_law_1246 : decode cL_law 1246 = .ok (.iadd, 1) := by decide +kernel
theorem dL_law_1247 : decode cL_law 1247 = .ok (.iaload, 1) := by decide +kernel
theorem dL_law_1248 : decode cL_law 1248 = .ok (.aload_n 0, 1) := by decide +kernel
theorem dL_law_1249 : decode cL_law 1249 = .ok (.iload_n 3, 1) := by decide +kernel
theorem dL_law_1250 : decode cL_law 1250 = .ok (.iconst 3, 1) := by decide +kernel
theorem dL_law_1251 : decode cL_law 1251 = .ok (.iadd, 1) := by decide +kernel
theorem dL_law_1252 : decode cL_law 1252 = .ok (.iaload, 1) := by decide +kernel
theorem dL_law_1253 : decode cL_law 1253 = .ok (.invokevirtual 157, 3) := by decide +kernel
theorem dL_law_1256 : decode cL_law 1256 = .ok (.aload_n 2, 1) := by decide +kernel
theorem dL_law_1257 : decode cL_law 1257 = .ok (.aload_n 0, 1) := by decide +kernel
theorem dL_law_1258 : decode cL_law 1258 = .ok (.iload_n 3, 1) := by decide +kernel
theorem dL_law_1259 : decode cL_law 1259 = .ok (.iconst 1, 1) := by decide +kernel
theorem dL_law_1260 : decode cL_law 1260 = .ok (.iadd, 1) := by decide +kernel
theorem dL_law_1261 : decode cL_law 1261 = .ok (.iaload, 1) := by decide +kernel
theorem dL_law_1262 : decode cL_law 1262 = .ok (.aload_n 0, 1) := by decide +kernel
theorem dL_law_1263 : decode cL_law 1263 = .ok (.iload_n 3, 1) := by decide +kernel
theorem dL_law_1264 : decode cL_law 1264 = .ok (.iconst 2, 1) := by decide +kernel
theorem dL_law_1265 : decode cL_law 1265 = .ok (.iadd, 1) := by decide +kernel
theorem dL_law_1266 : decode cL_law 1266 = .ok (.iaload, 1) := by decide +kernel
theorem dL_law_1267 : decode cL_law 1267 = .ok (.aload_n 0, 1) := by decide +kernel
theorem dL_law_1268 : decode cL_law 1268 = .ok (.iload_n 3, 1) := by decide +kernel
theorem dL_law_1269 : decode cL_law 1269 = .ok (.iconst 3, 1) := by decide +kernel
theorem dL_law_1270 : decode cL_law 1270 = .ok (.iadd, 1) := by decide +kernel
theorem dL_law_1271 : decode cL_law 1271 = .ok (.iaload, 1) := by decide +kernel
theorem dL_law_1272 : decode cL_law 1272 = .ok (.invokevirtual 160, 3) := by decide +kernel
theorem dL_law_1275 : decode cL_law 1275 = .ok (.if_icmp .eq 231, 3) := by decide +kernel
theorem dL_law_1278 : decode cL_law 1278 = .ok (.iconst 0, 1) := by decide +kernel
theorem dL_law_1279 : decode cL_law 1279 = .ok (.ireturn, 1) := by decide +kernel
theorem dL_law_1280 : decode cL_law 1280 = .ok (.aload_n 1, 1) := by decide +kernel
theorem dL_law_1281 : decode cL_law 1281 = .ok (.aload_n 0, 1) := by decide +kernel
theorem dL_law_1282 : decode cL_law 1282 = .ok (.iload_n 3, 1) := by decide +kernel
theorem dL_law_1283 : decode cL_law 1283 = .ok (.iconst 1, 1) := by decide +kernel
theorem dL_law_1284 : decode cL_law 1284 = .ok (.iadd, 1) := by decide +kernel
theorem dL_law_1285 : decode cL_law 1285 = .ok (.iaload, 1) := by decide +kernel
theorem dL_law_1286 : decode cL_law 1286 = .ok (.aload_n 0, 1) := by decide +kernel
theorem dL_law_1287 : decode cL_law 1287 = .ok (.iload_n 3, 1) := by decide +kernel
theorem dL_law_1288 : decode cL_law 1288 = .ok (.iconst 2, 1) := by decide +kernel
theorem dL_law_1289 : decode cL_law 1289 = .ok (.iadd, 1) := by decide +kernel
theorem dL_law_1290 : decode cL_law 1290 = .ok (.iaload, 1) := by decide +kernel
theorem dL_law_1291 : decode cL_law 1291 = .ok (.aload_n 0, 1) := by decide +kernel
theorem dL_law_1292 : decode cL_law 1292 = .ok (.iload_n 3, 1) := by decide +kernel
theorem dL_law_1293 : decode cL_law 1293 = .ok (.iconst 3, 1) := by decide +kernel
theorem dL_law_1294 : decode cL_law 1294 = .ok (.iadd, 1) := by decide +kernel
theorem dL_law_1295 : decode cL_law 1295 = .ok (.iaload, 1) := by decide +kernel
theorem dL_law_1296 : decode cL_law 1296 = .ok (.i2l, 1) := by decide +kernel
theorem dL_law_1297 : decode cL_law 1297 = .ok (.bipush 32, 2) := by decide +kernel
theorem dL_law_1299 : decode cL_law 1299 = .ok (.lshl, 1) := by decide +kernel
theorem dL_law_1300 : decode cL_law 1300 = .ok (.aload_n 0, 1) := by decide +kernel
theorem dL_law_1301 : decode cL_law 1301 = .ok (.iload_n 3, 1) := by decide +kernel
theorem dL_law_1302 : decode cL_law 1302 = .ok (.iconst 4, 1) := by decide +kernel
theorem dL_law_1303 : decode cL_law 1303 = .ok (.iadd, 1) := by decide +kernel
theorem dL_law_1304 : decode cL_law 1304 = .ok (.iaload, 1) := by decide +kernel
theorem dL_law_1305 : decode cL_law 1305 = .ok (.i2l, 1) := by decide +kernel
theorem dL_law_1306 : decode cL_law 1306 = .ok (.ldc2_w 161, 3) := by decide +kernel
theorem dL_law_1309 : decode cL_law 1309 = .ok (.land, 1) := by decide +kernel
theorem dL_law_1310 : decode cL_law 1310 = .ok (.lor, 1) := by decide +kernel
theorem dL_law_1311 : decode cL_law 1311 = .ok (.invokevirtual 163, 3) := by decide +kernel
theorem dL_law_1314 : decode cL_law 1314 = .ok (.aload_n 2, 1) := by decide +kernel
theorem dL_law_1315 : decode cL_law 1315 = .ok (.aload_n 0, 1) := by decide +kernel
theorem dL_law_1316 : decode cL_law 1316 = .ok (.iload_n 3, 1) := by decide +kernel
theorem dL_law_1317 : decode cL_law 1317 = .ok (.iconst 1, 1) := by decide +kernel
theorem dL_law_1318 : decode cL_law 1318 = .ok (.iadd, 1) := by decide +kernel
theorem dL_law_1319 : decode cL_law 1319 = .ok (.iaload, 1) := by decide +kernel
theorem dL_law_1320 : decode cL_law 1320 = .ok (.aload_n 0, 1) := by decide +kernel
theorem dL_law_1321 : decode cL_law 1321 = .ok (.iload_n 3, 1) := by decide +kernel
theorem dL_law_1322 : decode cL_law 1322 = .ok (.iconst 2, 1) := by decide +kernel
theorem dL_law_1323 : decode cL_law 1323 = .ok (.iadd, 1) := by decide +kernel
theorem dL_law_1324 : decode cL_law 1324 = .ok (.iaload, 1) := by decide +kernel
theorem dL_law_1325 : decode cL_law 1325 = .ok (.aload_n 0, 1) := by decide +kernel
theorem dL_law_1326 : decode cL_law 1326 = .ok (.iload_n 3, 1) := by decide +kernel
theorem dL_law_1327 : decode cL_law 1327 = .ok (.iconst 3, 1) := by decide +kernel
theorem dL_law_1328 : decode cL_law 1328 = .ok (.iadd, 1) := by decide +kernel
theorem dL_law_1329 : decode cL_law 1329 = .ok (.iaload, 1) := by decide +kernel
theorem dL_law_1330 : decode cL_law 1330 = .ok (.i2l, 1) := by decide +kernel
theorem dL_law_1331 : decode cL_law 1331 = .ok (.bipush 32, 2) := by decide +kernel
theorem dL_law_1333 : decode cL_law 1333 = .ok (.lshl, 1) := by decide +kernel
theorem dL_law_1334 : decode cL_law 1334 = .ok (.aload_n 0, 1) := by decide +kernel
theorem dL_law_1335 : decode cL_law 1335 = .ok (.iload_n 3, 1) := by decide +kernel
theorem dL_law_1336 : decode cL_law 1336 = .ok (.iconst 4, 1) := by decide +kernel
theorem dL_law_1337 : decode cL_law 1337 = .ok (.iadd, 1) := by decide +kernel
theorem dL_law_1338 : decode cL_law 1338 = .ok (.iaload, 1) := by decide +kernel
theorem dL_law_1339 : decode cL_law 1339 = .ok (.i2l, 1) := by decide +kernel
theorem dL_law_1340 : decode cL_law 1340 = .ok (.ldc2_w 161, 3) := by decide +kernel
theorem dL_law_1343 : decode cL_law 1343 = .ok (.land, 1) := by decide +kernel
theorem dL_law_1344 : decode cL_law 1344 = .ok (.lor, 1) := by decide +kernel
theorem dL_law_1345 : decode cL_law 1345 = .ok (.invokevirtual 167, 3) := by decide +kernel
theorem dL_law_1348 : decode cL_law 1348 = .ok (.if_icmp .eq 158, 3) := by decide +kernel
theorem dL_law_1351 : decode cL_law 1351 = .ok (.iconst 0, 1) := by decide +kernel
theorem dL_law_1352 : decode cL_law 1352 = .ok (.ireturn, 1) := by decide +kernel
theorem dL_law_1353 : decode cL_law 1353 = .ok (.aload_n 1, 1) := by decide +kernel
theorem dL_law_1354 : decode cL_law 1354 = .ok (.aload_n 0, 1) := by decide +kernel
theorem dL_law_1355 : decode cL_law 1355 = .ok (.iload_n 3, 1) := by decide +kernel
theorem dL_law_1356 : decode cL_law 1356 = .ok (.iconst 1, 1) := by decide +kernel
theorem dL_law_1357 : decode cL_law 1357 = .ok (.iadd, 1) := by decide +kernel
theorem dL_law_1358 : decode cL_law 1358 = .ok (.iaload, 1) := by decide +kernel
theorem dL_law_1359 : decode cL_law 1359 = .ok (.aload_n 0, 1) := by decide +kernel
theorem dL_law_1360 : decode cL_law 1360 = .ok (.iload_n 3, 1) := by decide +kernel
theorem dL_law_1361 : decode cL_law 1361 = .ok (.iconst 2, 1) := by decide +kernel
theorem dL_law_1362 : decode cL_law 1362 = .ok (.iadd, 1) := by decide +kernel
theorem dL_law_1363 : decode cL_law 1363 = .ok (.iaload, 1) := by decide +kernel
theorem dL_law_1364 : decode cL_law 1364 = .ok (.invokevirtual 168, 3) := by decide +kernel
theorem dL_law_1367 : decode cL_law 1367 = .ok (.aload_n 2, 1) := by decide +kernel
theorem dL_law_1368 : decode cL_law 1368 = .ok (.aload_n 0, 1) := by decide +kernel
theorem dL_law_1369 : decode cL_law 1369 = .ok (.iload_n 3, 1) := by decide +kernel
theorem dL_law_1370 : decode cL_law 1370 = .ok (.iconst 1, 1) := by decide +kernel
theorem dL_law_1371 : decode cL_law 1371 = .ok (.iadd, 1) := by decide +kernel
theorem dL_law_1372 : decode cL_law 1372 = .ok (.iaload, 1) := by decide +kernel
theorem dL_law_1373 : decode cL_law 1373 = .ok (.aload_n 0, 1) := by decide +kernel
theorem dL_law_1374 : decode cL_law 1374 = .ok (.iload_n 3, 1) := by decide +kernel
theorem dL_law_1375 : decode cL_law 1375 = .ok (.iconst 2, 1) := by decide +kernel
theorem dL_law_1376 : decode cL_law 1376 = .ok (.iadd, 1) := by decide +kernel
theorem dL_law_1377 : decode cL_law 1377 = .ok (.iaload, 1) := by decide +kernel
theorem dL_law_1378 : decode cL_law 1378 = .ok (.invokevirtual 172, 3) := by decide +kernel
theorem dL_law_1381 : decode cL_law 1381 = .ok (.lcmp, 1) := by decide +kernel
theorem dL_law_1382 : decode cL_law 1382 = .ok (.ifCond .eq 124, 3) := by decide +kernel
theorem dL_law_1385 : decode cL_law 1385 = .ok (.iconst 0, 1) := by decide +kernel
theorem dL_law_1386 : decode cL_law 1386 = .ok (.ireturn, 1) := by decide +kernel
theorem dL_law_1387 : decode cL_law 1387 = .ok (.aload_n 1, 1) := by decide +kernel
theorem dL_law_1388 : decode cL_law 1388 = .ok (.aload_n 0, 1) := by decide +kernel
theorem dL_law_1389 : decode cL_law 1389 = .ok (.iload_n 3, 1) := by decide +kernel
theorem dL_law_1390 : decode cL_law 1390 = .ok (.iconst 1, 1) := by decide +kernel
theorem dL_law_1391 : decode cL_law 1391 = .ok (.iadd, 1) := by decide +kernel
theorem dL_law_1392 : decode cL_law 1392 = .ok (.iaload, 1) := by decide +kernel
theorem dL_law_1393 : decode cL_law 1393 = .ok (.aload_n 0, 1) := by decide +kernel
theorem dL_law_1394 : decode cL_law 1394 = .ok (.iload_n 3, 1) := by decide +kernel
theorem dL_law_1395 : decode cL_law 1395 = .ok (.iconst 2, 1) := by decide +kernel
theorem dL_law_1396 : decode cL_law 1396 = .ok (.iadd, 1) := by decide +kernel
theorem dL_law_1397 : decode cL_law 1397 = .ok (.iaload, 1) := by decide +kernel
theorem dL_law_1398 : decode cL_law 1398 = .ok (.aload_n 0, 1) := by decide +kernel
theorem dL_law_1399 : decode cL_law 1399 = .ok (.iload_n 3, 1) := by decide +kernel
theorem dL_law_1400 : decode cL_law 1400 = .ok (.iconst 3, 1) := by decide +kernel
theorem dL_law_1401 : decode cL_law 1401 = .ok (.iadd, 1) := by decide +kernel
theorem dL_law_1402 : decode cL_law 1402 = .ok (.iaload, 1) := by decide +kernel
theorem dL_law_1403 : decode cL_law 1403 = .ok (.aload_n 0, 1) := by decide +kernel
theorem dL_law_1404 : decode cL_law 1404 = .ok (.iload_n 3, 1) := by decide +kernel
theorem dL_law_1405 : decode cL_law 1405 = .ok (.iconst 4, 1) := by decide +kernel
theorem dL_law_1406 : decode cL_law 1406 = .ok (.iadd, 1) := by decide +kernel
theorem dL_law_1407 : decode cL_law 1407 = .ok (.iaload, 1) := by decide +kernel
theorem dL_law_1408 : decode cL_law 1408 = .ok (.aload_n 0, 1) := by decide +kernel
theorem dL_law_1409 : decode cL_law 1409 = .ok (.iload_n 3, 1) := by decide +kernel
theorem dL_law_1410 : decode cL_law 1410 = .ok (.iconst 5, 1) := by decide +kernel
theorem dL_law_1411 : decode cL_law 1411 = .ok (.iadd, 1) := by decide +kernel
theorem dL_law_1412 : decode cL_law 1412 = .ok (.iaload, 1) := by decide +kernel
theorem dL_law_1413 : decode cL_law 1413 = .ok (.invokevirtual 173, 3) := by decide +kernel
theorem dL_law_1416 : decode cL_law 1416 = .ok (.aload_n 2, 1) := by decide +kernel
theorem dL_law_1417 : decode cL_law 1417 = .ok (.aload_n 0, 1) := by decide +kernel
theorem dL_law_1418 : decode cL_law 1418 = .ok (.iload_n 3, 1) := by decide +kernel
theorem dL_law_1419 : decode cL_law 1419 = .ok (.iconst 1, 1) := by decide +kernel
theorem dL_law_1420 : decode cL_law 1420 = .ok (.iadd, 1) := by decide +kernel
theorem dL_law_1421 : decode cL_law 1421 = .ok (.iaload, 1) := by decide +kernel
theorem dL_law_1422 : decode cL_law 1422 = .ok (.aload_n 0, 1) := by decide +kernel
theorem dL_law_1423 : decode cL_law 1423 = .ok (.iload_n 3, 1) := by decide +kernel
theorem dL_law_1424 : decode cL_law 1424 = .ok (.iconst 2, 1) := by decide +kernel
theorem dL_law_1425 : decode cL_law 1425 = .ok (.iadd, 1) := by decide +kernel
theorem dL_law_1426 : decode cL_law 1426 = .ok (.iaload, 1) := by decide +kernel
theorem dL_law_1427 : decode cL_law 1427 = .ok (.aload_n 0, 1) := by decide +kernel
theorem dL_law_1428 : decode cL_law 1428 = .ok (.iload_n 3, 1) := by decide +kernel
theorem dL_law_1429 : decode cL_law 1429 = .ok (.iconst 3, 1) := by decide +kernel
theorem dL_law_1430 : decode cL_law 1430 = .ok (.iadd, 1) := by decide +kernel
theorem dL_law_1431 : decode cL_law 1431 = .ok (.iaload, 1) := by decide +kernel
theorem dL_law_1432 : decode cL_law 1432 = .ok (.aload_n 0, 1) := by decide +kernel
theorem dL_law_1433 : decode cL_law 1433 = .ok (.iload_n 3, 1) := by decide +kernel
theorem dL_law_1434 : decode cL_law 1434 = .ok (.iconst 4, 1) := by decide +kernel
theorem dL_law_1435 : decode cL_law 1435 = .ok (.iadd, 1) := by decide +kernel
theorem dL_law_1436 : decode cL_law 1436 = .ok (.iaload, 1) := by decide +kernel
theorem dL_law_1437 : decode cL_law 1437 = .ok (.aload_n 0, 1) := by decide +kernel
theorem dL_law_1438 : decode cL_law 1438 = .ok (.iload_n 3, 1) := by decide +kernel
theorem dL_law_1439 : decode cL_law 1439 = .ok (.iconst 5, 1) := by decide +kernel
theorem dL_law_1440 : decode cL_law 1440 = .ok (.iadd, 1) := by decide +kernel
theorem dL_law_1441 : decode cL_law 1441 = .ok (.iaload, 1) := by decide +kernel
theorem dL_law_1442 : decode cL_law 1442 = .ok (.invokevirtual 177, 3) := by decide +kernel
theorem dL_law_1445 : decode cL_law 1445 = .ok (.if_icmp .eq 61, 3) := by decide +kernel
theorem dL_law_1448 : decode cL_law 1448 = .ok (.iconst 0, 1) := by decide +kernel
theorem dL_law_1449 : decode cL_law 1449 = .ok (.ireturn, 1) := by decide +kernel
theorem dL_law_1450 : decode cL_law 1450 = .ok (.aload_n 1, 1) := by decide +kernel
theorem dL_law_1451 : decode cL_law 1451 = .ok (.aload_n 0, 1) := by decide +kernel
theorem dL_law_1452 : decode cL_law 1452 = .ok (.iload_n 3, 1) := by decide +kernel
theorem dL_law_1453 : decode cL_law 1453 = .ok (.iconst 1, 1) := by decide +kernel
theorem dL_law_1454 : decode cL_law 1454 = .ok (.iadd, 1) := by decide +kernel
theorem dL_law_1455 : decode cL_law 1455 = .ok (.iaload, 1) := by decide +kernel
theorem dL_law_1456 : decode cL_law 1456 = .ok (.aload_n 0, 1) := by decide +kernel
theorem dL_law_1457 : decode cL_law 1457 = .ok (.iload_n 3, 1) := by decide +kernel
theorem dL_law_1458 : decode cL_law 1458 = .ok (.iconst 2, 1) := by decide +kernel
theorem dL_law_1459 : decode cL_law 1459 = .ok (.iadd, 1) := by decide +kernel
theorem dL_law_1460 : decode cL_law 1460 = .ok (.iaload, 1) := by decide +kernel
theorem dL_law_1461 : decode cL_law 1461 = .ok (.invokevirtual 178, 3) := by decide +kernel
theorem dL_law_1464 : decode cL_law 1464 = .ok (.aload_n 2, 1) := by decide +kernel
theorem dL_law_1465 : decode cL_law 1465 = .ok (.aload_n 0, 1) := by decide +kernel
theorem dL_law_1466 : decode cL_law 1466 = .ok (.iload_n 3, 1) := by decide +kernel
theorem dL_law_1467 : decode cL_law 1467 = .ok (.iconst 1, 1) := by decide +kernel
theorem dL_law_1468 : decode cL_law 1468 = .ok (.iadd, 1) := by decide +kernel
theorem dL_law_1469 : decode cL_law 1469 = .ok (.iaload, 1) := by decide +kernel
theorem dL_law_1470 : decode cL_law 1470 = .ok (.aload_n 0, 1) := by decide +kernel
theorem dL_law_1471 : decode cL_law 1471 = .ok (.iload_n 3, 1) := by decide +kernel
theorem dL_law_1472 : decode cL_law 1472 = .ok (.iconst 2, 1) := by decide +kernel
theorem dL_law_1473 : decode cL_law 1473 = .ok (.iadd, 1) := by decide +kernel
theorem dL_law_1474 : decode cL_law 1474 = .ok (.iaload, 1) := by decide +kernel
theorem dL_law_1475 : decode cL_law 1475 = .ok (.invokevirtual 181, 3) := by decide +kernel
theorem dL_law_1478 : decode cL_law 1478 = .ok (.if_icmp .eq 28, 3) := by decide +kernel
theorem dL_law_1481 : decode cL_law 1481 = .ok (.iconst 0, 1) := by decide +kernel
theorem dL_law_1482 : decode cL_law 1482 = .ok (.ireturn, 1) := by decide +kernel
theorem dL_law_1483 : decode cL_law 1483 = .ok (.aload_n 1, 1) := by decide +kernel
theorem dL_law_1484 : decode cL_law 1484 = .ok (.aload_n 0, 1) := by decide +kernel
theorem dL_law_1485 : decode cL_law 1485 = .ok (.iload_n 3, 1) := by decide +kernel
theorem dL_law_1486 : decode cL_law 1486 = .ok (.iconst 1, 1) := by decide +kernel
theorem dL_law_1487 : decode cL_law 1487 = .ok (.iadd, 1) := by decide +kernel
theorem dL_law_1488 : decode cL_law 1488 = .ok (.iaload, 1) := by decide +kernel
theorem dL_law_1489 : decode cL_law 1489 = .ok (.invokevirtual 182, 3) := by decide +kernel
theorem dL_law_1492 : decode cL_law 1492 = .ok (.aload_n 2, 1) := by decide +kernel
theorem dL_law_1493 : decode cL_law 1493 = .ok (.aload_n 0, 1) := by decide +kernel
theorem dL_law_1494 : decode cL_law 1494 = .ok (.iload_n 3, 1) := by decide +kernel
theorem dL_law_1495 : decode cL_law 1495 = .ok (.iconst 1, 1) := by decide +kernel
theorem dL_law_1496 : decode cL_law 1496 = .ok (.iadd, 1) := by decide +kernel
theorem dL_law_1497 : decode cL_law 1497 = .ok (.iaload, 1) := by decide +kernel
theorem dL_law_1498 : decode cL_law 1498 = .ok (.invokevirtual 185, 3) := by decide +kernel
theorem dL_law_1501 : decode cL_law 1501 = .ok (.if_icmp .eq 5, 3) := by decide +kernel
theorem dL_law_1504 : decode cL_law 1504 = .ok (.iconst 0, 1) := by decide +kernel
theorem dL_law_1505 : decode cL_law 1505 = .ok (.ireturn, 1) := by decide +kernel
theorem dL_law_1506 : decode cL_law 1506 = .ok (.iinc 3 6, 3) := by decide +kernel
theorem dL_law_1509 : decode cL_law 1509 = .ok (.goto (-1491), 3) := by decide +kernel
theorem dL_law_1512 : decode cL_law 1512 = .ok (.iconst 1, 1) := by decide +kernel
theorem dL_law_1513 : decode cL_law 1513 = .ok (.ireturn, 1) := by decide +kernel
end
section
theorem end_of_parts : True := trivial
end
