-- ===== PART A: goes FIRST, ahead of the names: the tables' words, and 'selects' of the private methods out of them =====
/-- a private method of a class that the tables say can be made, by its rows of tables_1 -/
def lw_okq (q : MethodName × Nat) : Prop := (q.1.cls ≠ "java/lang/invoke/MethodHandle" ∧ q.1.cls ≠ "java/lang/invoke/VarHandle") ∧ Cond.instantiable q.1.cls q.2 ∈ tables_1 ∧ Cond.privateMethod q.1 ∈ tables_1 ∧ Cond.instanceMethod q.1 ∈ tables_1
theorem lw_p0 : lw_okq (⟨"TwoStraws", "addStraw", "(LTwoStraws$Shelf;I)Z"⟩, 10) := ⟨⟨by decide +kernel, by decide +kernel⟩, List.mem_of_getElem? (i := 15) (by decide +kernel), List.mem_of_getElem? (i := 341) (by decide +kernel), List.mem_of_getElem? (i := 342) (by decide +kernel)⟩
theorem lw_p1 : lw_okq (⟨"TwoStraws$Changes", "forgetOldest", "()V"⟩, 5) := ⟨⟨by decide +kernel, by decide +kernel⟩, List.mem_of_getElem? (i := 205) (by decide +kernel), List.mem_of_getElem? (i := 358) (by decide +kernel), List.mem_of_getElem? (i := 359) (by decide +kernel)⟩
theorem lw_p2 : lw_okq (⟨"TwoStraws$Tape", "readLine", "()Z"⟩, 4) := ⟨⟨by decide +kernel, by decide +kernel⟩, List.mem_of_getElem? (i := 47) (by decide +kernel), List.mem_of_getElem? (i := 387) (by decide +kernel), List.mem_of_getElem? (i := 388) (by decide +kernel)⟩
theorem lw_p3 : lw_okq (⟨"TwoStraws$Tape", "readJoined", "(II)Z"⟩, 4) := ⟨⟨by decide +kernel, by decide +kernel⟩, List.mem_of_getElem? (i := 47) (by decide +kernel), List.mem_of_getElem? (i := 391) (by decide +kernel), List.mem_of_getElem? (i := 392) (by decide +kernel)⟩
theorem lw_p4 : lw_okq (⟨"TwoStraws$Tape", "readOne", "(I)Z"⟩, 4) := ⟨⟨by decide +kernel, by decide +kernel⟩, List.mem_of_getElem? (i := 47) (by decide +kernel), List.mem_of_getElem? (i := 395) (by decide +kernel), List.mem_of_getElem? (i := 396) (by decide +kernel)⟩
theorem lw_p5 : lw_okq (⟨"TwoStraws$Tape", "next", "()I"⟩, 4) := ⟨⟨by decide +kernel, by decide +kernel⟩, List.mem_of_getElem? (i := 47) (by decide +kernel), List.mem_of_getElem? (i := 399) (by decide +kernel), List.mem_of_getElem? (i := 400) (by decide +kernel)⟩
theorem lw_p6 : lw_okq (⟨"TwoStraws$Tape", "readNumber", "()V"⟩, 4) := ⟨⟨by decide +kernel, by decide +kernel⟩, List.mem_of_getElem? (i := 47) (by decide +kernel), List.mem_of_getElem? (i := 406) (by decide +kernel), List.mem_of_getElem? (i := 407) (by decide +kernel)⟩
theorem lw_p7 : lw_okq (⟨"TwoStraws$Tape", "passes", "(I)Z"⟩, 4) := ⟨⟨by decide +kernel, by decide +kernel⟩, List.mem_of_getElem? (i := 47) (by decide +kernel), List.mem_of_getElem? (i := 417) (by decide +kernel), List.mem_of_getElem? (i := 418) (by decide +kernel)⟩
theorem lw_p8 : lw_okq (⟨"TwoStraws", "isStraw", "(I)Z"⟩, 10) := ⟨⟨by decide +kernel, by decide +kernel⟩, List.mem_of_getElem? (i := 15) (by decide +kernel), List.mem_of_getElem? (i := 432) (by decide +kernel), List.mem_of_getElem? (i := 433) (by decide +kernel)⟩
theorem lw_p9 : lw_okq (⟨"TwoStraws$Law", "plain", "(II)I"⟩, 4) := ⟨⟨by decide +kernel, by decide +kernel⟩, List.mem_of_getElem? (i := 95) (by decide +kernel), List.mem_of_getElem? (i := 440) (by decide +kernel), List.mem_of_getElem? (i := 441) (by decide +kernel)⟩
theorem lw_p10 : lw_okq (⟨"TwoStraws$Law", "setNames", "(III)V"⟩, 4) := ⟨⟨by decide +kernel, by decide +kernel⟩, List.mem_of_getElem? (i := 95) (by decide +kernel), List.mem_of_getElem? (i := 457) (by decide +kernel), List.mem_of_getElem? (i := 458) (by decide +kernel)⟩
theorem lw_p11 : lw_okq (⟨"TwoStraws$Law", "workedOut", "(II)I"⟩, 4) := ⟨⟨by decide +kernel, by decide +kernel⟩, List.mem_of_getElem? (i := 95) (by decide +kernel), List.mem_of_getElem? (i := 461) (by decide +kernel), List.mem_of_getElem? (i := 462) (by decide +kernel)⟩
theorem lw_p12 : lw_okq (⟨"TwoStraws$Glass", "tries", "(IZ)I"⟩, 12) := ⟨⟨by decide +kernel, by decide +kernel⟩, List.mem_of_getElem? (i := 117) (by decide +kernel), List.mem_of_getElem? (i := 488) (by decide +kernel), List.mem_of_getElem? (i := 489) (by decide +kernel)⟩
theorem lw_p13 : lw_okq (⟨"TwoStraws$Glass", "share", "(I)V"⟩, 12) := ⟨⟨by decide +kernel, by decide +kernel⟩, List.mem_of_getElem? (i := 117) (by decide +kernel), List.mem_of_getElem? (i := 495) (by decide +kernel), List.mem_of_getElem? (i := 496) (by decide +kernel)⟩
theorem lw_p14 : lw_okq (⟨"TwoStraws$Glass", "melt", "()V"⟩, 12) := ⟨⟨by decide +kernel, by decide +kernel⟩, List.mem_of_getElem? (i := 117) (by decide +kernel), List.mem_of_getElem? (i := 508) (by decide +kernel), List.mem_of_getElem? (i := 509) (by decide +kernel)⟩
theorem lw_p15 : lw_okq (⟨"TwoStraws", "isPair", "(I)Z"⟩, 10) := ⟨⟨by decide +kernel, by decide +kernel⟩, List.mem_of_getElem? (i := 15) (by decide +kernel), List.mem_of_getElem? (i := 557) (by decide +kernel), List.mem_of_getElem? (i := 558) (by decide +kernel)⟩
def lw_privs_1 : List (MethodName × Nat) := [(⟨"TwoStraws", "addStraw", "(LTwoStraws$Shelf;I)Z"⟩, 10), (⟨"TwoStraws$Changes", "forgetOldest", "()V"⟩, 5), (⟨"TwoStraws$Tape", "readLine", "()Z"⟩, 4), (⟨"TwoStraws$Tape", "readJoined", "(II)Z"⟩, 4), (⟨"TwoStraws$Tape", "readOne", "(I)Z"⟩, 4), (⟨"TwoStraws$Tape", "next", "()I"⟩, 4), (⟨"TwoStraws$Tape", "readNumber", "()V"⟩, 4), (⟨"TwoStraws$Tape", "passes", "(I)Z"⟩, 4), (⟨"TwoStraws", "isStraw", "(I)Z"⟩, 10), (⟨"TwoStraws$Law", "plain", "(II)I"⟩, 4), (⟨"TwoStraws$Law", "setNames", "(III)V"⟩, 4), (⟨"TwoStraws$Law", "workedOut", "(II)I"⟩, 4), (⟨"TwoStraws$Glass", "tries", "(IZ)I"⟩, 12), (⟨"TwoStraws$Glass", "share", "(I)V"⟩, 12), (⟨"TwoStraws$Glass", "melt", "()V"⟩, 12), (⟨"TwoStraws", "isPair", "(I)Z"⟩, 10)]
theorem lw_r1 : ∀ q ∈ lw_privs_1, lw_okq q := List.forall_mem_cons.mpr ⟨lw_p0, List.forall_mem_cons.mpr ⟨lw_p1, List.forall_mem_cons.mpr ⟨lw_p2, List.forall_mem_cons.mpr ⟨lw_p3, List.forall_mem_cons.mpr ⟨lw_p4, List.forall_mem_cons.mpr ⟨lw_p5, List.forall_mem_cons.mpr ⟨lw_p6, List.forall_mem_cons.mpr ⟨lw_p7, List.forall_mem_cons.mpr ⟨lw_p8, List.forall_mem_cons.mpr ⟨lw_p9, List.forall_mem_cons.mpr ⟨lw_p10, List.forall_mem_cons.mpr ⟨lw_p11, List.forall_mem_cons.mpr ⟨lw_p12, List.forall_mem_cons.mpr ⟨lw_p13, List.forall_mem_cons.mpr ⟨lw_p14, List.forall_mem_cons.mpr ⟨lw_p15, fun _ h => absurd h List.not_mem_nil⟩⟩⟩⟩⟩⟩⟩⟩⟩⟩⟩⟩⟩⟩⟩⟩
theorem lw_p16 : lw_okq (⟨"TwoStraws$Thoughts", "gotBehind", "(II)I"⟩, 8) := ⟨⟨by decide +kernel, by decide +kernel⟩, List.mem_of_getElem? (i := 171) (by decide +kernel), List.mem_of_getElem? (i := 565) (by decide +kernel), List.mem_of_getElem? (i := 566) (by decide +kernel)⟩
theorem lw_p17 : lw_okq (⟨"TwoStraws$Thoughts", "gotFromGlass", "(II)I"⟩, 8) := ⟨⟨by decide +kernel, by decide +kernel⟩, List.mem_of_getElem? (i := 171) (by decide +kernel), List.mem_of_getElem? (i := 578) (by decide +kernel), List.mem_of_getElem? (i := 579) (by decide +kernel)⟩
theorem lw_p18 : lw_okq (⟨"TwoStraws$Thoughts", "mostAbove", "(IZ)I"⟩, 8) := ⟨⟨by decide +kernel, by decide +kernel⟩, List.mem_of_getElem? (i := 171) (by decide +kernel), List.mem_of_getElem? (i := 594) (by decide +kernel), List.mem_of_getElem? (i := 595) (by decide +kernel)⟩
theorem lw_p19 : lw_okq (⟨"TwoStraws$Thoughts", "drunk", "(I)LTwoStraws$Glass;"⟩, 8) := ⟨⟨by decide +kernel, by decide +kernel⟩, List.mem_of_getElem? (i := 171) (by decide +kernel), List.mem_of_getElem? (i := 599) (by decide +kernel), List.mem_of_getElem? (i := 600) (by decide +kernel)⟩
theorem lw_p20 : lw_okq (⟨"TwoStraws$Thoughts", "setStrengths", "(II)V"⟩, 8) := ⟨⟨by decide +kernel, by decide +kernel⟩, List.mem_of_getElem? (i := 171) (by decide +kernel), List.mem_of_getElem? (i := 622) (by decide +kernel), List.mem_of_getElem? (i := 623) (by decide +kernel)⟩
theorem lw_p21 : lw_okq (⟨"TwoStraws$Thoughts", "isContent", "(IIII)Z"⟩, 8) := ⟨⟨by decide +kernel, by decide +kernel⟩, List.mem_of_getElem? (i := 171) (by decide +kernel), List.mem_of_getElem? (i := 626) (by decide +kernel), List.mem_of_getElem? (i := 627) (by decide +kernel)⟩
theorem lw_p22 : lw_okq (⟨"TwoStraws", "refusedRings", "(I)I"⟩, 10) := ⟨⟨by decide +kernel, by decide +kernel⟩, List.mem_of_getElem? (i := 15) (by decide +kernel), List.mem_of_getElem? (i := 654) (by decide +kernel), List.mem_of_getElem? (i := 655) (by decide +kernel)⟩
theorem lw_p23 : lw_okq (⟨"TwoStraws$Sips", "run", "(IIIII)I"⟩, 4) := ⟨⟨by decide +kernel, by decide +kernel⟩, List.mem_of_getElem? (i := 229) (by decide +kernel), List.mem_of_getElem? (i := 762) (by decide +kernel), List.mem_of_getElem? (i := 763) (by decide +kernel)⟩
theorem lw_p24 : lw_okq (⟨"TwoStraws$Sips", "note", "(I)V"⟩, 4) := ⟨⟨by decide +kernel, by decide +kernel⟩, List.mem_of_getElem? (i := 229) (by decide +kernel), List.mem_of_getElem? (i := 773) (by decide +kernel), List.mem_of_getElem? (i := 774) (by decide +kernel)⟩
theorem lw_p25 : lw_okq (⟨"TwoStraws", "refusedElement", "(II)I"⟩, 10) := ⟨⟨by decide +kernel, by decide +kernel⟩, List.mem_of_getElem? (i := 15) (by decide +kernel), List.mem_of_getElem? (i := 810) (by decide +kernel), List.mem_of_getElem? (i := 811) (by decide +kernel)⟩
theorem lw_p26 : lw_okq (⟨"TwoStrawsModel", "adds", "(III)V"⟩, 53) := ⟨⟨by decide +kernel, by decide +kernel⟩, List.mem_of_getElem? (i := 842) (by decide +kernel), List.mem_of_getElem? (i := 1030) (by decide +kernel), List.mem_of_getElem? (i := 1031) (by decide +kernel)⟩
theorem lw_p27 : lw_okq (⟨"TwoStrawsModel", "placeOf", "(II)I"⟩, 53) := ⟨⟨by decide +kernel, by decide +kernel⟩, List.mem_of_getElem? (i := 842) (by decide +kernel), List.mem_of_getElem? (i := 1046) (by decide +kernel), List.mem_of_getElem? (i := 1047) (by decide +kernel)⟩
theorem lw_p28 : lw_okq (⟨"TwoStrawsModel", "isStraw", "(I)Z"⟩, 53) := ⟨⟨by decide +kernel, by decide +kernel⟩, List.mem_of_getElem? (i := 842) (by decide +kernel), List.mem_of_getElem? (i := 1051) (by decide +kernel), List.mem_of_getElem? (i := 1052) (by decide +kernel)⟩
theorem lw_p29 : lw_okq (⟨"TwoStrawsModel", "becomes", "(II)I"⟩, 53) := ⟨⟨by decide +kernel, by decide +kernel⟩, List.mem_of_getElem? (i := 842) (by decide +kernel), List.mem_of_getElem? (i := 1064) (by decide +kernel), List.mem_of_getElem? (i := 1065) (by decide +kernel)⟩
theorem lw_p30 : lw_okq (⟨"TwoStrawsModel", "workOut", "(II)I"⟩, 53) := ⟨⟨by decide +kernel, by decide +kernel⟩, List.mem_of_getElem? (i := 842) (by decide +kernel), List.mem_of_getElem? (i := 1082) (by decide +kernel), List.mem_of_getElem? (i := 1083) (by decide +kernel)⟩
theorem lw_p31 : lw_okq (⟨"TwoStrawsModel", "either", "()I"⟩, 53) := ⟨⟨by decide +kernel, by decide +kernel⟩, List.mem_of_getElem? (i := 842) (by decide +kernel), List.mem_of_getElem? (i := 1086) (by decide +kernel), List.mem_of_getElem? (i := 1087) (by decide +kernel)⟩
def lw_privs_2 : List (MethodName × Nat) := [(⟨"TwoStraws$Thoughts", "gotBehind", "(II)I"⟩, 8), (⟨"TwoStraws$Thoughts", "gotFromGlass", "(II)I"⟩, 8), (⟨"TwoStraws$Thoughts", "mostAbove", "(IZ)I"⟩, 8), (⟨"TwoStraws$Thoughts", "drunk", "(I)LTwoStraws$Glass;"⟩, 8), (⟨"TwoStraws$Thoughts", "setStrengths", "(II)V"⟩, 8), (⟨"TwoStraws$Thoughts", "isContent", "(IIII)Z"⟩, 8), (⟨"TwoStraws", "refusedRings", "(I)I"⟩, 10), (⟨"TwoStraws$Sips", "run", "(IIIII)I"⟩, 4), (⟨"TwoStraws$Sips", "note", "(I)V"⟩, 4), (⟨"TwoStraws", "refusedElement", "(II)I"⟩, 10), (⟨"TwoStrawsModel", "adds", "(III)V"⟩, 53), (⟨"TwoStrawsModel", "placeOf", "(II)I"⟩, 53), (⟨"TwoStrawsModel", "isStraw", "(I)Z"⟩, 53), (⟨"TwoStrawsModel", "becomes", "(II)I"⟩, 53), (⟨"TwoStrawsModel", "workOut", "(II)I"⟩, 53), (⟨"TwoStrawsModel", "either", "()I"⟩, 53)]
theorem lw_r2 : ∀ q ∈ lw_privs_2, lw_okq q := List.forall_mem_cons.mpr ⟨lw_p16, List.forall_mem_cons.mpr ⟨lw_p17, List.forall_mem_cons.mpr ⟨lw_p18, List.forall_mem_cons.mpr ⟨lw_p19, List.forall_mem_cons.mpr ⟨lw_p20, List.forall_mem_cons.mpr ⟨lw_p21, List.forall_mem_cons.mpr ⟨lw_p22, List.forall_mem_cons.mpr ⟨lw_p23, List.forall_mem_cons.mpr ⟨lw_p24, List.forall_mem_cons.mpr ⟨lw_p25, List.forall_mem_cons.mpr ⟨lw_p26, List.forall_mem_cons.mpr ⟨lw_p27, List.forall_mem_cons.mpr ⟨lw_p28, List.forall_mem_cons.mpr ⟨lw_p29, List.forall_mem_cons.mpr ⟨lw_p30, List.forall_mem_cons.mpr ⟨lw_p31, fun _ h => absurd h List.not_mem_nil⟩⟩⟩⟩⟩⟩⟩⟩⟩⟩⟩⟩⟩⟩⟩⟩
theorem lw_p32 : lw_okq (⟨"TwoStrawsModel", "bothOf", "()I"⟩, 53) := ⟨⟨by decide +kernel, by decide +kernel⟩, List.mem_of_getElem? (i := 842) (by decide +kernel), List.mem_of_getElem? (i := 1090) (by decide +kernel), List.mem_of_getElem? (i := 1091) (by decide +kernel)⟩
theorem lw_p33 : lw_okq (⟨"TwoStrawsModel", "compared", "()I"⟩, 53) := ⟨⟨by decide +kernel, by decide +kernel⟩, List.mem_of_getElem? (i := 842) (by decide +kernel), List.mem_of_getElem? (i := 1094) (by decide +kernel), List.mem_of_getElem? (i := 1095) (by decide +kernel)⟩
theorem lw_p34 : lw_okq (⟨"TwoStrawsModel", "sums", "()I"⟩, 53) := ⟨⟨by decide +kernel, by decide +kernel⟩, List.mem_of_getElem? (i := 842) (by decide +kernel), List.mem_of_getElem? (i := 1098) (by decide +kernel), List.mem_of_getElem? (i := 1099) (by decide +kernel)⟩
theorem lw_p35 : lw_okq (⟨"TwoStrawsModel", "product", "()I"⟩, 53) := ⟨⟨by decide +kernel, by decide +kernel⟩, List.mem_of_getElem? (i := 842) (by decide +kernel), List.mem_of_getElem? (i := 1102) (by decide +kernel), List.mem_of_getElem? (i := 1103) (by decide +kernel)⟩
theorem lw_p36 : lw_okq (⟨"TwoStrawsModel", "one", "()I"⟩, 53) := ⟨⟨by decide +kernel, by decide +kernel⟩, List.mem_of_getElem? (i := 842) (by decide +kernel), List.mem_of_getElem? (i := 1106) (by decide +kernel), List.mem_of_getElem? (i := 1107) (by decide +kernel)⟩
theorem lw_p37 : lw_okq (⟨"TwoStrawsModel", "byteAt", "()I"⟩, 53) := ⟨⟨by decide +kernel, by decide +kernel⟩, List.mem_of_getElem? (i := 842) (by decide +kernel), List.mem_of_getElem? (i := 1110) (by decide +kernel), List.mem_of_getElem? (i := 1111) (by decide +kernel)⟩
theorem lw_p38 : lw_okq (⟨"TwoStrawsModel", "wrong", "()I"⟩, 53) := ⟨⟨by decide +kernel, by decide +kernel⟩, List.mem_of_getElem? (i := 842) (by decide +kernel), List.mem_of_getElem? (i := 1114) (by decide +kernel), List.mem_of_getElem? (i := 1115) (by decide +kernel)⟩
theorem lw_p39 : lw_okq (⟨"TwoStrawsModel", "takes", "(I)Z"⟩, 53) := ⟨⟨by decide +kernel, by decide +kernel⟩, List.mem_of_getElem? (i := 842) (by decide +kernel), List.mem_of_getElem? (i := 1118) (by decide +kernel), List.mem_of_getElem? (i := 1119) (by decide +kernel)⟩
theorem lw_p40 : lw_okq (⟨"TwoStrawsModel", "wantsAt", "(III)I"⟩, 53) := ⟨⟨by decide +kernel, by decide +kernel⟩, List.mem_of_getElem? (i := 842) (by decide +kernel), List.mem_of_getElem? (i := 1129) (by decide +kernel), List.mem_of_getElem? (i := 1130) (by decide +kernel)⟩
theorem lw_p41 : lw_okq (⟨"TwoStrawsModel", "ofStraw", "(II)I"⟩, 53) := ⟨⟨by decide +kernel, by decide +kernel⟩, List.mem_of_getElem? (i := 842) (by decide +kernel), List.mem_of_getElem? (i := 1133) (by decide +kernel), List.mem_of_getElem? (i := 1134) (by decide +kernel)⟩
theorem lw_p42 : lw_okq (⟨"TwoStrawsModel", "begins1", "()V"⟩, 53) := ⟨⟨by decide +kernel, by decide +kernel⟩, List.mem_of_getElem? (i := 842) (by decide +kernel), List.mem_of_getElem? (i := 1142) (by decide +kernel), List.mem_of_getElem? (i := 1143) (by decide +kernel)⟩
theorem lw_p43 : lw_okq (⟨"TwoStrawsModel", "goes", "(I)V"⟩, 53) := ⟨⟨by decide +kernel, by decide +kernel⟩, List.mem_of_getElem? (i := 842) (by decide +kernel), List.mem_of_getElem? (i := 1146) (by decide +kernel), List.mem_of_getElem? (i := 1147) (by decide +kernel)⟩
theorem lw_p44 : lw_okq (⟨"TwoStrawsModel", "secondGoes", "()V"⟩, 53) := ⟨⟨by decide +kernel, by decide +kernel⟩, List.mem_of_getElem? (i := 842) (by decide +kernel), List.mem_of_getElem? (i := 1150) (by decide +kernel), List.mem_of_getElem? (i := 1151) (by decide +kernel)⟩
theorem lw_p45 : lw_okq (⟨"TwoStrawsModel", "wantsNow", "(I)I"⟩, 53) := ⟨⟨by decide +kernel, by decide +kernel⟩, List.mem_of_getElem? (i := 842) (by decide +kernel), List.mem_of_getElem? (i := 1154) (by decide +kernel), List.mem_of_getElem? (i := 1155) (by decide +kernel)⟩
theorem lw_p46 : lw_okq (⟨"TwoStrawsModel", "draws", "(I)Z"⟩, 53) := ⟨⟨by decide +kernel, by decide +kernel⟩, List.mem_of_getElem? (i := 842) (by decide +kernel), List.mem_of_getElem? (i := 1158) (by decide +kernel), List.mem_of_getElem? (i := 1159) (by decide +kernel)⟩
theorem lw_p47 : lw_okq (⟨"TwoStrawsModel", "sweetOf", "(II)I"⟩, 53) := ⟨⟨by decide +kernel, by decide +kernel⟩, List.mem_of_getElem? (i := 842) (by decide +kernel), List.mem_of_getElem? (i := 1165) (by decide +kernel), List.mem_of_getElem? (i := 1166) (by decide +kernel)⟩
def lw_privs_3 : List (MethodName × Nat) := [(⟨"TwoStrawsModel", "bothOf", "()I"⟩, 53), (⟨"TwoStrawsModel", "compared", "()I"⟩, 53), (⟨"TwoStrawsModel", "sums", "()I"⟩, 53), (⟨"TwoStrawsModel", "product", "()I"⟩, 53), (⟨"TwoStrawsModel", "one", "()I"⟩, 53), (⟨"TwoStrawsModel", "byteAt", "()I"⟩, 53), (⟨"TwoStrawsModel", "wrong", "()I"⟩, 53), (⟨"TwoStrawsModel", "takes", "(I)Z"⟩, 53), (⟨"TwoStrawsModel", "wantsAt", "(III)I"⟩, 53), (⟨"TwoStrawsModel", "ofStraw", "(II)I"⟩, 53), (⟨"TwoStrawsModel", "begins1", "()V"⟩, 53), (⟨"TwoStrawsModel", "goes", "(I)V"⟩, 53), (⟨"TwoStrawsModel", "secondGoes", "()V"⟩, 53), (⟨"TwoStrawsModel", "wantsNow", "(I)I"⟩, 53), (⟨"TwoStrawsModel", "draws", "(I)Z"⟩, 53), (⟨"TwoStrawsModel", "sweetOf", "(II)I"⟩, 53)]
theorem lw_r3 : ∀ q ∈ lw_privs_3, lw_okq q := List.forall_mem_cons.mpr ⟨lw_p32, List.forall_mem_cons.mpr ⟨lw_p33, List.forall_mem_cons.mpr ⟨lw_p34, List.forall_mem_cons.mpr ⟨lw_p35, List.forall_mem_cons.mpr ⟨lw_p36, List.forall_mem_cons.mpr ⟨lw_p37, List.forall_mem_cons.mpr ⟨lw_p38, List.forall_mem_cons.mpr ⟨lw_p39, List.forall_mem_cons.mpr ⟨lw_p40, List.forall_mem_cons.mpr ⟨lw_p41, List.forall_mem_cons.mpr ⟨lw_p42, List.forall_mem_cons.mpr ⟨lw_p43, List.forall_mem_cons.mpr ⟨lw_p44, List.forall_mem_cons.mpr ⟨lw_p45, List.forall_mem_cons.mpr ⟨lw_p46, List.forall_mem_cons.mpr ⟨lw_p47, fun _ h => absurd h List.not_mem_nil⟩⟩⟩⟩⟩⟩⟩⟩⟩⟩⟩⟩⟩⟩⟩⟩
theorem lw_p48 : lw_okq (⟨"TwoStrawsModel", "isEmpty", "()Z"⟩, 53) := ⟨⟨by decide +kernel, by decide +kernel⟩, List.mem_of_getElem? (i := 842) (by decide +kernel), List.mem_of_getElem? (i := 1177) (by decide +kernel), List.mem_of_getElem? (i := 1178) (by decide +kernel)⟩
theorem lw_p49 : lw_okq (⟨"TwoStrawsModel", "areTwo", "(I)Z"⟩, 53) := ⟨⟨by decide +kernel, by decide +kernel⟩, List.mem_of_getElem? (i := 842) (by decide +kernel), List.mem_of_getElem? (i := 1193) (by decide +kernel), List.mem_of_getElem? (i := 1194) (by decide +kernel)⟩
theorem lw_p50 : lw_okq (⟨"TwoStrawsModel", "alone", "(II)I"⟩, 53) := ⟨⟨by decide +kernel, by decide +kernel⟩, List.mem_of_getElem? (i := 842) (by decide +kernel), List.mem_of_getElem? (i := 1201) (by decide +kernel), List.mem_of_getElem? (i := 1202) (by decide +kernel)⟩
theorem lw_p51 : lw_okq (⟨"TwoStrawsModel", "gets", "(II)I"⟩, 53) := ⟨⟨by decide +kernel, by decide +kernel⟩, List.mem_of_getElem? (i := 842) (by decide +kernel), List.mem_of_getElem? (i := 1212) (by decide +kernel), List.mem_of_getElem? (i := 1213) (by decide +kernel)⟩
theorem lw_p52 : lw_okq (⟨"TwoStrawsModel", "isSelf", "(IIII)Z"⟩, 53) := ⟨⟨by decide +kernel, by decide +kernel⟩, List.mem_of_getElem? (i := 842) (by decide +kernel), List.mem_of_getElem? (i := 1224) (by decide +kernel), List.mem_of_getElem? (i := 1225) (by decide +kernel)⟩
theorem lw_p53 : lw_okq (⟨"TwoStrawsModel", "othersGet", "(III)I"⟩, 53) := ⟨⟨by decide +kernel, by decide +kernel⟩, List.mem_of_getElem? (i := 842) (by decide +kernel), List.mem_of_getElem? (i := 1232) (by decide +kernel), List.mem_of_getElem? (i := 1233) (by decide +kernel)⟩
theorem lw_p54 : lw_okq (⟨"TwoStrawsModel", "getsStopping", "(II)I"⟩, 53) := ⟨⟨by decide +kernel, by decide +kernel⟩, List.mem_of_getElem? (i := 842) (by decide +kernel), List.mem_of_getElem? (i := 1240) (by decide +kernel), List.mem_of_getElem? (i := 1241) (by decide +kernel)⟩
theorem lw_p55 : lw_okq (⟨"TwoStrawsModel", "shortsAre", "(I)I"⟩, 53) := ⟨⟨by decide +kernel, by decide +kernel⟩, List.mem_of_getElem? (i := 842) (by decide +kernel), List.mem_of_getElem? (i := 1248) (by decide +kernel), List.mem_of_getElem? (i := 1249) (by decide +kernel)⟩
theorem lw_p56 : lw_okq (⟨"TwoStrawsModel", "firstFalse", "(I)I"⟩, 53) := ⟨⟨by decide +kernel, by decide +kernel⟩, List.mem_of_getElem? (i := 842) (by decide +kernel), List.mem_of_getElem? (i := 1252) (by decide +kernel), List.mem_of_getElem? (i := 1253) (by decide +kernel)⟩
theorem lw_p57 : lw_okq (⟨"TwoStrawsModel", "isBody", "(I)Z"⟩, 53) := ⟨⟨by decide +kernel, by decide +kernel⟩, List.mem_of_getElem? (i := 842) (by decide +kernel), List.mem_of_getElem? (i := 1301) (by decide +kernel), List.mem_of_getElem? (i := 1302) (by decide +kernel)⟩
theorem lw_p58 : lw_okq (⟨"TwoStrawsModel", "drawsAs", "(II)I"⟩, 53) := ⟨⟨by decide +kernel, by decide +kernel⟩, List.mem_of_getElem? (i := 842) (by decide +kernel), List.mem_of_getElem? (i := 1305) (by decide +kernel), List.mem_of_getElem? (i := 1306) (by decide +kernel)⟩
theorem lw_p59 : lw_okq (⟨"TwoStrawsModel", "begins", "(I)V"⟩, 53) := ⟨⟨by decide +kernel, by decide +kernel⟩, List.mem_of_getElem? (i := 842) (by decide +kernel), List.mem_of_getElem? (i := 1309) (by decide +kernel), List.mem_of_getElem? (i := 1310) (by decide +kernel)⟩
theorem lw_p60 : lw_okq (⟨"TwoStrawsModel", "getsAs", "(II)I"⟩, 53) := ⟨⟨by decide +kernel, by decide +kernel⟩, List.mem_of_getElem? (i := 842) (by decide +kernel), List.mem_of_getElem? (i := 1313) (by decide +kernel), List.mem_of_getElem? (i := 1314) (by decide +kernel)⟩
theorem lw_p61 : lw_okq (⟨"TwoStrawsModel", "restsAs", "(II)I"⟩, 53) := ⟨⟨by decide +kernel, by decide +kernel⟩, List.mem_of_getElem? (i := 842) (by decide +kernel), List.mem_of_getElem? (i := 1317) (by decide +kernel), List.mem_of_getElem? (i := 1318) (by decide +kernel)⟩
theorem lw_p62 : lw_okq (⟨"TwoStrawsModel", "tellsAs", "(II)I"⟩, 53) := ⟨⟨by decide +kernel, by decide +kernel⟩, List.mem_of_getElem? (i := 842) (by decide +kernel), List.mem_of_getElem? (i := 1321) (by decide +kernel), List.mem_of_getElem? (i := 1322) (by decide +kernel)⟩
theorem lw_p63 : lw_okq (⟨"TwoStrawsModel", "refusal", "(II)I"⟩, 53) := ⟨⟨by decide +kernel, by decide +kernel⟩, List.mem_of_getElem? (i := 842) (by decide +kernel), List.mem_of_getElem? (i := 1342) (by decide +kernel), List.mem_of_getElem? (i := 1343) (by decide +kernel)⟩
def lw_privs_4 : List (MethodName × Nat) := [(⟨"TwoStrawsModel", "isEmpty", "()Z"⟩, 53), (⟨"TwoStrawsModel", "areTwo", "(I)Z"⟩, 53), (⟨"TwoStrawsModel", "alone", "(II)I"⟩, 53), (⟨"TwoStrawsModel", "gets", "(II)I"⟩, 53), (⟨"TwoStrawsModel", "isSelf", "(IIII)Z"⟩, 53), (⟨"TwoStrawsModel", "othersGet", "(III)I"⟩, 53), (⟨"TwoStrawsModel", "getsStopping", "(II)I"⟩, 53), (⟨"TwoStrawsModel", "shortsAre", "(I)I"⟩, 53), (⟨"TwoStrawsModel", "firstFalse", "(I)I"⟩, 53), (⟨"TwoStrawsModel", "isBody", "(I)Z"⟩, 53), (⟨"TwoStrawsModel", "drawsAs", "(II)I"⟩, 53), (⟨"TwoStrawsModel", "begins", "(I)V"⟩, 53), (⟨"TwoStrawsModel", "getsAs", "(II)I"⟩, 53), (⟨"TwoStrawsModel", "restsAs", "(II)I"⟩, 53), (⟨"TwoStrawsModel", "tellsAs", "(II)I"⟩, 53), (⟨"TwoStrawsModel", "refusal", "(II)I"⟩, 53)]
theorem lw_r4 : ∀ q ∈ lw_privs_4, lw_okq q := List.forall_mem_cons.mpr ⟨lw_p48, List.forall_mem_cons.mpr ⟨lw_p49, List.forall_mem_cons.mpr ⟨lw_p50, List.forall_mem_cons.mpr ⟨lw_p51, List.forall_mem_cons.mpr ⟨lw_p52, List.forall_mem_cons.mpr ⟨lw_p53, List.forall_mem_cons.mpr ⟨lw_p54, List.forall_mem_cons.mpr ⟨lw_p55, List.forall_mem_cons.mpr ⟨lw_p56, List.forall_mem_cons.mpr ⟨lw_p57, List.forall_mem_cons.mpr ⟨lw_p58, List.forall_mem_cons.mpr ⟨lw_p59, List.forall_mem_cons.mpr ⟨lw_p60, List.forall_mem_cons.mpr ⟨lw_p61, List.forall_mem_cons.mpr ⟨lw_p62, List.forall_mem_cons.mpr ⟨lw_p63, fun _ h => absurd h List.not_mem_nil⟩⟩⟩⟩⟩⟩⟩⟩⟩⟩⟩⟩⟩⟩⟩⟩
theorem lw_p64 : lw_okq (⟨"TwoStrawsModel", "kindOf", "(I)I"⟩, 53) := ⟨⟨by decide +kernel, by decide +kernel⟩, List.mem_of_getElem? (i := 842) (by decide +kernel), List.mem_of_getElem? (i := 1362) (by decide +kernel), List.mem_of_getElem? (i := 1363) (by decide +kernel)⟩
def lw_privs_5 : List (MethodName × Nat) := [(⟨"TwoStrawsModel", "kindOf", "(I)I"⟩, 53)]
theorem lw_r5 : ∀ q ∈ lw_privs_5, lw_okq q := List.forall_mem_cons.mpr ⟨lw_p64, fun _ h => absurd h List.not_mem_nil⟩
def lw_privs : List (MethodName × Nat) := lw_privs_1 ++ (lw_privs_2 ++ (lw_privs_3 ++ (lw_privs_4 ++ (lw_privs_5))))
def lw_tbl : List Cond := k2_sels lw_privs ++ tables_1
theorem lw_privs_ok : ∀ q ∈ lw_privs, lw_okq q := by
  show ∀ q ∈ lw_privs_1 ++ (lw_privs_2 ++ (lw_privs_3 ++ (lw_privs_4 ++ (lw_privs_5)))), lw_okq q
  exact List.forall_mem_append.mpr ⟨lw_r1, List.forall_mem_append.mpr ⟨lw_r2, List.forall_mem_append.mpr ⟨lw_r3, List.forall_mem_append.mpr ⟨lw_r4, lw_r5⟩⟩⟩⟩
-- ===== end of PART A
def RX0 : String := "TwoStraws$Changes"
def TX0 : u_T := fun k => match k with
  | 0 => ("TwoStraws$Changes", "made", "I", false)
  | 1 => ("TwoStraws$Changes", "done", "I", false)
  | 2 => ("TwoStraws$Changes", "places", "[I", true)
  | 3 => ("TwoStraws$Changes", "before", "[I", true)
  | _ => ("TwoStraws$Changes", "behind", "[I", true)
def tyX0 : Nat → FieldType := fun k => match k with
  | 0 => .int
  | 1 => .int
  | 2 => .array .int
  | 3 => .array .int
  | _ => .array .int
abbrev wsX00 : List Cond := u_ws RX0 TX0 5
theorem nmX0 : ∀ a, a < 5 → ∀ b, b < 5 → a ≠ b → (TX0 a).2.1 ≠ (TX0 b).2.1 := by decide +kernel
theorem tyX0_ok : ∀ k, k < 5 → parseFieldDescriptor (TX0 k).2.2.1 = some (tyX0 k) := by decide +kernel
abbrev cX0_init : ByteArray := prog_2_method_1_code
def yX0_init : MethodName := ⟨RX0, "<init>", "()V"⟩
abbrev cX0_note : ByteArray := prog_2_method_2_code
def yX0_note : MethodName := ⟨RX0, "note", "(III)V"⟩
abbrev cX0_forgetOldest : ByteArray := prog_2_method_3_code
def yX0_forgetOldest : MethodName := ⟨RX0, "forgetOldest", "()V"⟩
abbrev cX0_takeBack : ByteArray := prog_2_method_4_code
def yX0_takeBack : MethodName := ⟨RX0, "takeBack", "([I)Z"⟩
abbrev cX0_doAgain : ByteArray := prog_2_method_5_code
def yX0_doAgain : MethodName := ⟨RX0, "doAgain", "([I)Z"⟩
def RX1 : String := "TwoStraws$Glass"
def TX1 : u_T := fun k => match k with
  | 0 => ("TwoStraws$Glass", "level", "I", false)
  | 1 => ("TwoStraws$Glass", "ice", "I", false)
  | 2 => ("TwoStraws$Glass", "s", "I", false)
  | 3 => ("TwoStraws$Glass", "seconds", "I", false)
  | 4 => ("TwoStraws$Glass", "fills", "I", false)
  | 5 => ("TwoStraws$Glass", "tried", "[I", true)
  | 6 => ("TwoStraws$Glass", "got", "[I", true)
  | 7 => ("TwoStraws$Glass", "sweet", "[I", true)
  | 8 => ("TwoStraws$Glass", "noises", "[I", true)
  | 9 => ("TwoStraws$Glass", "wanted", "[I", true)
  | 10 => ("TwoStraws$Glass", "numbers", "LTwoStraws$Numbers;", true)
  | _ => ("TwoStraws$Glass", "law", "LTwoStraws$Law;", true)
def tyX1 : Nat → FieldType := fun k => match k with
  | 0 => .int
  | 1 => .int
  | 2 => .int
  | 3 => .int
  | 4 => .int
  | 5 => .array .int
  | 6 => .array .int
  | 7 => .array .int
  | 8 => .array .int
  | 9 => .array .int
  | 10 => .object "TwoStraws$Numbers"
  | _ => .object "TwoStraws$Law"
abbrev wsX10 : List Cond := u_ws RX1 TX1 12
theorem nmX1 : ∀ a, a < 12 → ∀ b, b < 12 → a ≠ b → (TX1 a).2.1 ≠ (TX1 b).2.1 := by decide +kernel
theorem tyX1_ok : ∀ k, k < 12 → parseFieldDescriptor (TX1 k).2.2.1 = some (tyX1 k) := by decide +kernel
abbrev cX1_init : ByteArray := prog_3_method_1_code
def yX1_init : MethodName := ⟨RX1, "<init>", "(LTwoStraws$Numbers;LTwoStraws$Law;)V"⟩
abbrev cX1_copy : ByteArray := prog_3_method_2_code
def yX1_copy : MethodName := ⟨RX1, "copy", "(LTwoStraws$Glass;)V"⟩
abbrev cX1_begin : ByteArray := prog_3_method_3_code
def yX1_begin : MethodName := ⟨RX1, "begin", "(LTwoStraws$Glass;)V"⟩
abbrev cX1_refill : ByteArray := prog_3_method_4_code
def yX1_refill : MethodName := ⟨RX1, "refill", "(I)V"⟩
abbrev cX1_tells : ByteArray := prog_3_method_5_code
def yX1_tells : MethodName := ⟨RX1, "tells", "(II)I"⟩
abbrev cX1_pass : ByteArray := prog_3_method_6_code
def yX1_pass : MethodName := ⟨RX1, "pass", "(III)V"⟩
abbrev cX1_tries : ByteArray := prog_3_method_7_code
def yX1_tries : MethodName := ⟨RX1, "tries", "(IZ)I"⟩
abbrev cX1_share : ByteArray := prog_3_method_8_code
def yX1_share : MethodName := ⟨RX1, "share", "(I)V"⟩
abbrev cX1_melt : ByteArray := prog_3_method_9_code
def yX1_melt : MethodName := ⟨RX1, "melt", "()V"⟩
abbrev cX1_isOver : ByteArray := prog_3_method_10_code
def yX1_isOver : MethodName := ⟨RX1, "isOver", "()Z"⟩
abbrev cX1_mostGot : ByteArray := prog_3_method_11_code
def yX1_mostGot : MethodName := ⟨RX1, "mostGot", "()I"⟩
abbrev cX1_leastGot : ByteArray := prog_3_method_12_code
def yX1_leastGot : MethodName := ⟨RX1, "leastGot", "()I"⟩
def RX2 : String := "TwoStraws$Law"
def TX2 : u_T := fun k => match k with
  | 0 => ("TwoStraws$Law", "text", "LTwoStraws$Text;", false)
  | 1 => ("TwoStraws$Law", "numbers", "LTwoStraws$Numbers;", true)
  | 2 => ("TwoStraws$Law", "names", "[I", true)
  | _ => ("TwoStraws$Law", "stack", "[I", true)
def tyX2 : Nat → FieldType := fun k => match k with
  | 0 => .object "TwoStraws$Text"
  | 1 => .object "TwoStraws$Numbers"
  | 2 => .array .int
  | _ => .array .int
abbrev wsX20 : List Cond := u_ws RX2 TX2 4
theorem nmX2 : ∀ a, a < 4 → ∀ b, b < 4 → a ≠ b → (TX2 a).2.1 ≠ (TX2 b).2.1 := by decide +kernel
theorem tyX2_ok : ∀ k, k < 4 → parseFieldDescriptor (TX2 k).2.2.1 = some (tyX2 k) := by decide +kernel
abbrev cX2_init : ByteArray := prog_4_method_1_code
def yX2_init : MethodName := ⟨RX2, "<init>", "(LTwoStraws$Numbers;)V"⟩
abbrev cX2_want : ByteArray := prog_4_method_2_code
def yX2_want : MethodName := ⟨RX2, "want", "(III)I"⟩
abbrev cX2_held : ByteArray := prog_4_method_3_code
def yX2_held : MethodName := ⟨RX2, "held", "(I)I"⟩
abbrev cX2_plain : ByteArray := prog_4_method_4_code
def yX2_plain : MethodName := ⟨RX2, "plain", "(II)I"⟩
abbrev cX2_setNames : ByteArray := prog_4_method_5_code
def yX2_setNames : MethodName := ⟨RX2, "setNames", "(III)V"⟩
abbrev cX2_workedOut : ByteArray := prog_4_method_6_code
def yX2_workedOut : MethodName := ⟨RX2, "workedOut", "(II)I"⟩
abbrev cX2_joined : ByteArray := prog_4_method_7_code
def yX2_joined : MethodName := ⟨RX2, "joined", "(III)I"⟩
def RX3 : String := "TwoStraws$Numbers"
def TX3 : u_T := fun k => match k with
  | 0 => ("TwoStraws$Numbers", "told", "[I", true)
  | _ => ("TwoStraws$Numbers", "straws", "I", false)
def tyX3 : Nat → FieldType := fun k => match k with
  | 0 => .array .int
  | _ => .int
abbrev wsX30 : List Cond := u_ws RX3 TX3 2
theorem nmX3 : ∀ a, a < 2 → ∀ b, b < 2 → a ≠ b → (TX3 a).2.1 ≠ (TX3 b).2.1 := by decide +kernel
theorem tyX3_ok : ∀ k, k < 2 → parseFieldDescriptor (TX3 k).2.2.1 = some (tyX3 k) := by decide +kernel
abbrev cX3_init : ByteArray := prog_5_method_1_code
def yX3_init : MethodName := ⟨RX3, "<init>", "()V"⟩
abbrev cX3_fits : ByteArray := prog_5_method_2_code
def yX3_fits : MethodName := ⟨RX3, "fits", "(II)Z"⟩
abbrev cX3_add : ByteArray := prog_5_method_3_code
def yX3_add : MethodName := ⟨RX3, "add", "(III)I"⟩
abbrev cX3_place : ByteArray := prog_5_method_4_code
def yX3_place : MethodName := ⟨RX3, "place", "(II)I"⟩
abbrev cX3_ofStraw : ByteArray := prog_5_method_5_code
def yX3_ofStraw : MethodName := ⟨RX3, "ofStraw", "(II)I"⟩
abbrev cX3_ofGlass : ByteArray := prog_5_method_6_code
def yX3_ofGlass : MethodName := ⟨RX3, "ofGlass", "(I)I"⟩
abbrev cX3_glassPlace : ByteArray := prog_5_method_7_code
def yX3_glassPlace : MethodName := ⟨RX3, "glassPlace", "(I)I"⟩
abbrev cX3_isDrawing : ByteArray := prog_5_method_8_code
def yX3_isDrawing : MethodName := ⟨RX3, "isDrawing", "(IIZ)Z"⟩
abbrev cX3_sweetness : ByteArray := prog_5_method_9_code
def yX3_sweetness : MethodName := ⟨RX3, "sweetness", "(I)I"⟩
abbrev cX3_lowestReach : ByteArray := prog_5_method_10_code
def yX3_lowestReach : MethodName := ⟨RX3, "lowestReach", "()I"⟩
def RX4 : String := "TwoStraws$Shelf"
def TX4 : u_T := fun k => match k with
  | 0 => ("TwoStraws$Shelf", "sort", "I", false)
  | 1 => ("TwoStraws$Shelf", "size", "I", false)
  | 2 => ("TwoStraws$Shelf", "sip", "I", false)
  | _ => ("TwoStraws$Shelf", "elements", "[J", true)
def tyX4 : Nat → FieldType := fun k => match k with
  | 0 => .int
  | 1 => .int
  | 2 => .int
  | _ => .array .long
abbrev wsX40 : List Cond := u_ws RX4 TX4 4
theorem nmX4 : ∀ a, a < 4 → ∀ b, b < 4 → a ≠ b → (TX4 a).2.1 ≠ (TX4 b).2.1 := by decide +kernel
theorem tyX4_ok : ∀ k, k < 4 → parseFieldDescriptor (TX4 k).2.2.1 = some (tyX4 k) := by decide +kernel
abbrev cX4_init : ByteArray := prog_6_method_1_code
def yX4_init : MethodName := ⟨RX4, "<init>", "()V"⟩
abbrev cX4_clear : ByteArray := prog_6_method_2_code
def yX4_clear : MethodName := ⟨RX4, "clear", "()V"⟩
abbrev cX4_holdSip : ByteArray := prog_6_method_3_code
def yX4_holdSip : MethodName := ⟨RX4, "holdSip", "(I)V"⟩
abbrev cX4_holdRow : ByteArray := prog_6_method_4_code
def yX4_holdRow : MethodName := ⟨RX4, "holdRow", "(II)V"⟩
abbrev cX4_hasPlaces : ByteArray := prog_6_method_5_code
def yX4_hasPlaces : MethodName := ⟨RX4, "hasPlaces", "(II)Z"⟩
abbrev cX4_cut : ByteArray := prog_6_method_6_code
def yX4_cut : MethodName := ⟨RX4, "cut", "(IJ)J"⟩
def RX5 : String := "TwoStraws$Sips"
def TX5 : u_T := fun k => match k with
  | 0 => ("TwoStraws$Sips", "size", "I", false)
  | 1 => ("TwoStraws$Sips", "ran", "I", false)
  | 2 => ("TwoStraws$Sips", "kinds", "[I", true)
  | _ => ("TwoStraws$Sips", "latest", "[I", true)
def tyX5 : Nat → FieldType := fun k => match k with
  | 0 => .int
  | 1 => .int
  | 2 => .array .int
  | _ => .array .int
abbrev wsX50 : List Cond := u_ws RX5 TX5 4
theorem nmX5 : ∀ a, a < 4 → ∀ b, b < 4 → a ≠ b → (TX5 a).2.1 ≠ (TX5 b).2.1 := by decide +kernel
theorem tyX5_ok : ∀ k, k < 4 → parseFieldDescriptor (TX5 k).2.2.1 = some (tyX5 k) := by decide +kernel
abbrev cX5_init : ByteArray := prog_7_method_1_code
def yX5_init : MethodName := ⟨RX5, "<init>", "()V"⟩
abbrev cX5_add : ByteArray := prog_7_method_2_code
def yX5_add : MethodName := ⟨RX5, "add", "(I)I"⟩
abbrev cX5_has : ByteArray := prog_7_method_3_code
def yX5_has : MethodName := ⟨RX5, "has", "(I)Z"⟩
abbrev cX5_kindOf : ByteArray := prog_7_method_4_code
def yX5_kindOf : MethodName := ⟨RX5, "kindOf", "(I)I"⟩
abbrev cX5_isUnder : ByteArray := prog_7_method_5_code
def yX5_isUnder : MethodName := ⟨RX5, "isUnder", "(II)Z"⟩
abbrev cX5_traced : ByteArray := prog_7_method_6_code
def yX5_traced : MethodName := ⟨RX5, "traced", "(I)I"⟩
abbrev cX5_begin : ByteArray := prog_7_method_7_code
def yX5_begin : MethodName := ⟨RX5, "begin", "(III)I"⟩
abbrev cX5_run : ByteArray := prog_7_method_8_code
def yX5_run : MethodName := ⟨RX5, "run", "(IIIII)I"⟩
abbrev cX5_ownerOf : ByteArray := prog_7_method_9_code
def yX5_ownerOf : MethodName := ⟨RX5, "ownerOf", "(II)I"⟩
abbrev cX5_note : ByteArray := prog_7_method_10_code
def yX5_note : MethodName := ⟨RX5, "note", "(I)V"⟩
def RX6 : String := "TwoStraws$Tape"
def TX6 : u_T := fun k => match k with
  | 0 => ("TwoStraws$Tape", "bytes", "[I", true)
  | 1 => ("TwoStraws$Tape", "length", "I", false)
  | 2 => ("TwoStraws$Tape", "text", "LTwoStraws$Text;", false)
  | _ => ("TwoStraws$Tape", "place", "I", false)
def tyX6 : Nat → FieldType := fun k => match k with
  | 0 => .array .int
  | 1 => .int
  | 2 => .object "TwoStraws$Text"
  | _ => .int
abbrev wsX60 : List Cond := u_ws RX6 TX6 4
theorem nmX6 : ∀ a, a < 4 → ∀ b, b < 4 → a ≠ b → (TX6 a).2.1 ≠ (TX6 b).2.1 := by decide +kernel
theorem tyX6_ok : ∀ k, k < 4 → parseFieldDescriptor (TX6 k).2.2.1 = some (tyX6 k) := by decide +kernel
abbrev cX6_init : ByteArray := prog_8_method_1_code
def yX6_init : MethodName := ⟨RX6, "<init>", "()V"⟩
abbrev cX6_add : ByteArray := prog_8_method_2_code
def yX6_add : MethodName := ⟨RX6, "add", "(I)Z"⟩
abbrev cX6_read : ByteArray := prog_8_method_3_code
def yX6_read : MethodName := ⟨RX6, "read", "()I"⟩
abbrev cX6_next : ByteArray := prog_8_method_4_code
def yX6_next : MethodName := ⟨RX6, "next", "()I"⟩
abbrev cX6_passes : ByteArray := prog_8_method_5_code
def yX6_passes : MethodName := ⟨RX6, "passes", "(I)Z"⟩
abbrev cX6_readLine : ByteArray := prog_8_method_6_code
def yX6_readLine : MethodName := ⟨RX6, "readLine", "()Z"⟩
abbrev cX6_readJoined : ByteArray := prog_8_method_7_code
def yX6_readJoined : MethodName := ⟨RX6, "readJoined", "(II)Z"⟩
abbrev cX6_readOne : ByteArray := prog_8_method_8_code
def yX6_readOne : MethodName := ⟨RX6, "readOne", "(I)Z"⟩
abbrev cX6_readNumber : ByteArray := prog_8_method_9_code
def yX6_readNumber : MethodName := ⟨RX6, "readNumber", "()V"⟩
abbrev cX6_isDigit : ByteArray := prog_8_method_10_code
def yX6_isDigit : MethodName := ⟨RX6, "isDigit", "(I)Z"⟩
abbrev cX6_naming : ByteArray := prog_8_method_11_code
def yX6_naming : MethodName := ⟨RX6, "naming", "(I)I"⟩
abbrev cX6_joining : ByteArray := prog_8_method_12_code
def yX6_joining : MethodName := ⟨RX6, "joining", "(II)I"⟩
def RX7 : String := "TwoStraws$Text"
def TX7 : u_T := fun k => match k with
  | 0 => ("TwoStraws$Text", "code", "[I", true)
  | 1 => ("TwoStraws$Text", "ends", "[I", true)
  | 2 => ("TwoStraws$Text", "asks", "[Z", true)
  | 3 => ("TwoStraws$Text", "size", "I", false)
  | _ => ("TwoStraws$Text", "parts", "I", false)
def tyX7 : Nat → FieldType := fun k => match k with
  | 0 => .array .int
  | 1 => .array .int
  | 2 => .array .boolean
  | 3 => .int
  | _ => .int
abbrev wsX70 : List Cond := u_ws RX7 TX7 5
theorem nmX7 : ∀ a, a < 5 → ∀ b, b < 5 → a ≠ b → (TX7 a).2.1 ≠ (TX7 b).2.1 := by decide +kernel
theorem tyX7_ok : ∀ k, k < 5 → parseFieldDescriptor (TX7 k).2.2.1 = some (tyX7 k) := by decide +kernel
abbrev cX7_init : ByteArray := prog_9_method_1_code
def yX7_init : MethodName := ⟨RX7, "<init>", "()V"⟩
abbrev cX7_clear : ByteArray := prog_9_method_2_code
def yX7_clear : MethodName := ⟨RX7, "clear", "()V"⟩
abbrev cX7_add : ByteArray := prog_9_method_3_code
def yX7_add : MethodName := ⟨RX7, "add", "(I)V"⟩
abbrev cX7_endPart : ByteArray := prog_9_method_4_code
def yX7_endPart : MethodName := ⟨RX7, "endPart", "(Z)V"⟩
def RX8 : String := "TwoStraws$Thoughts"
def TX8 : u_T := fun k => match k with
  | 0 => ("TwoStraws$Thoughts", "gain", "I", false)
  | 1 => ("TwoStraws$Thoughts", "numbers", "LTwoStraws$Numbers;", true)
  | 2 => ("TwoStraws$Thoughts", "now", "LTwoStraws$Glass;", true)
  | 3 => ("TwoStraws$Thoughts", "thought", "LTwoStraws$Glass;", true)
  | 4 => ("TwoStraws$Thoughts", "branch", "LTwoStraws$Glass;", true)
  | 5 => ("TwoStraws$Thoughts", "byLevel", "[I", true)
  | 6 => ("TwoStraws$Thoughts", "firstGot", "[I", true)
  | _ => ("TwoStraws$Thoughts", "secondGot", "[I", true)
def tyX8 : Nat → FieldType := fun k => match k with
  | 0 => .int
  | 1 => .object "TwoStraws$Numbers"
  | 2 => .object "TwoStraws$Glass"
  | 3 => .object "TwoStraws$Glass"
  | 4 => .object "TwoStraws$Glass"
  | 5 => .array .int
  | 6 => .array .int
  | _ => .array .int
abbrev wsX80 : List Cond := u_ws RX8 TX8 8
theorem nmX8 : ∀ a, a < 8 → ∀ b, b < 8 → a ≠ b → (TX8 a).2.1 ≠ (TX8 b).2.1 := by decide +kernel
theorem tyX8_ok : ∀ k, k < 8 → parseFieldDescriptor (TX8 k).2.2.1 = some (tyX8 k) := by decide +kernel
abbrev cX8_init : ByteArray := prog_10_method_1_code
def yX8_init : MethodName := ⟨RX8, "<init>", "(LTwoStraws$Numbers;LTwoStraws$Law;LTwoStraws$Glass;)V"⟩
abbrev cX8_after : ByteArray := prog_10_method_2_code
def yX8_after : MethodName := ⟨RX8, "after", "(I)LTwoStraws$Glass;"⟩
abbrev cX8_drunk : ByteArray := prog_10_method_3_code
def yX8_drunk : MethodName := ⟨RX8, "drunk", "(I)LTwoStraws$Glass;"⟩
abbrev cX8_emptyBehind : ByteArray := prog_10_method_4_code
def yX8_emptyBehind : MethodName := ⟨RX8, "emptyBehind", "()I"⟩
abbrev cX8_byTurns : ByteArray := prog_10_method_5_code
def yX8_byTurns : MethodName := ⟨RX8, "byTurns", "(III)LTwoStraws$Glass;"⟩
abbrev cX8_leastMark : ByteArray := prog_10_method_6_code
def yX8_leastMark : MethodName := ⟨RX8, "leastMark", "(II)I"⟩
abbrev cX8_gotBehind : ByteArray := prog_10_method_7_code
def yX8_gotBehind : MethodName := ⟨RX8, "gotBehind", "(II)I"⟩
abbrev cX8_halved : ByteArray := prog_10_method_8_code
def yX8_halved : MethodName := ⟨RX8, "halved", "(III)I"⟩
abbrev cX8_gotFromGlass : ByteArray := prog_10_method_9_code
def yX8_gotFromGlass : MethodName := ⟨RX8, "gotFromGlass", "(II)I"⟩
abbrev cX8_bestNumber : ByteArray := prog_10_method_10_code
def yX8_bestNumber : MethodName := ⟨RX8, "bestNumber", "(IIIIZ)I"⟩
abbrev cX8_mostAbove : ByteArray := prog_10_method_11_code
def yX8_mostAbove : MethodName := ⟨RX8, "mostAbove", "(IZ)I"⟩
abbrev cX8_together : ByteArray := prog_10_method_12_code
def yX8_together : MethodName := ⟨RX8, "together", "(I)I"⟩
abbrev cX8_selfish : ByteArray := prog_10_method_13_code
def yX8_selfish : MethodName := ⟨RX8, "selfish", "(I)I"⟩
abbrev cX8_setStrengths : ByteArray := prog_10_method_14_code
def yX8_setStrengths : MethodName := ⟨RX8, "setStrengths", "(II)V"⟩
abbrev cX8_isContent : ByteArray := prog_10_method_15_code
def yX8_isContent : MethodName := ⟨RX8, "isContent", "(IIII)Z"⟩
abbrev cX8_othersGot : ByteArray := prog_10_method_16_code
def yX8_othersGot : MethodName := ⟨RX8, "othersGot", "(III)I"⟩
abbrev cX8_lastGain : ByteArray := prog_10_method_17_code
def yX8_lastGain : MethodName := ⟨RX8, "lastGain", "(I)I"⟩
abbrev cX8_firstUnlike : ByteArray := prog_10_method_18_code
def yX8_firstUnlike : MethodName := ⟨RX8, "firstUnlike", "(LTwoStraws$Shelf;I)I"⟩
abbrev cX8_setsThatFit : ByteArray := prog_10_method_19_code
def yX8_setsThatFit : MethodName := ⟨RX8, "setsThatFit", "(LTwoStraws$Shelf;)I"⟩
abbrev cX8_leastSet : ByteArray := prog_10_method_20_code
def yX8_leastSet : MethodName := ⟨RX8, "leastSet", "(LTwoStraws$Shelf;)I"⟩
abbrev cX8_stoppedBehind : ByteArray := prog_10_method_21_code
def yX8_stoppedBehind : MethodName := ⟨RX8, "stoppedBehind", "(LTwoStraws$Shelf;I)I"⟩
abbrev cX8_hiccupped : ByteArray := prog_10_method_22_code
def yX8_hiccupped : MethodName := ⟨RX8, "hiccupped", "(III)I"⟩
def RX9 : String := "TwoStraws"
def TX9 : u_T := fun k => match k with
  | 0 => ("TwoStraws", "numbers", "LTwoStraws$Numbers;", true)
  | 1 => ("TwoStraws", "tape", "LTwoStraws$Tape;", true)
  | 2 => ("TwoStraws", "law", "LTwoStraws$Law;", true)
  | 3 => ("TwoStraws", "now", "LTwoStraws$Glass;", true)
  | 4 => ("TwoStraws", "kept", "LTwoStraws$Glass;", true)
  | 5 => ("TwoStraws", "thoughts", "LTwoStraws$Thoughts;", true)
  | 6 => ("TwoStraws", "changes", "LTwoStraws$Changes;", true)
  | 7 => ("TwoStraws", "sips", "LTwoStraws$Sips;", true)
  | 8 => ("TwoStraws", "shelves", "[LTwoStraws$Shelf;", true)
  | _ => ("TwoStraws", "hasImage", "Z", false)
def tyX9 : Nat → FieldType := fun k => match k with
  | 0 => .object "TwoStraws$Numbers"
  | 1 => .object "TwoStraws$Tape"
  | 2 => .object "TwoStraws$Law"
  | 3 => .object "TwoStraws$Glass"
  | 4 => .object "TwoStraws$Glass"
  | 5 => .object "TwoStraws$Thoughts"
  | 6 => .object "TwoStraws$Changes"
  | 7 => .object "TwoStraws$Sips"
  | 8 => .array (.object "TwoStraws$Shelf")
  | _ => .boolean
abbrev wsX90 : List Cond := u_ws RX9 TX9 10
theorem nmX9 : ∀ a, a < 10 → ∀ b, b < 10 → a ≠ b → (TX9 a).2.1 ≠ (TX9 b).2.1 := by decide +kernel
theorem tyX9_ok : ∀ k, k < 10 → parseFieldDescriptor (TX9 k).2.2.1 = some (tyX9 k) := by decide +kernel
abbrev cX9_init : ByteArray := prog_1_method_1_code
def yX9_init : MethodName := ⟨RX9, "<init>", "()V"⟩
abbrev cX9_straw : ByteArray := prog_1_method_2_code
def yX9_straw : MethodName := ⟨RX9, "straw", "(II)I"⟩
abbrev cX9_straws : ByteArray := prog_1_method_3_code
def yX9_straws : MethodName := ⟨RX9, "straws", "(III)I"⟩
abbrev cX9_mend : ByteArray := prog_1_method_4_code
def yX9_mend : MethodName := ⟨RX9, "mend", "(III)I"⟩
abbrev cX9_of : ByteArray := prog_1_method_5_code
def yX9_of : MethodName := ⟨RX9, "of", "(II)I"⟩
abbrev cX9_feed : ByteArray := prog_1_method_6_code
def yX9_feed : MethodName := ⟨RX9, "feed", "(I)I"⟩
abbrev cX9_law : ByteArray := prog_1_method_7_code
def yX9_law : MethodName := ⟨RX9, "law", "()I"⟩
abbrev cX9_wants : ByteArray := prog_1_method_8_code
def yX9_wants : MethodName := ⟨RX9, "wants", "(III)I"⟩
abbrev cX9_glass : ByteArray := prog_1_method_9_code
def yX9_glass : MethodName := ⟨RX9, "glass", "(III)I"⟩
abbrev cX9_level : ByteArray := prog_1_method_10_code
def yX9_level : MethodName := ⟨RX9, "level", "(II)I"⟩
abbrev cX9_empty : ByteArray := prog_1_method_11_code
def yX9_empty : MethodName := ⟨RX9, "empty", "()I"⟩
abbrev cX9_more : ByteArray := prog_1_method_12_code
def yX9_more : MethodName := ⟨RX9, "more", "(II)I"⟩
abbrev cX9_turns : ByteArray := prog_1_method_13_code
def yX9_turns : MethodName := ⟨RX9, "turns", "(III)I"⟩
abbrev cX9_mark : ByteArray := prog_1_method_14_code
def yX9_mark : MethodName := ⟨RX9, "mark", "(I)I"⟩
abbrev cX9_halves : ByteArray := prog_1_method_15_code
def yX9_halves : MethodName := ⟨RX9, "halves", "(II)I"⟩
abbrev cX9_reachFor : ByteArray := prog_1_method_16_code
def yX9_reachFor : MethodName := ⟨RX9, "reachFor", "(III)I"⟩
abbrev cX9_slow : ByteArray := prog_1_method_17_code
def yX9_slow : MethodName := ⟨RX9, "slow", "(II)I"⟩
abbrev cX9_both : ByteArray := prog_1_method_18_code
def yX9_both : MethodName := ⟨RX9, "both", "(II)I"⟩
abbrev cX9_holeFor : ByteArray := prog_1_method_19_code
def yX9_holeFor : MethodName := ⟨RX9, "holeFor", "(III)I"⟩
abbrev cX9_stopFor : ByteArray := prog_1_method_20_code
def yX9_stopFor : MethodName := ⟨RX9, "stopFor", "(I)I"⟩
abbrev cX9_judge : ByteArray := prog_1_method_21_code
def yX9_judge : MethodName := ⟨RX9, "judge", "(I)I"⟩
abbrev cX9_who : ByteArray := prog_1_method_22_code
def yX9_who : MethodName := ⟨RX9, "who", "(II)I"⟩
abbrev cX9_since : ByteArray := prog_1_method_23_code
def yX9_since : MethodName := ⟨RX9, "since", "(II)I"⟩
abbrev cX9_drawn : ByteArray := prog_1_method_24_code
def yX9_drawn : MethodName := ⟨RX9, "drawn", "(III)I"⟩
abbrev cX9_second : ByteArray := prog_1_method_25_code
def yX9_second : MethodName := ⟨RX9, "second", "()I"⟩
abbrev cX9_fill : ByteArray := prog_1_method_26_code
def yX9_fill : MethodName := ⟨RX9, "fill", "(I)I"⟩
abbrev cX9_ice : ByteArray := prog_1_method_27_code
def yX9_ice : MethodName := ⟨RX9, "ice", "(I)I"⟩
abbrev cX9_led : ByteArray := prog_1_method_28_code
def yX9_led : MethodName := ⟨RX9, "led", "(II)I"⟩
abbrev cX9_image : ByteArray := prog_1_method_29_code
def yX9_image : MethodName := ⟨RX9, "image", "()I"⟩
abbrev cX9_back : ByteArray := prog_1_method_30_code
def yX9_back : MethodName := ⟨RX9, "back", "()I"⟩
abbrev cX9_undo : ByteArray := prog_1_method_31_code
def yX9_undo : MethodName := ⟨RX9, "undo", "()I"⟩
abbrev cX9_redo : ByteArray := prog_1_method_32_code
def yX9_redo : MethodName := ⟨RX9, "redo", "()I"⟩
abbrev cX9_body : ByteArray := prog_1_method_33_code
def yX9_body : MethodName := ⟨RX9, "body", "(I)I"⟩
abbrev cX9_act : ByteArray := prog_1_method_34_code
def yX9_act : MethodName := ⟨RX9, "act", "(III)I"⟩
abbrev cX9_trace : ByteArray := prog_1_method_35_code
def yX9_trace : MethodName := ⟨RX9, "trace", "(I)I"⟩
abbrev cX9_keep : ByteArray := prog_1_method_36_code
def yX9_keep : MethodName := ⟨RX9, "keep", "(II)I"⟩
abbrev cX9_row : ByteArray := prog_1_method_37_code
def yX9_row : MethodName := ⟨RX9, "row", "(III)I"⟩
abbrev cX9_put : ByteArray := prog_1_method_38_code
def yX9_put : MethodName := ⟨RX9, "put", "(IIJ)I"⟩
abbrev cX9_element : ByteArray := prog_1_method_39_code
def yX9_element : MethodName := ⟨RX9, "element", "(II)J"⟩
abbrev cX9_shift : ByteArray := prog_1_method_40_code
def yX9_shift : MethodName := ⟨RX9, "shift", "(IIIII)I"⟩
abbrev cX9_taken : ByteArray := prog_1_method_41_code
def yX9_taken : MethodName := ⟨RX9, "taken", "(II)I"⟩
abbrev cX9_count : ByteArray := prog_1_method_42_code
def yX9_count : MethodName := ⟨RX9, "count", "(I)I"⟩
abbrev cX9_isWithin : ByteArray := prog_1_method_43_code
def yX9_isWithin : MethodName := ⟨RX9, "isWithin", "(II)Z"⟩
abbrev cX9_isShelf : ByteArray := prog_1_method_44_code
def yX9_isShelf : MethodName := ⟨RX9, "isShelf", "(I)Z"⟩
abbrev cX9_isStraw : ByteArray := prog_1_method_45_code
def yX9_isStraw : MethodName := ⟨RX9, "isStraw", "(I)Z"⟩
abbrev cX9_isPair : ByteArray := prog_1_method_46_code
def yX9_isPair : MethodName := ⟨RX9, "isPair", "(I)Z"⟩
abbrev cX9_refusedRings : ByteArray := prog_1_method_47_code
def yX9_refusedRings : MethodName := ⟨RX9, "refusedRings", "(I)I"⟩
abbrev cX9_refusedElement : ByteArray := prog_1_method_48_code
def yX9_refusedElement : MethodName := ⟨RX9, "refusedElement", "(II)I"⟩
abbrev cX9_addStraw : ByteArray := prog_1_method_49_code
def yX9_addStraw : MethodName := ⟨RX9, "addStraw", "(LTwoStraws$Shelf;I)Z"⟩
def RX10 : String := "TwoStrawsModel"
def TX10 : u_T := fun k => match k with
  | 0 => ("TwoStrawsModel", "may", "[I", true)
  | 1 => ("TwoStrawsModel", "changeAt", "[I", true)
  | 2 => ("TwoStrawsModel", "changeWas", "[I", true)
  | 3 => ("TwoStrawsModel", "changeIs", "[I", true)
  | 4 => ("TwoStrawsModel", "keptMany", "I", false)
  | 5 => ("TwoStrawsModel", "done", "I", false)
  | 6 => ("TwoStrawsModel", "straws", "I", false)
  | 7 => ("TwoStrawsModel", "level", "I", false)
  | 8 => ("TwoStrawsModel", "iceNow", "I", false)
  | 9 => ("TwoStrawsModel", "passed", "I", false)
  | 10 => ("TwoStrawsModel", "tried", "[I", true)
  | 11 => ("TwoStrawsModel", "tape", "[I", true)
  | 12 => ("TwoStrawsModel", "tapeMany", "I", false)
  | 13 => ("TwoStrawsModel", "text", "[I", true)
  | 14 => ("TwoStrawsModel", "textMany", "I", false)
  | 15 => ("TwoStrawsModel", "base", "I", false)
  | 16 => ("TwoStrawsModel", "at", "I", false)
  | 17 => ("TwoStrawsModel", "ends", "I", false)
  | 18 => ("TwoStrawsModel", "fault", "I", false)
  | 19 => ("TwoStrawsModel", "opened", "I", false)
  | 20 => ("TwoStrawsModel", "names", "[I", true)
  | 21 => ("TwoStrawsModel", "levelNow", "I", false)
  | 22 => ("TwoStrawsModel", "iceLeft", "I", false)
  | 23 => ("TwoStrawsModel", "secondNow", "I", false)
  | 24 => ("TwoStrawsModel", "triedNow", "[I", true)
  | 25 => ("TwoStrawsModel", "gotNow", "[I", true)
  | 26 => ("TwoStrawsModel", "noises", "[I", true)
  | 27 => ("TwoStrawsModel", "want", "[I", true)
  | 28 => ("TwoStrawsModel", "drinkers", "I", false)
  | 29 => ("TwoStrawsModel", "noStops", "Z", false)
  | 30 => ("TwoStrawsModel", "hiccups", "I", false)
  | 31 => ("TwoStrawsModel", "aloneA", "[I", true)
  | 32 => ("TwoStrawsModel", "aloneB", "[I", true)
  | 33 => ("TwoStrawsModel", "firstGets", "[I", true)
  | 34 => ("TwoStrawsModel", "otherGets", "[I", true)
  | 35 => ("TwoStrawsModel", "ledGot", "[I", true)
  | 36 => ("TwoStrawsModel", "ledSweet", "[I", true)
  | 37 => ("TwoStrawsModel", "ledNoises", "[I", true)
  | 38 => ("TwoStrawsModel", "ledSeconds", "I", false)
  | 39 => ("TwoStrawsModel", "ledFills", "I", false)
  | 40 => ("TwoStrawsModel", "isKept", "Z", false)
  | 41 => ("TwoStrawsModel", "imageStraws", "I", false)
  | 42 => ("TwoStrawsModel", "image", "[I", true)
  | 43 => ("TwoStrawsModel", "bodies", "I", false)
  | 44 => ("TwoStrawsModel", "bodyKind", "[I", true)
  | 45 => ("TwoStrawsModel", "trace", "[I", true)
  | 46 => ("TwoStrawsModel", "ran", "I", false)
  | 47 => ("TwoStrawsModel", "ownKind", "I", false)
  | 48 => ("TwoStrawsModel", "ownNumber", "I", false)
  | 49 => ("TwoStrawsModel", "shelf", "[I", true)
  | 50 => ("TwoStrawsModel", "many", "[I", true)
  | 51 => ("TwoStrawsModel", "items", "[J", true)
  | _ => ("TwoStrawsModel", "carried", "[J", true)
def tyX10 : Nat → FieldType := fun k => match k with
  | 0 => .array .int
  | 1 => .array .int
  | 2 => .array .int
  | 3 => .array .int
  | 4 => .int
  | 5 => .int
  | 6 => .int
  | 7 => .int
  | 8 => .int
  | 9 => .int
  | 10 => .array .int
  | 11 => .array .int
  | 12 => .int
  | 13 => .array .int
  | 14 => .int
  | 15 => .int
  | 16 => .int
  | 17 => .int
  | 18 => .int
  | 19 => .int
  | 20 => .array .int
  | 21 => .int
  | 22 => .int
  | 23 => .int
  | 24 => .array .int
  | 25 => .array .int
  | 26 => .array .int
  | 27 => .array .int
  | 28 => .int
  | 29 => .boolean
  | 30 => .int
  | 31 => .array .int
  | 32 => .array .int
  | 33 => .array .int
  | 34 => .array .int
  | 35 => .array .int
  | 36 => .array .int
  | 37 => .array .int
  | 38 => .int
  | 39 => .int
  | 40 => .boolean
  | 41 => .int
  | 42 => .array .int
  | 43 => .int
  | 44 => .array .int
  | 45 => .array .int
  | 46 => .int
  | 47 => .int
  | 48 => .int
  | 49 => .array .int
  | 50 => .array .int
  | 51 => .array .long
  | _ => .array .long
abbrev wsX100 : List Cond := u_ws RX10 TX10 53
theorem nmX10 : ∀ a, a < 53 → ∀ b, b < 53 → a ≠ b → (TX10 a).2.1 ≠ (TX10 b).2.1 := by decide +kernel
theorem tyX10_ok : ∀ k, k < 53 → parseFieldDescriptor (TX10 k).2.2.1 = some (tyX10 k) := by decide +kernel
abbrev cX10_within : ByteArray := prog_12_method_1_code
def yX10_within : MethodName := ⟨RX10, "within", "(JJJ)Z"⟩
abbrev cX10_isIn : ByteArray := prog_12_method_2_code
def yX10_isIn : MethodName := ⟨RX10, "isIn", "(II)Z"⟩
abbrev cX10_init : ByteArray := prog_12_method_3_code
def yX10_init : MethodName := ⟨RX10, "<init>", "()V"⟩
abbrev cX10_becomes : ByteArray := prog_12_method_4_code
def yX10_becomes : MethodName := ⟨RX10, "becomes", "(II)I"⟩
abbrev cX10_undo : ByteArray := prog_12_method_5_code
def yX10_undo : MethodName := ⟨RX10, "undo", "()I"⟩
abbrev cX10_redo : ByteArray := prog_12_method_6_code
def yX10_redo : MethodName := ⟨RX10, "redo", "()I"⟩
abbrev cX10_isStraw : ByteArray := prog_12_method_7_code
def yX10_isStraw : MethodName := ⟨RX10, "isStraw", "(I)Z"⟩
abbrev cX10_ofStraw : ByteArray := prog_12_method_8_code
def yX10_ofStraw : MethodName := ⟨RX10, "ofStraw", "(II)I"⟩
abbrev cX10_isOne : ByteArray := prog_12_method_9_code
def yX10_isOne : MethodName := ⟨RX10, "isOne", "(JJJ)Z"⟩
abbrev cX10_adds : ByteArray := prog_12_method_10_code
def yX10_adds : MethodName := ⟨RX10, "adds", "(III)V"⟩
abbrev cX10_straw : ByteArray := prog_12_method_11_code
def yX10_straw : MethodName := ⟨RX10, "straw", "(II)I"⟩
abbrev cX10_straws : ByteArray := prog_12_method_12_code
def yX10_straws : MethodName := ⟨RX10, "straws", "(III)I"⟩
abbrev cX10_placeOf : ByteArray := prog_12_method_13_code
def yX10_placeOf : MethodName := ⟨RX10, "placeOf", "(II)I"⟩
abbrev cX10_mayBecome : ByteArray := prog_12_method_14_code
def yX10_mayBecome : MethodName := ⟨RX10, "mayBecome", "(II)Z"⟩
abbrev cX10_mend : ByteArray := prog_12_method_15_code
def yX10_mend : MethodName := ⟨RX10, "mend", "(III)I"⟩
abbrev cX10_of : ByteArray := prog_12_method_16_code
def yX10_of : MethodName := ⟨RX10, "of", "(II)I"⟩
abbrev cX10_feed : ByteArray := prog_12_method_17_code
def yX10_feed : MethodName := ⟨RX10, "feed", "(I)I"⟩
abbrev cX10_byteAt : ByteArray := prog_12_method_18_code
def yX10_byteAt : MethodName := ⟨RX10, "byteAt", "()I"⟩
abbrev cX10_wrong : ByteArray := prog_12_method_19_code
def yX10_wrong : MethodName := ⟨RX10, "wrong", "()I"⟩
abbrev cX10_takes : ByteArray := prog_12_method_20_code
def yX10_takes : MethodName := ⟨RX10, "takes", "(I)Z"⟩
abbrev cX10_either : ByteArray := prog_12_method_21_code
def yX10_either : MethodName := ⟨RX10, "either", "()I"⟩
abbrev cX10_bothOf : ByteArray := prog_12_method_22_code
def yX10_bothOf : MethodName := ⟨RX10, "bothOf", "()I"⟩
abbrev cX10_compared : ByteArray := prog_12_method_23_code
def yX10_compared : MethodName := ⟨RX10, "compared", "()I"⟩
abbrev cX10_sums : ByteArray := prog_12_method_24_code
def yX10_sums : MethodName := ⟨RX10, "sums", "()I"⟩
abbrev cX10_product : ByteArray := prog_12_method_25_code
def yX10_product : MethodName := ⟨RX10, "product", "()I"⟩
abbrev cX10_nameOf : ByteArray := prog_12_method_26_code
def yX10_nameOf : MethodName := ⟨RX10, "nameOf", "(I)I"⟩
abbrev cX10_one : ByteArray := prog_12_method_27_code
def yX10_one : MethodName := ⟨RX10, "one", "()I"⟩
abbrev cX10_workOut : ByteArray := prog_12_method_28_code
def yX10_workOut : MethodName := ⟨RX10, "workOut", "(II)I"⟩
abbrev cX10_law : ByteArray := prog_12_method_29_code
def yX10_law : MethodName := ⟨RX10, "law", "()I"⟩
abbrev cX10_wantsAt : ByteArray := prog_12_method_30_code
def yX10_wantsAt : MethodName := ⟨RX10, "wantsAt", "(III)I"⟩
abbrev cX10_wants : ByteArray := prog_12_method_31_code
def yX10_wants : MethodName := ⟨RX10, "wants", "(III)I"⟩
abbrev cX10_begins1 : ByteArray := prog_12_method_32_code
def yX10_begins1 : MethodName := ⟨RX10, "begins1", "()V"⟩
abbrev cX10_draws : ByteArray := prog_12_method_33_code
def yX10_draws : MethodName := ⟨RX10, "draws", "(I)Z"⟩
abbrev cX10_wantsNow : ByteArray := prog_12_method_34_code
def yX10_wantsNow : MethodName := ⟨RX10, "wantsNow", "(I)I"⟩
abbrev cX10_secondGoes : ByteArray := prog_12_method_35_code
def yX10_secondGoes : MethodName := ⟨RX10, "secondGoes", "()V"⟩
abbrev cX10_goes : ByteArray := prog_12_method_36_code
def yX10_goes : MethodName := ⟨RX10, "goes", "(I)V"⟩
abbrev cX10_sweetOf : ByteArray := prog_12_method_37_code
def yX10_sweetOf : MethodName := ⟨RX10, "sweetOf", "(II)I"⟩
abbrev cX10_glass : ByteArray := prog_12_method_38_code
def yX10_glass : MethodName := ⟨RX10, "glass", "(III)I"⟩
abbrev cX10_level : ByteArray := prog_12_method_39_code
def yX10_level : MethodName := ⟨RX10, "level", "(II)I"⟩
abbrev cX10_isEmpty : ByteArray := prog_12_method_40_code
def yX10_isEmpty : MethodName := ⟨RX10, "isEmpty", "()Z"⟩
abbrev cX10_empty : ByteArray := prog_12_method_41_code
def yX10_empty : MethodName := ⟨RX10, "empty", "()I"⟩
abbrev cX10_more : ByteArray := prog_12_method_42_code
def yX10_more : MethodName := ⟨RX10, "more", "(II)I"⟩
abbrev cX10_turns : ByteArray := prog_12_method_43_code
def yX10_turns : MethodName := ⟨RX10, "turns", "(III)I"⟩
abbrev cX10_areTwo : ByteArray := prog_12_method_44_code
def yX10_areTwo : MethodName := ⟨RX10, "areTwo", "(I)Z"⟩
abbrev cX10_mark : ByteArray := prog_12_method_45_code
def yX10_mark : MethodName := ⟨RX10, "mark", "(I)I"⟩
abbrev cX10_alone : ByteArray := prog_12_method_46_code
def yX10_alone : MethodName := ⟨RX10, "alone", "(II)I"⟩
abbrev cX10_halves : ByteArray := prog_12_method_47_code
def yX10_halves : MethodName := ⟨RX10, "halves", "(II)I"⟩
abbrev cX10_isSoon : ByteArray := prog_12_method_48_code
def yX10_isSoon : MethodName := ⟨RX10, "isSoon", "(I)Z"⟩
abbrev cX10_gets : ByteArray := prog_12_method_49_code
def yX10_gets : MethodName := ⟨RX10, "gets", "(II)I"⟩
abbrev cX10_reachFor : ByteArray := prog_12_method_50_code
def yX10_reachFor : MethodName := ⟨RX10, "reachFor", "(III)I"⟩
abbrev cX10_slow : ByteArray := prog_12_method_51_code
def yX10_slow : MethodName := ⟨RX10, "slow", "(II)I"⟩
abbrev cX10_isSelf : ByteArray := prog_12_method_52_code
def yX10_isSelf : MethodName := ⟨RX10, "isSelf", "(IIII)Z"⟩
abbrev cX10_both : ByteArray := prog_12_method_53_code
def yX10_both : MethodName := ⟨RX10, "both", "(II)I"⟩
abbrev cX10_othersGet : ByteArray := prog_12_method_54_code
def yX10_othersGet : MethodName := ⟨RX10, "othersGet", "(III)I"⟩
abbrev cX10_holeFor : ByteArray := prog_12_method_55_code
def yX10_holeFor : MethodName := ⟨RX10, "holeFor", "(III)I"⟩
abbrev cX10_getsStopping : ByteArray := prog_12_method_56_code
def yX10_getsStopping : MethodName := ⟨RX10, "getsStopping", "(II)I"⟩
abbrev cX10_stopFor : ByteArray := prog_12_method_57_code
def yX10_stopFor : MethodName := ⟨RX10, "stopFor", "(I)I"⟩
abbrev cX10_shortsAre : ByteArray := prog_12_method_58_code
def yX10_shortsAre : MethodName := ⟨RX10, "shortsAre", "(I)I"⟩
abbrev cX10_firstFalse : ByteArray := prog_12_method_59_code
def yX10_firstFalse : MethodName := ⟨RX10, "firstFalse", "(I)I"⟩
abbrev cX10_judge : ByteArray := prog_12_method_60_code
def yX10_judge : MethodName := ⟨RX10, "judge", "(I)I"⟩
abbrev cX10_who : ByteArray := prog_12_method_61_code
def yX10_who : MethodName := ⟨RX10, "who", "(II)I"⟩
abbrev cX10_since : ByteArray := prog_12_method_62_code
def yX10_since : MethodName := ⟨RX10, "since", "(II)I"⟩
abbrev cX10_drawn : ByteArray := prog_12_method_63_code
def yX10_drawn : MethodName := ⟨RX10, "drawn", "(III)I"⟩
abbrev cX10_second : ByteArray := prog_12_method_64_code
def yX10_second : MethodName := ⟨RX10, "second", "()I"⟩
abbrev cX10_fill : ByteArray := prog_12_method_65_code
def yX10_fill : MethodName := ⟨RX10, "fill", "(I)I"⟩
abbrev cX10_ice : ByteArray := prog_12_method_66_code
def yX10_ice : MethodName := ⟨RX10, "ice", "(I)I"⟩
abbrev cX10_led : ByteArray := prog_12_method_67_code
def yX10_led : MethodName := ⟨RX10, "led", "(II)I"⟩
abbrev cX10_image : ByteArray := prog_12_method_68_code
def yX10_image : MethodName := ⟨RX10, "image", "()I"⟩
abbrev cX10_back : ByteArray := prog_12_method_69_code
def yX10_back : MethodName := ⟨RX10, "back", "()I"⟩
abbrev cX10_isBody : ByteArray := prog_12_method_70_code
def yX10_isBody : MethodName := ⟨RX10, "isBody", "(I)Z"⟩
abbrev cX10_kindOf : ByteArray := prog_12_method_71_code
def yX10_kindOf : MethodName := ⟨RX10, "kindOf", "(I)I"⟩
abbrev cX10_body : ByteArray := prog_12_method_72_code
def yX10_body : MethodName := ⟨RX10, "body", "(I)I"⟩
abbrev cX10_above : ByteArray := prog_12_method_73_code
def yX10_above : MethodName := ⟨RX10, "above", "(I)I"⟩
abbrev cX10_begins : ByteArray := prog_12_method_74_code
def yX10_begins : MethodName := ⟨RX10, "begins", "(I)V"⟩
abbrev cX10_drawsAs : ByteArray := prog_12_method_75_code
def yX10_drawsAs : MethodName := ⟨RX10, "drawsAs", "(II)I"⟩
abbrev cX10_getsAs : ByteArray := prog_12_method_76_code
def yX10_getsAs : MethodName := ⟨RX10, "getsAs", "(II)I"⟩
abbrev cX10_restsAs : ByteArray := prog_12_method_77_code
def yX10_restsAs : MethodName := ⟨RX10, "restsAs", "(II)I"⟩
abbrev cX10_tellsAs : ByteArray := prog_12_method_78_code
def yX10_tellsAs : MethodName := ⟨RX10, "tellsAs", "(II)I"⟩
abbrev cX10_act : ByteArray := prog_12_method_79_code
def yX10_act : MethodName := ⟨RX10, "act", "(III)I"⟩
abbrev cX10_trace : ByteArray := prog_12_method_80_code
def yX10_trace : MethodName := ⟨RX10, "trace", "(I)I"⟩
abbrev cX10_isShelf : ByteArray := prog_12_method_81_code
def yX10_isShelf : MethodName := ⟨RX10, "isShelf", "(I)Z"⟩
abbrev cX10_keep : ByteArray := prog_12_method_82_code
def yX10_keep : MethodName := ⟨RX10, "keep", "(II)I"⟩
abbrev cX10_row : ByteArray := prog_12_method_83_code
def yX10_row : MethodName := ⟨RX10, "row", "(III)I"⟩
abbrev cX10_refusal : ByteArray := prog_12_method_84_code
def yX10_refusal : MethodName := ⟨RX10, "refusal", "(II)I"⟩
abbrev cX10_asSort : ByteArray := prog_12_method_85_code
def yX10_asSort : MethodName := ⟨RX10, "asSort", "(IJ)J"⟩
abbrev cX10_put : ByteArray := prog_12_method_86_code
def yX10_put : MethodName := ⟨RX10, "put", "(IIJ)I"⟩
abbrev cX10_element : ByteArray := prog_12_method_87_code
def yX10_element : MethodName := ⟨RX10, "element", "(II)J"⟩
abbrev cX10_shift : ByteArray := prog_12_method_88_code
def yX10_shift : MethodName := ⟨RX10, "shift", "(IIIII)I"⟩
abbrev cX10_taken : ByteArray := prog_12_method_89_code
def yX10_taken : MethodName := ⟨RX10, "taken", "(II)I"⟩
abbrev cX10_count : ByteArray := prog_12_method_90_code
def yX10_count : MethodName := ⟨RX10, "count", "(I)I"⟩
def RL : String := "TwoStrawsLaw"
abbrev cL_law : ByteArray := code
def yL_law : MethodName := ⟨RL, "law", "([I)Z"⟩
abbrev vwCl : List vw_C := [(RX0, TX0, 5), (RX1, TX1, 12), (RX2, TX2, 4), (RX3, TX3, 2), (RX4, TX4, 4), (RX5, TX5, 4), (RX6, TX6, 4), (RX7, TX7, 5), (RX8, TX8, 8), (RX9, TX9, 10), (RX10, TX10, 53)]
