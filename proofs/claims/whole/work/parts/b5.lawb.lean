set_option maxRecDepth 100000 in
theorem lw_reachFor {X : Cx} (C : Ok X RL cL_law 4 100 91) (hx : x_n X = 0) {i a1 a2 a3 a4 a5 : Int32} (ha : Arg (x_g X) i 1 a1 ∧ Arg (x_g X) i 2 a2 ∧ Arg (x_g X) i 3 a3 ∧ Arg (x_g X) i 4 a4 ∧ Arg (x_g X) i 5 a5) {I : Is} {J : Js} {b : Bool} (hR : Rel I J b) (k : ∀ I2 J2 b2, Rel I2 J2 b2 → Aw X 1506 (LwL i) [] (st9 I2 J2 b2)) : Aw X 664 (LwL i) [] (st9 I J b) := by
  refine r_aload_n C dL_law_664 rfl ?_
  refine r_aload_n C dL_law_665 rfl ?_
  refine r_iload_n C dL_law_666 rfl ?_
  refine r_iconst C (v := 1) dL_law_667 (by decide) ?_
  refine r_iadd C dL_law_668 ?_
  refine r_arg C dL_law_669 ha.1 ?_
  refine r_aload_n C dL_law_670 rfl ?_
  refine r_iload_n C dL_law_671 rfl ?_
  refine r_iconst C (v := 2) dL_law_672 (by decide) ?_
  refine r_iadd C dL_law_673 ?_
  refine r_arg C dL_law_674 ha.2.1 ?_
  refine r_aload_n C dL_law_675 rfl ?_
  refine r_iload_n C dL_law_676 rfl ?_
  refine r_iconst C (v := 3) dL_law_677 (by decide) ?_
  refine r_iadd C dL_law_678 ?_
  refine r_arg C dL_law_679 ha.2.2.1 ?_
  refine cW (ci := 9) C hx (sX9_reachFor (d := 99) (by decide) _ _ _ I J b (pc_s0 hR) (pc_s3 hR) (pc_NW hR) (pc_TW hR) (pc_v hR)) moX9_reachFor mlL_73 miX9_reachFor msX9_reachFor dL_law_680 rfl rfl rfl rfl rfl (by decide) rfl rfl (ki (fun v1 I1 q1 => ?_))
  have hi : HI I I1 := hi_reachFor q1
  refine r_aload_n C dL_law_683 rfl ?_
  refine r_aload_n C dL_law_684 rfl ?_
  refine r_iload_n C dL_law_685 rfl ?_
  refine r_iconst C (v := 1) dL_law_686 (by decide) ?_
  refine r_iadd C dL_law_687 ?_
  refine r_arg C dL_law_688 ha.1 ?_
  refine r_aload_n C dL_law_689 rfl ?_
  refine r_iload_n C dL_law_690 rfl ?_
  refine r_iconst C (v := 2) dL_law_691 (by decide) ?_
  refine r_iadd C dL_law_692 ?_
  refine r_arg C dL_law_693 ha.2.1 ?_
  refine r_aload_n C dL_law_694 rfl ?_
  refine r_iload_n C dL_law_695 rfl ?_
  refine r_iconst C (v := 3) dL_law_696 (by decide) ?_
  refine r_iadd C dL_law_697 ?_
  refine r_arg C dL_law_698 ha.2.2.1 ?_
  refine cW (ci := 10) C hx (sX10_reachFor (d := 99) (by decide) _ _ _ I1 J b (pm_NM hR hi) (pm_v hR hi)) moX10_reachFor mlL_76 miX10_reachFor msX10_reachFor dL_law_699 rfl rfl rfl rfl rfl (by decide) rfl rfl (ki (fun v2 I2 q2 => ?_))
  have hc := c_reachFor hR q1 q2
  exact r_iceq C (tgt := 1506) dL_law_702 rfl (fun _ => k I2 J b hc.2) (fun h => absurd hc.1.symm h)
set_option maxRecDepth 100000 in
theorem lw_slow {X : Cx} (C : Ok X RL cL_law 4 100 91) (hx : x_n X = 0) {i a1 a2 a3 a4 a5 : Int32} (ha : Arg (x_g X) i 1 a1 ∧ Arg (x_g X) i 2 a2 ∧ Arg (x_g X) i 3 a3 ∧ Arg (x_g X) i 4 a4 ∧ Arg (x_g X) i 5 a5) {I : Is} {J : Js} {b : Bool} (hR : Rel I J b) (k : ∀ I2 J2 b2, Rel I2 J2 b2 → Aw X 1506 (LwL i) [] (st9 I2 J2 b2)) : Aw X 707 (LwL i) [] (st9 I J b) := by
  refine r_aload_n C dL_law_707 rfl ?_
  refine r_aload_n C dL_law_708 rfl ?_
  refine r_iload_n C dL_law_709 rfl ?_
  refine r_iconst C (v := 1) dL_law_710 (by decide) ?_
  refine r_iadd C dL_law_711 ?_
  refine r_arg C dL_law_712 ha.1 ?_
  refine r_aload_n C dL_law_713 rfl ?_
  refine r_iload_n C dL_law_714 rfl ?_
  refine r_iconst C (v := 2) dL_law_715 (by decide) ?_
  refine r_iadd C dL_law_716 ?_
  refine r_arg C dL_law_717 ha.2.1 ?_
  refine cW (ci := 9) C hx (sX9_slow (d := 99) (by decide) _ _ I J b (pc_s0 hR) (pc_s3 hR) (pc_NW hR) (pc_TW hR) (pc_v hR) (pc_st hR)) moX9_slow mlL_77 miX9_slow msX9_slow dL_law_718 rfl rfl rfl rfl rfl (by decide) rfl rfl (ki (fun v1 I1 q1 => ?_))
  have hi : HI I I1 := hi_slow q1
  refine r_aload_n C dL_law_721 rfl ?_
  refine r_aload_n C dL_law_722 rfl ?_
  refine r_iload_n C dL_law_723 rfl ?_
  refine r_iconst C (v := 1) dL_law_724 (by decide) ?_
  refine r_iadd C dL_law_725 ?_
  refine r_arg C dL_law_726 ha.1 ?_
  refine r_aload_n C dL_law_727 rfl ?_
  refine r_iload_n C dL_law_728 rfl ?_
  refine r_iconst C (v := 2) dL_law_729 (by decide) ?_
  refine r_iadd C dL_law_730 ?_
  refine r_arg C dL_law_731 ha.2.1 ?_
  refine cW (ci := 10) C hx (sX10_slow (d := 99) (by decide) _ _ I1 J b (pm_NM hR hi) (pm_v hR hi)) moX10_slow mlL_80 miX10_slow msX10_slow dL_law_732 rfl rfl rfl rfl rfl (by decide) rfl rfl (ki (fun v2 I2 q2 => ?_))
  have hc := c_slow hR q1 q2
  exact r_iceq C (tgt := 1506) dL_law_735 rfl (fun _ => k I2 J b hc.2) (fun h => absurd hc.1.symm h)
set_option maxRecDepth 100000 in
theorem lw_both {X : Cx} (C : Ok X RL cL_law 4 100 91) (hx : x_n X = 0) {i a1 a2 a3 a4 a5 : Int32} (ha : Arg (x_g X) i 1 a1 ∧ Arg (x_g X) i 2 a2 ∧ Arg (x_g X) i 3 a3 ∧ Arg (x_g X) i 4 a4 ∧ Arg (x_g X) i 5 a5) {I : Is} {J : Js} {b : Bool} (hR : Rel I J b) (k : ∀ I2 J2 b2, Rel I2 J2 b2 → Aw X 1506 (LwL i) [] (st9 I2 J2 b2)) : Aw X 740 (LwL i) [] (st9 I J b) := by
  refine r_aload_n C dL_law_740 rfl ?_
  refine r_aload_n C dL_law_741 rfl ?_
  refine r_iload_n C dL_law_742 rfl ?_
  refine r_iconst C (v := 1) dL_law_743 (by decide) ?_
  refine r_iadd C dL_law_744 ?_
  refine r_arg C dL_law_745 ha.1 ?_
  refine r_aload_n C dL_law_746 rfl ?_
  refine r_iload_n C dL_law_747 rfl ?_
  refine r_iconst C (v := 2) dL_law_748 (by decide) ?_
  refine r_iadd C dL_law_749 ?_
  refine r_arg C dL_law_750 ha.2.1 ?_
  refine cW (ci := 9) C hx (sX9_both (d := 99) (by decide) _ _ I J b (pc_s0 hR) (pc_s3 hR) (pc_NW hR) (pc_TW hR) (pc_v hR) (pc_st hR)) moX9_both mlL_81 miX9_both msX9_both dL_law_751 rfl rfl rfl rfl rfl (by decide) rfl rfl (ki (fun v1 I1 q1 => ?_))
  have hi : HI I I1 := hi_both q1
  refine r_aload_n C dL_law_754 rfl ?_
  refine r_aload_n C dL_law_755 rfl ?_
  refine r_iload_n C dL_law_756 rfl ?_
  refine r_iconst C (v := 1) dL_law_757 (by decide) ?_
  refine r_iadd C dL_law_758 ?_
  refine r_arg C dL_law_759 ha.1 ?_
  refine r_aload_n C dL_law_760 rfl ?_
  refine r_iload_n C dL_law_761 rfl ?_
  refine r_iconst C (v := 2) dL_law_762 (by decide) ?_
  refine r_iadd C dL_law_763 ?_
  refine r_arg C dL_law_764 ha.2.1 ?_
  refine cW (ci := 10) C hx (sX10_both (d := 99) (by decide) _ _ I1 J b (pm_NM hR hi) (pm_v hR hi)) moX10_both mlL_84 miX10_both msX10_both dL_law_765 rfl rfl rfl rfl rfl (by decide) rfl rfl (ki (fun v2 I2 q2 => ?_))
  have hc := c_both hR q1 q2
  exact r_iceq C (tgt := 1506) dL_law_768 rfl (fun _ => k I2 J b hc.2) (fun h => absurd hc.1.symm h)
set_option maxRecDepth 100000 in
theorem lw_holeFor {X : Cx} (C : Ok X RL cL_law 4 100 91) (hx : x_n X = 0) {i a1 a2 a3 a4 a5 : Int32} (ha : Arg (x_g X) i 1 a1 ∧ Arg (x_g X) i 2 a2 ∧ Arg (x_g X) i 3 a3 ∧ Arg (x_g X) i 4 a4 ∧ Arg (x_g X) i 5 a5) {I : Is} {J : Js} {b : Bool} (hR : Rel I J b) (k : ∀ I2 J2 b2, Rel I2 J2 b2 → Aw X 1506 (LwL i) [] (st9 I2 J2 b2)) : Aw X 773 (LwL i) [] (st9 I J b) := by
  refine r_aload_n C dL_law_773 rfl ?_
  refine r_aload_n C dL_law_774 rfl ?_
  refine r_iload_n C dL_law_775 rfl ?_
  refine r_iconst C (v := 1) dL_law_776 (by decide) ?_
  refine r_iadd C dL_law_777 ?_
  refine r_arg C dL_law_778 ha.1 ?_
  refine r_aload_n C dL_law_779 rfl ?_
  refine r_iload_n C dL_law_780 rfl ?_
  refine r_iconst C (v := 2) dL_law_781 (by decide) ?_
  refine r_iadd C dL_law_782 ?_
  refine r_arg C dL_law_783 ha.2.1 ?_
  refine r_aload_n C dL_law_784 rfl ?_
  refine r_iload_n C dL_law_785 rfl ?_
  refine r_iconst C (v := 3) dL_law_786 (by decide) ?_
  refine r_iadd C dL_law_787 ?_
  refine r_arg C dL_law_788 ha.2.2.1 ?_
  refine cW (ci := 9) C hx (sX9_holeFor (d := 99) (by decide) _ _ _ I J b (pc_s0 hR) (pc_s3 hR) (pc_NW hR) (pc_TW hR) (pc_v hR)) moX9_holeFor mlL_85 miX9_holeFor msX9_holeFor dL_law_789 rfl rfl rfl rfl rfl (by decide) rfl rfl (ki (fun v1 I1 q1 => ?_))
  have hi : HI I I1 := hi_holeFor q1
  refine r_aload_n C dL_law_792 rfl ?_
  refine r_aload_n C dL_law_793 rfl ?_
  refine r_iload_n C dL_law_794 rfl ?_
  refine r_iconst C (v := 1) dL_law_795 (by decide) ?_
  refine r_iadd C dL_law_796 ?_
  refine r_arg C dL_law_797 ha.1 ?_
  refine r_aload_n C dL_law_798 rfl ?_
  refine r_iload_n C dL_law_799 rfl ?_
  refine r_iconst C (v := 2) dL_law_800 (by decide) ?_
  refine r_iadd C dL_law_801 ?_
  refine r_arg C dL_law_802 ha.2.1 ?_
  refine r_aload_n C dL_law_803 rfl ?_
  refine r_iload_n C dL_law_804 rfl ?_
  refine r_iconst C (v := 3) dL_law_805 (by decide) ?_
  refine r_iadd C dL_law_806 ?_
  refine r_arg C dL_law_807 ha.2.2.1 ?_
  refine cW (ci := 10) C hx (sX10_holeFor (d := 99) (by decide) _ _ _ I1 J b (pm_NM hR hi) (pm_v hR hi)) moX10_holeFor mlL_88 miX10_holeFor msX10_holeFor dL_law_808 rfl rfl rfl rfl rfl (by decide) rfl rfl (ki (fun v2 I2 q2 => ?_))
  have hc := c_holeFor hR q1 q2
  exact r_iceq C (tgt := 1506) dL_law_811 rfl (fun _ => k I2 J b hc.2) (fun h => absurd hc.1.symm h)
set_option maxRecDepth 100000 in
theorem lw_stopFor {X : Cx} (C : Ok X RL cL_law 4 100 91) (hx : x_n X = 0) {i a1 a2 a3 a4 a5 : Int32} (ha : Arg (x_g X) i 1 a1 ∧ Arg (x_g X) i 2 a2 ∧ Arg (x_g X) i 3 a3 ∧ Arg (x_g X) i 4 a4 ∧ Arg (x_g X) i 5 a5) {I : Is} {J : Js} {b : Bool} (hR : Rel I J b) (k : ∀ I2 J2 b2, Rel I2 J2 b2 → Aw X 1506 (LwL i) [] (st9 I2 J2 b2)) : Aw X 816 (LwL i) [] (st9 I J b) := by
  refine r_aload_n C dL_law_816 rfl ?_
  refine r_aload_n C dL_law_817 rfl ?_
  refine r_iload_n C dL_law_818 rfl ?_
  refine r_iconst C (v := 1) dL_law_819 (by decide) ?_
  refine r_iadd C dL_law_820 ?_
  refine r_arg C dL_law_821 ha.1 ?_
  refine cW (ci := 9) C hx (sX9_stopFor (d := 99) (by decide) _ I J b (pc_s0 hR) (pc_s3 hR) (pc_NW hR) (pc_TW hR) (pc_v hR)) moX9_stopFor mlL_89 miX9_stopFor msX9_stopFor dL_law_822 rfl rfl rfl rfl rfl (by decide) rfl rfl (ki (fun v1 I1 q1 => ?_))
  have hi : HI I I1 := hi_stopFor q1
  refine r_aload_n C dL_law_825 rfl ?_
  refine r_aload_n C dL_law_826 rfl ?_
  refine r_iload_n C dL_law_827 rfl ?_
  refine r_iconst C (v := 1) dL_law_828 (by decide) ?_
  refine r_iadd C dL_law_829 ?_
  refine r_arg C dL_law_830 ha.1 ?_
  refine cW (ci := 10) C hx (sX10_stopFor (d := 99) (by decide) _ I1 J b (pm_NM hR hi) (pm_v hR hi) (pm_ps hR hi)) moX10_stopFor mlL_92 miX10_stopFor msX10_stopFor dL_law_831 rfl rfl rfl rfl rfl (by decide) rfl rfl (ki (fun v2 I2 q2 => ?_))
  have hc := c_stopFor hR q1 q2
  exact r_iceq C (tgt := 1506) dL_law_834 rfl (fun _ => k I2 J b hc.2) (fun h => absurd hc.1.symm h)
set_option maxRecDepth 100000 in
theorem lw_judge {X : Cx} (C : Ok X RL cL_law 4 100 91) (hx : x_n X = 0) {i a1 a2 a3 a4 a5 : Int32} (ha : Arg (x_g X) i 1 a1 ∧ Arg (x_g X) i 2 a2 ∧ Arg (x_g X) i 3 a3 ∧ Arg (x_g X) i 4 a4 ∧ Arg (x_g X) i 5 a5) {I : Is} {J : Js} {b : Bool} (hR : Rel I J b) (k : ∀ I2 J2 b2, Rel I2 J2 b2 → Aw X 1506 (LwL i) [] (st9 I2 J2 b2)) : Aw X 839 (LwL i) [] (st9 I J b) := by
  refine r_aload_n C dL_law_839 rfl ?_
  refine r_aload_n C dL_law_840 rfl ?_
  refine r_iload_n C dL_law_841 rfl ?_
  refine r_iconst C (v := 1) dL_law_842 (by decide) ?_
  refine r_iadd C dL_law_843 ?_
  refine r_arg C dL_law_844 ha.1 ?_
  refine cW (ci := 9) C hx (sX9_judge (d := 99) (by decide) _ I J b (pc_s0 hR) (pc_s3 hR) (pc_NW hR) (pc_TW hR) (pc_v hR) (pc_sz hR)) moX9_judge mlL_93 miX9_judge msX9_judge dL_law_845 rfl rfl rfl rfl rfl (by decide) rfl rfl (ki (fun v1 I1 q1 => ?_))
  have hi : HI I I1 := hi_judge q1
  refine r_aload_n C dL_law_848 rfl ?_
  refine r_aload_n C dL_law_849 rfl ?_
  refine r_iload_n C dL_law_850 rfl ?_
  refine r_iconst C (v := 1) dL_law_851 (by decide) ?_
  refine r_iadd C dL_law_852 ?_
  refine r_arg C dL_law_853 ha.1 ?_
  refine cW (ci := 10) C hx (sX10_judge (d := 99) (by decide) _ I1 J b (pm_NM hR hi) (pm_v hR hi) (pm_sz hR hi)) moX10_judge mlL_96 miX10_judge msX10_judge dL_law_854 rfl rfl rfl rfl rfl (by decide) rfl rfl (ki (fun v2 I2 q2 => ?_))
  have hc := c_judge hR q1 q2
  exact r_iceq C (tgt := 1506) dL_law_857 rfl (fun _ => k I2 J b hc.2) (fun h => absurd hc.1.symm h)
set_option maxRecDepth 100000 in
theorem lw_who {X : Cx} (C : Ok X RL cL_law 4 100 91) (hx : x_n X = 0) {i a1 a2 a3 a4 a5 : Int32} (ha : Arg (x_g X) i 1 a1 ∧ Arg (x_g X) i 2 a2 ∧ Arg (x_g X) i 3 a3 ∧ Arg (x_g X) i 4 a4 ∧ Arg (x_g X) i 5 a5) {I : Is} {J : Js} {b : Bool} (hR : Rel I J b) (k : ∀ I2 J2 b2, Rel I2 J2 b2 → Aw X 1506 (LwL i) [] (st9 I2 J2 b2)) : Aw X 862 (LwL i) [] (st9 I J b) := by
  refine r_aload_n C dL_law_862 rfl ?_
  refine r_aload_n C dL_law_863 rfl ?_
  refine r_iload_n C dL_law_864 rfl ?_
  refine r_iconst C (v := 1) dL_law_865 (by decide) ?_
  refine r_iadd C dL_law_866 ?_
  refine r_arg C dL_law_867 ha.1 ?_
  refine r_aload_n C dL_law_868 rfl ?_
  refine r_iload_n C dL_law_869 rfl ?_
  refine r_iconst C (v := 2) dL_law_870 (by decide) ?_
  refine r_iadd C dL_law_871 ?_
  refine r_arg C dL_law_872 ha.2.1 ?_
  refine cW (ci := 9) C hx (sX9_who (d := 99) (by decide) _ _ I J b (pc_s0 hR) (pc_s3 hR) (pc_NW hR) (pc_TW hR) (pc_v hR) (pc_sz hR)) moX9_who mlL_97 miX9_who msX9_who dL_law_873 rfl rfl rfl rfl rfl (by decide) rfl rfl (ki (fun v1 I1 q1 => ?_))
  have hi : HI I I1 := hi_who q1
  refine r_aload_n C dL_law_876 rfl ?_
  refine r_aload_n C dL_law_877 rfl ?_
  refine r_iload_n C dL_law_878 rfl ?_
  refine r_iconst C (v := 1) dL_law_879 (by decide) ?_
  refine r_iadd C dL_law_880 ?_
  refine r_arg C dL_law_881 ha.1 ?_
  refine r_aload_n C dL_law_882 rfl ?_
  refine r_iload_n C dL_law_883 rfl ?_
  refine r_iconst C (v := 2) dL_law_884 (by decide) ?_
  refine r_iadd C dL_law_885 ?_
  refine r_arg C dL_law_886 ha.2.1 ?_
  refine cW (ci := 10) C hx (sX10_who (d := 99) (by decide) _ _ I1 J b (pm_NM hR hi) (pm_v hR hi) (pm_sz hR hi)) moX10_who mlL_100 miX10_who msX10_who dL_law_887 rfl rfl rfl rfl rfl (by decide) rfl rfl (ki (fun v2 I2 q2 => ?_))
  have hc := c_who hR q1 q2
  exact r_iceq C (tgt := 1506) dL_law_890 rfl (fun _ => k I2 J b hc.2) (fun h => absurd hc.1.symm h)
set_option maxRecDepth 100000 in
theorem lw_since {X : Cx} (C : Ok X RL cL_law 4 100 91) (hx : x_n X = 0) {i a1 a2 a3 a4 a5 : Int32} (ha : Arg (x_g X) i 1 a1 ∧ Arg (x_g X) i 2 a2 ∧ Arg (x_g X) i 3 a3 ∧ Arg (x_g X) i 4 a4 ∧ Arg (x_g X) i 5 a5) {I : Is} {J : Js} {b : Bool} (hR : Rel I J b) (k : ∀ I2 J2 b2, Rel I2 J2 b2 → Aw X 1506 (LwL i) [] (st9 I2 J2 b2)) : Aw X 895 (LwL i) [] (st9 I J b) := by
  refine r_aload_n C dL_law_895 rfl ?_
  refine r_aload_n C dL_law_896 rfl ?_
  refine r_iload_n C dL_law_897 rfl ?_
  refine r_iconst C (v := 1) dL_law_898 (by decide) ?_
  refine r_iadd C dL_law_899 ?_
  refine r_arg C dL_law_900 ha.1 ?_
  refine r_aload_n C dL_law_901 rfl ?_
  refine r_iload_n C dL_law_902 rfl ?_
  refine r_iconst C (v := 2) dL_law_903 (by decide) ?_
  refine r_iadd C dL_law_904 ?_
  refine r_arg C dL_law_905 ha.2.1 ?_
  refine cW (ci := 9) C hx (sX9_since (d := 99) (by decide) _ _ I J b (pc_s0 hR) (pc_s3 hR) (pc_NW hR) (pc_TW hR) (pc_v hR) (pc_sz hR) (pc_sec hR)) moX9_since mlL_101 miX9_since msX9_since dL_law_906 rfl rfl rfl rfl rfl (by decide) rfl rfl (ki (fun v1 I1 q1 => ?_))
  have hi : HI I I1 := hi_since q1
  refine r_aload_n C dL_law_909 rfl ?_
  refine r_aload_n C dL_law_910 rfl ?_
  refine r_iload_n C dL_law_911 rfl ?_
  refine r_iconst C (v := 1) dL_law_912 (by decide) ?_
  refine r_iadd C dL_law_913 ?_
  refine r_arg C dL_law_914 ha.1 ?_
  refine r_aload_n C dL_law_915 rfl ?_
  refine r_iload_n C dL_law_916 rfl ?_
  refine r_iconst C (v := 2) dL_law_917 (by decide) ?_
  refine r_iadd C dL_law_918 ?_
  refine r_arg C dL_law_919 ha.2.1 ?_
  refine cW (ci := 10) C hx (sX10_since (d := 99) (by decide) _ _ I1 J b (pm_NM hR hi) (pm_v hR hi) (pm_sz hR hi) (pm_ps hR hi)) moX10_since mlL_104 miX10_since msX10_since dL_law_920 rfl rfl rfl rfl rfl (by decide) rfl rfl (ki (fun v2 I2 q2 => ?_))
  have hc := c_since hR q1 q2
  exact r_iceq C (tgt := 1506) dL_law_923 rfl (fun _ => k I2 J b hc.2) (fun h => absurd hc.1.symm h)
set_option maxRecDepth 100000 in
theorem lw_drawn {X : Cx} (C : Ok X RL cL_law 4 100 91) (hx : x_n X = 0) {i a1 a2 a3 a4 a5 : Int32} (ha : Arg (x_g X) i 1 a1 ∧ Arg (x_g X) i 2 a2 ∧ Arg (x_g X) i 3 a3 ∧ Arg (x_g X) i 4 a4 ∧ Arg (x_g X) i 5 a5) {I : Is} {J : Js} {b : Bool} (hR : Rel I J b) (k : ∀ I2 J2 b2, Rel I2 J2 b2 → Aw X 1506 (LwL i) [] (st9 I2 J2 b2)) : Aw X 928 (LwL i) [] (st9 I J b) := by
  refine r_aload_n C dL_law_928 rfl ?_
  refine r_aload_n C dL_law_929 rfl ?_
  refine r_iload_n C dL_law_930 rfl ?_
  refine r_iconst C (v := 1) dL_law_931 (by decide) ?_
  refine r_iadd C dL_law_932 ?_
  refine r_arg C dL_law_933 ha.1 ?_
  refine r_aload_n C dL_law_934 rfl ?_
  refine r_iload_n C dL_law_935 rfl ?_
  refine r_iconst C (v := 2) dL_law_936 (by decide) ?_
  refine r_iadd C dL_law_937 ?_
  refine r_arg C dL_law_938 ha.2.1 ?_
  refine r_aload_n C dL_law_939 rfl ?_
  refine r_iload_n C dL_law_940 rfl ?_
  refine r_iconst C (v := 3) dL_law_941 (by decide) ?_
  refine r_iadd C dL_law_942 ?_
  refine r_arg C dL_law_943 ha.2.2.1 ?_
  refine cW (ci := 9) C hx (sX9_drawn (d := 99) (by decide) _ _ _ I J b (pc_s0 hR) (pc_s3 hR) (pc_NW hR) (pc_TW hR) (pc_v hR)) moX9_drawn mlL_105 miX9_drawn msX9_drawn dL_law_944 rfl rfl rfl rfl rfl (by decide) rfl rfl (ki (fun v1 I1 q1 => ?_))
  have hi : HI I I1 := hi_drawn q1
  refine r_aload_n C dL_law_947 rfl ?_
  refine r_aload_n C dL_law_948 rfl ?_
  refine r_iload_n C dL_law_949 rfl ?_
  refine r_iconst C (v := 1) dL_law_950 (by decide) ?_
  refine r_iadd C dL_law_951 ?_
  refine r_arg C dL_law_952 ha.1 ?_
  refine r_aload_n C dL_law_953 rfl ?_
  refine r_iload_n C dL_law_954 rfl ?_
  refine r_iconst C (v := 2) dL_law_955 (by decide) ?_
  refine r_iadd C dL_law_956 ?_
  refine r_arg C dL_law_957 ha.2.1 ?_
  refine r_aload_n C dL_law_958 rfl ?_
  refine r_iload_n C dL_law_959 rfl ?_
  refine r_iconst C (v := 3) dL_law_960 (by decide) ?_
  refine r_iadd C dL_law_961 ?_
  refine r_arg C dL_law_962 ha.2.2.1 ?_
  refine cW (ci := 10) C hx (sX10_drawn (d := 99) (by decide) _ _ _ I1 J b (pm_NM hR hi) (pm_v hR hi)) moX10_drawn mlL_108 miX10_drawn msX10_drawn dL_law_963 rfl rfl rfl rfl rfl (by decide) rfl rfl (ki (fun v2 I2 q2 => ?_))
  have hc := c_drawn hR q1 q2
  exact r_iceq C (tgt := 1506) dL_law_966 rfl (fun _ => k I2 J b hc.2) (fun h => absurd hc.1.symm h)
set_option maxRecDepth 100000 in
theorem lw_second {X : Cx} (C : Ok X RL cL_law 4 100 91) (hx : x_n X = 0) {i a1 a2 a3 a4 a5 : Int32} (ha : Arg (x_g X) i 1 a1 ∧ Arg (x_g X) i 2 a2 ∧ Arg (x_g X) i 3 a3 ∧ Arg (x_g X) i 4 a4 ∧ Arg (x_g X) i 5 a5) {I : Is} {J : Js} {b : Bool} (hR : Rel I J b) (k : ∀ I2 J2 b2, Rel I2 J2 b2 → Aw X 1506 (LwL i) [] (st9 I2 J2 b2)) : Aw X 971 (LwL i) [] (st9 I J b) := by
  refine r_aload_n C dL_law_971 rfl ?_
  refine cW (ci := 9) C hx (sX9_second (d := 99) (by decide) I J b (pc_NW hR) (pc_TW hR) (pc_v hR)) moX9_second mlL_109 miX9_second msX9_second dL_law_972 rfl rfl rfl rfl rfl (by decide) rfl rfl (ki (fun v1 I1 q1 => ?_))
  have hi : HI I I1 := by
    rcases q1 with ⟨-, -, e⟩ | ⟨-, IX, -, -, -, hF, -, e⟩
    · exact HI.rf e
    · rw [e]; exact (HI.fr hF (by decide)).tr (HI.u2 (by decide))
  refine r_aload_n C dL_law_975 rfl ?_
  refine cW (ci := 10) C hx (sX10_second (d := 99) (by decide) I1 J b (pm_NM hR hi) (pm_v hR hi)) moX10_second mlL_112 miX10_second msX10_second dL_law_976 rfl rfl rfl rfl rfl (by decide) rfl rfl (ki (fun v2 I2 q2 => ?_))
  have hc : v2 = v1 ∧ Rel I2 J b := by
    rcases q1 with q | ⟨c, IX, q⟩
    · exact c_second (IX := I) hR (Or.inl q) q2
    · exact c_second (IX := IX) hR (Or.inr ⟨c, q⟩) q2
  exact r_iceq C (tgt := 1506) dL_law_979 rfl (fun _ => k I2 J b hc.2) (fun h => absurd hc.1.symm h)
set_option maxRecDepth 100000 in
theorem lw_fill {X : Cx} (C : Ok X RL cL_law 4 100 91) (hx : x_n X = 0) {i a1 a2 a3 a4 a5 : Int32} (ha : Arg (x_g X) i 1 a1 ∧ Arg (x_g X) i 2 a2 ∧ Arg (x_g X) i 3 a3 ∧ Arg (x_g X) i 4 a4 ∧ Arg (x_g X) i 5 a5) {I : Is} {J : Js} {b : Bool} (hR : Rel I J b) (k : ∀ I2 J2 b2, Rel I2 J2 b2 → Aw X 1506 (LwL i) [] (st9 I2 J2 b2)) : Aw X 984 (LwL i) [] (st9 I J b) := by
  refine r_aload_n C dL_law_984 rfl ?_
  refine r_aload_n C dL_law_985 rfl ?_
  refine r_iload_n C dL_law_986 rfl ?_
  refine r_iconst C (v := 1) dL_law_987 (by decide) ?_
  refine r_iadd C dL_law_988 ?_
  refine r_arg C dL_law_989 ha.1 ?_
  refine cW (ci := 9) C hx (sX9_fill (d := 99) (by decide) _ I J b) moX9_fill mlL_113 miX9_fill msX9_fill dL_law_990 rfl rfl rfl rfl rfl (by decide) rfl rfl (ki (fun v1 I1 q1 => ?_))
  have hi : HI I I1 := hi_fill q1
  refine r_aload_n C dL_law_993 rfl ?_
  refine r_aload_n C dL_law_994 rfl ?_
  refine r_iload_n C dL_law_995 rfl ?_
  refine r_iconst C (v := 1) dL_law_996 (by decide) ?_
  refine r_iadd C dL_law_997 ?_
  refine r_arg C dL_law_998 ha.1 ?_
  refine cW (ci := 10) C hx (sX10_fill (d := 99) (by decide) _ I1 J b) moX10_fill mlL_116 miX10_fill msX10_fill dL_law_999 rfl rfl rfl rfl rfl (by decide) rfl rfl (ki (fun v2 I2 q2 => ?_))
  have hc := c_fill hR q1 q2
  exact r_iceq C (tgt := 1506) dL_law_1002 rfl (fun _ => k I2 J b hc.2) (fun h => absurd hc.1.symm h)
set_option maxRecDepth 100000 in
theorem lw_ice {X : Cx} (C : Ok X RL cL_law 4 100 91) (hx : x_n X = 0) {i a1 a2 a3 a4 a5 : Int32} (ha : Arg (x_g X) i 1 a1 ∧ Arg (x_g X) i 2 a2 ∧ Arg (x_g X) i 3 a3 ∧ Arg (x_g X) i 4 a4 ∧ Arg (x_g X) i 5 a5) {I : Is} {J : Js} {b : Bool} (hR : Rel I J b) (k : ∀ I2 J2 b2, Rel I2 J2 b2 → Aw X 1506 (LwL i) [] (st9 I2 J2 b2)) : Aw X 1007 (LwL i) [] (st9 I J b) := by
  refine r_aload_n C dL_law_1007 rfl ?_
  refine r_aload_n C dL_law_1008 rfl ?_
  refine r_iload_n C dL_law_1009 rfl ?_
  refine r_iconst C (v := 1) dL_law_1010 (by decide) ?_
  refine r_iadd C dL_law_1011 ?_
  refine r_arg C dL_law_1012 ha.1 ?_
  refine cW (ci := 9) C hx (sX9_ice (d := 99) (by decide) _ I J b) moX9_ice mlL_117 miX9_ice msX9_ice dL_law_1013 rfl rfl rfl rfl rfl (by decide) rfl rfl (ki (fun v1 I1 q1 => ?_))
  have hi : HI I I1 := by rw [q1.2]; exact hi_ice I _
  refine r_aload_n C dL_law_1016 rfl ?_
  refine r_aload_n C dL_law_1017 rfl ?_
  refine r_iload_n C dL_law_1018 rfl ?_
  refine r_iconst C (v := 1) dL_law_1019 (by decide) ?_
  refine r_iadd C dL_law_1020 ?_
  refine r_arg C dL_law_1021 ha.1 ?_
  refine cW (ci := 10) C hx (sX10_ice (d := 99) (by decide) _ I1 J b) moX10_ice mlL_120 miX10_ice msX10_ice dL_law_1022 rfl rfl rfl rfl rfl (by decide) rfl rfl (ki (fun v2 I2 q2 => ?_))
  have hc := c_ice hR q1 q2
  exact r_iceq C (tgt := 1506) dL_law_1025 rfl (fun _ => k I2 J b hc.2) (fun h => absurd hc.1.symm h)
set_option maxRecDepth 100000 in
theorem lw_led {X : Cx} (C : Ok X RL cL_law 4 100 91) (hx : x_n X = 0) {i a1 a2 a3 a4 a5 : Int32} (ha : Arg (x_g X) i 1 a1 ∧ Arg (x_g X) i 2 a2 ∧ Arg (x_g X) i 3 a3 ∧ Arg (x_g X) i 4 a4 ∧ Arg (x_g X) i 5 a5) {I : Is} {J : Js} {b : Bool} (hR : Rel I J b) (k : ∀ I2 J2 b2, Rel I2 J2 b2 → Aw X 1506 (LwL i) [] (st9 I2 J2 b2)) : Aw X 1030 (LwL i) [] (st9 I J b) := by
  refine r_aload_n C dL_law_1030 rfl ?_
  refine r_aload_n C dL_law_1031 rfl ?_
  refine r_iload_n C dL_law_1032 rfl ?_
  refine r_iconst C (v := 1) dL_law_1033 (by decide) ?_
  refine r_iadd C dL_law_1034 ?_
  refine r_arg C dL_law_1035 ha.1 ?_
  refine r_aload_n C dL_law_1036 rfl ?_
  refine r_iload_n C dL_law_1037 rfl ?_
  refine r_iconst C (v := 2) dL_law_1038 (by decide) ?_
  refine r_iadd C dL_law_1039 ?_
  refine r_arg C dL_law_1040 ha.2.1 ?_
  refine cW (ci := 9) C hx (sX9_led (d := 99) (by decide) _ _ I J b (pc_s0 hR) (pc_s3 hR)) moX9_led mlL_121 miX9_led msX9_led dL_law_1041 rfl rfl rfl rfl rfl (by decide) rfl rfl (kp ?_)
  have hi : HI I I := HI.rf rfl
  refine r_aload_n C dL_law_1044 rfl ?_
  refine r_aload_n C dL_law_1045 rfl ?_
  refine r_iload_n C dL_law_1046 rfl ?_
  refine r_iconst C (v := 1) dL_law_1047 (by decide) ?_
  refine r_iadd C dL_law_1048 ?_
  refine r_arg C dL_law_1049 ha.1 ?_
  refine r_aload_n C dL_law_1050 rfl ?_
  refine r_iload_n C dL_law_1051 rfl ?_
  refine r_iconst C (v := 2) dL_law_1052 (by decide) ?_
  refine r_iadd C dL_law_1053 ?_
  refine r_arg C dL_law_1054 ha.2.1 ?_
  refine cW (ci := 10) C hx (sX10_led (d := 99) (by decide) _ _ I J b (pm_s0 hR hi) (pm_s3 hR hi)) moX10_led mlL_124 miX10_led msX10_led dL_law_1055 rfl rfl rfl rfl rfl (by decide) rfl rfl (kp ?_)
  have hc := c_led (I1 := I) (I2 := I) (k := a1) (w := a2) hR ⟨rfl, rfl⟩ ⟨rfl, rfl⟩
  exact r_iceq C (tgt := 1506) dL_law_1058 rfl (fun _ => k I J b hc.2) (fun h => absurd hc.1.symm h)
set_option maxRecDepth 100000 in
theorem lw_image {X : Cx} (C : Ok X RL cL_law 4 100 91) (hx : x_n X = 0) {i a1 a2 a3 a4 a5 : Int32} (ha : Arg (x_g X) i 1 a1 ∧ Arg (x_g X) i 2 a2 ∧ Arg (x_g X) i 3 a3 ∧ Arg (x_g X) i 4 a4 ∧ Arg (x_g X) i 5 a5) {I : Is} {J : Js} {b : Bool} (hR : Rel I J b) (k : ∀ I2 J2 b2, Rel I2 J2 b2 → Aw X 1506 (LwL i) [] (st9 I2 J2 b2)) : Aw X 1063 (LwL i) [] (st9 I J b) := by
  refine r_aload_n C dL_law_1063 rfl ?_
  refine cW (ci := 9) C hx (sX9_image (d := 99) (by decide) I J b) moX9_image mlL_125 miX9_image msX9_image dL_law_1064 rfl rfl rfl rfl rfl (by decide) rfl rfl (ki (fun v1 I1 q1 => ?_))
  have hi : HI I I1 := by
    obtain ⟨IX, -, e, -, -, -, hF⟩ := q1
    rw [e]; exact (HI.fr hF (by decide)).tr (HI.u2 (by decide))
  refine r_aload_n C dL_law_1067 rfl ?_
  refine cW (ci := 10) C hx (sX10_image (d := 99) (by decide) I1 J b) moX10_image mlL_128 miX10_image msX10_image dL_law_1068 rfl rfl rfl rfl rfl (by decide) rfl rfl (ki (fun v2 I2 q2 => ?_))
  have hc : v2 = v1 ∧ Rel I2 J b := by
    obtain ⟨IX, q⟩ := q1
    exact c_image (IX := IX) hR q q2
  exact r_iceq C (tgt := 1506) dL_law_1071 rfl (fun _ => k I2 J b hc.2) (fun h => absurd hc.1.symm h)
