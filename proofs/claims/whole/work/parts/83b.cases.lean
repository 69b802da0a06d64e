/-! the law: cases -/
section OLC
variable {p : Program} {l : Launch} {e : Env} {s : State} {m : MethodId} {args : Array Value} {below : List Frame} {meth : Method} {c : Code} {G : oG} {b k n ad L jN xC mC : Nat} {xs : Nat → Int32} {Q : State → Prop} {T : oT} {σ : oM} {Bd : Int}
set_option maxRecDepth 20000 in
set_option maxHeartbeats 4000000 in
theorem lc_seat (C : oCx p s m args meth c G b RL cL_law 4) (hX : va_X ad L xs s s.heap) (had : ad < b) (hL : L ≤ 3072) (hmx : xC + 1227 ≤ mC) (hS : oLS T σ xC mC Bd) (hB : Bd ≤ 99000000) (hj : jN + 6 ≤ L) (hk : k + 60 ≤ 600000) (hn : n + 480 ≤ 7302250) (kk : ∀ T2 σ2 k2 n2, k2 ≤ k + 60 → n2 ≤ n + 480 → oLS T2 σ2 xC mC (Bd + 162000) → oW p l e room_1 s m args below meth c G b 4 k2 n2 Q T2 σ2 1689 [some (oa ad), some (og xC), some (og mC), some (oi (jN : Int))] []) : oW p l e room_1 s m args below meth c G b 4 k n Q T σ 805 [some (oa ad), some (og xC), some (og mC), some (oi (jN : Int))] [] := by
  obtain ⟨h8s, h8a, h9s, h9a⟩ := oLS_sh hS
  obtain ⟨Po1, hM1, hP2⟩ := pr_seat hS hmx hB (o_r32 (xs (jN + 1))) (o_r32 (xs (jN + 2)))
  refine r_al1 (q := 806) C dL_law_805 rfl ?_
  refine r_aal0 (q := 807) C dL_law_806 rfl ?_
  refine r_il3 (q := 808) C dL_law_807 rfl ?_
  refine r_iconst (q := 809) C dL_law_808 rfl ?_
  refine r_iadd (q := 810) C dL_law_809 rfl ?_
  refine r_sld (q := 811) (j := jN + 1) C hX had (by omega) (by omega) (by omega) dL_law_810 rfl ?_
  refine r_aal0 (q := 812) C dL_law_811 rfl ?_
  refine r_il3 (q := 813) C dL_law_812 rfl ?_
  refine r_iconst (q := 814) C dL_law_813 rfl ?_
  refine r_iadd (q := 815) C dL_law_814 rfl ?_
  refine r_sld (q := 816) (j := jN + 2) C hX had (by omega) (by omega) (by omega) dL_law_815 rfl ?_
  refine r_callV (q := 819) C hM1 m_L_77 h8s h8a dL_law_816 rfl rfl ⟨Nat.le_of_ble_eq_true rfl, Nat.le_of_ble_eq_true rfl⟩ ⟨by show k + 0 ≤ 600000; omega, by show n + 0 ≤ 7302250; omega⟩ (Nat.le_of_ble_eq_true rfl) (fun r T2 σ2 hp1 => ?_)
  obtain ⟨hT2, z2, hr2, Po2, hM2, hP3⟩ := hP2 r T2 σ2 hp1
  subst hr2
  subst hT2
  simp only [Option.toList_some, List.cons_append, List.nil_append]
  refine r_al2 (q := 820) C dL_law_819 rfl ?_
  refine r_aal0 (q := 821) C dL_law_820 rfl ?_
  refine r_il3 (q := 822) C dL_law_821 rfl ?_
  refine r_iconst (q := 823) C dL_law_822 rfl ?_
  refine r_iadd (q := 824) C dL_law_823 rfl ?_
  refine r_sld (q := 825) (j := jN + 1) C hX had (by omega) (by omega) (by omega) dL_law_824 rfl ?_
  refine r_aal0 (q := 826) C dL_law_825 rfl ?_
  refine r_il3 (q := 827) C dL_law_826 rfl ?_
  refine r_iconst (q := 828) C dL_law_827 rfl ?_
  refine r_iadd (q := 829) C dL_law_828 rfl ?_
  refine r_sld (q := 830) (j := jN + 2) C hX had (by omega) (by omega) (by omega) dL_law_829 rfl ?_
  refine r_callV (q := 833) C hM2 m_L_80 h9s h9a dL_law_830 rfl rfl ⟨Nat.le_of_ble_eq_true rfl, Nat.le_of_ble_eq_true rfl⟩ ⟨by show k + 0 + 0 ≤ 600000; omega, by show n + 0 + 0 ≤ 7302250; omega⟩ (Nat.le_of_ble_eq_true rfl) (fun r3 T3 σ3 hp3 => ?_)
  obtain ⟨hr3, hS3⟩ := hP3 r3 T3 σ3 hp3
  subst hr3
  simp only [Option.toList_some, List.cons_append, List.nil_append]
  refine r_iceq_s (q := 1689) C rfl dL_law_833 (by decide) ?_
  exact kk _ _ _ _ (by omega) (by omega) hS3
set_option maxRecDepth 20000 in
set_option maxHeartbeats 4000000 in
theorem lc_needs (C : oCx p s m args meth c G b RL cL_law 4) (hX : va_X ad L xs s s.heap) (had : ad < b) (hL : L ≤ 3072) (hmx : xC + 1227 ≤ mC) (hS : oLS T σ xC mC Bd) (hB : Bd ≤ 99000000) (hj : jN + 6 ≤ L) (hk : k + 60 ≤ 600000) (hn : n + 480 ≤ 7302250) (kk : ∀ T2 σ2 k2 n2, k2 ≤ k + 60 → n2 ≤ n + 480 → oLS T2 σ2 xC mC (Bd + 162000) → oW p l e room_1 s m args below meth c G b 4 k2 n2 Q T2 σ2 1689 [some (oa ad), some (og xC), some (og mC), some (oi (jN : Int))] []) : oW p l e room_1 s m args below meth c G b 4 k n Q T σ 838 [some (oa ad), some (og xC), some (og mC), some (oi (jN : Int))] [] := by
  obtain ⟨h8s, h8a, h9s, h9a⟩ := oLS_sh hS
  obtain ⟨Po1, hM1, hP2⟩ := pr_needs hS hmx hB (o_r32 (xs (jN + 1)))
  refine r_al1 (q := 839) C dL_law_838 rfl ?_
  refine r_aal0 (q := 840) C dL_law_839 rfl ?_
  refine r_il3 (q := 841) C dL_law_840 rfl ?_
  refine r_iconst (q := 842) C dL_law_841 rfl ?_
  refine r_iadd (q := 843) C dL_law_842 rfl ?_
  refine r_sld (q := 844) (j := jN + 1) C hX had (by omega) (by omega) (by omega) dL_law_843 rfl ?_
  refine r_callV (q := 847) C hM1 m_L_81 h8s h8a dL_law_844 rfl rfl ⟨Nat.le_of_ble_eq_true rfl, Nat.le_of_ble_eq_true rfl⟩ ⟨by show k + 0 ≤ 600000; omega, by show n + 0 ≤ 7302250; omega⟩ (Nat.le_of_ble_eq_true rfl) (fun r T2 σ2 hp1 => ?_)
  obtain ⟨hT2, z2, hr2, Po2, hM2, hP3⟩ := hP2 r T2 σ2 hp1
  subst hr2
  subst hT2
  simp only [Option.toList_some, List.cons_append, List.nil_append]
  refine r_al2 (q := 848) C dL_law_847 rfl ?_
  refine r_aal0 (q := 849) C dL_law_848 rfl ?_
  refine r_il3 (q := 850) C dL_law_849 rfl ?_
  refine r_iconst (q := 851) C dL_law_850 rfl ?_
  refine r_iadd (q := 852) C dL_law_851 rfl ?_
  refine r_sld (q := 853) (j := jN + 1) C hX had (by omega) (by omega) (by omega) dL_law_852 rfl ?_
  refine r_callV (q := 856) C hM2 m_L_84 h9s h9a dL_law_853 rfl rfl ⟨Nat.le_of_ble_eq_true rfl, Nat.le_of_ble_eq_true rfl⟩ ⟨by show k + 0 + 0 ≤ 600000; omega, by show n + 0 + 0 ≤ 7302250; omega⟩ (Nat.le_of_ble_eq_true rfl) (fun r3 T3 σ3 hp3 => ?_)
  obtain ⟨hr3, hS3⟩ := hP3 r3 T3 σ3 hp3
  subst hr3
  simp only [Option.toList_some, List.cons_append, List.nil_append]
  refine r_iceq_s (q := 1689) C rfl dL_law_856 (by decide) ?_
  exact kk _ _ _ _ (by omega) (by omega) hS3
set_option maxRecDepth 20000 in
set_option maxHeartbeats 4000000 in
theorem lc_buy (C : oCx p s m args meth c G b RL cL_law 4) (hX : va_X ad L xs s s.heap) (had : ad < b) (hL : L ≤ 3072) (hmx : xC + 1227 ≤ mC) (hS : oLS T σ xC mC Bd) (hB : Bd ≤ 99000000) (hj : jN + 6 ≤ L) (hk : k + 60 ≤ 600000) (hn : n + 480 ≤ 7302250) (kk : ∀ T2 σ2 k2 n2, k2 ≤ k + 60 → n2 ≤ n + 480 → oLS T2 σ2 xC mC (Bd + 162000) → oW p l e room_1 s m args below meth c G b 4 k2 n2 Q T2 σ2 1689 [some (oa ad), some (og xC), some (og mC), some (oi (jN : Int))] []) : oW p l e room_1 s m args below meth c G b 4 k n Q T σ 861 [some (oa ad), some (og xC), some (og mC), some (oi (jN : Int))] [] := by
  obtain ⟨h8s, h8a, h9s, h9a⟩ := oLS_sh hS
  obtain ⟨Po1, hM1, hP2⟩ := pr_buy hS hmx hB (o_r32 (xs (jN + 1))) (o_r32 (xs (jN + 2))) (o_r32 (xs (jN + 3)))
  refine r_al1 (q := 862) C dL_law_861 rfl ?_
  refine r_aal0 (q := 863) C dL_law_862 rfl ?_
  refine r_il3 (q := 864) C dL_law_863 rfl ?_
  refine r_iconst (q := 865) C dL_law_864 rfl ?_
  refine r_iadd (q := 866) C dL_law_865 rfl ?_
  refine r_sld (q := 867) (j := jN + 1) C hX had (by omega) (by omega) (by omega) dL_law_866 rfl ?_
  refine r_aal0 (q := 868) C dL_law_867 rfl ?_
  refine r_il3 (q := 869) C dL_law_868 rfl ?_
  refine r_iconst (q := 870) C dL_law_869 rfl ?_
  refine r_iadd (q := 871) C dL_law_870 rfl ?_
  refine r_sld (q := 872) (j := jN + 2) C hX had (by omega) (by omega) (by omega) dL_law_871 rfl ?_
  refine r_aal0 (q := 873) C dL_law_872 rfl ?_
  refine r_il3 (q := 874) C dL_law_873 rfl ?_
  refine r_iconst (q := 875) C dL_law_874 rfl ?_
  refine r_iadd (q := 876) C dL_law_875 rfl ?_
  refine r_sld (q := 877) (j := jN + 3) C hX had (by omega) (by omega) (by omega) dL_law_876 rfl ?_
  refine r_callV (q := 880) C hM1 m_L_85 h8s h8a dL_law_877 rfl rfl ⟨Nat.le_of_ble_eq_true rfl, Nat.le_of_ble_eq_true rfl⟩ ⟨by show k + 0 ≤ 600000; omega, by show n + 0 ≤ 7302250; omega⟩ (Nat.le_of_ble_eq_true rfl) (fun r T2 σ2 hp1 => ?_)
  obtain ⟨hT2, z2, hr2, Po2, hM2, hP3⟩ := hP2 r T2 σ2 hp1
  subst hr2
  subst hT2
  simp only [Option.toList_some, List.cons_append, List.nil_append]
  refine r_al2 (q := 881) C dL_law_880 rfl ?_
  refine r_aal0 (q := 882) C dL_law_881 rfl ?_
  refine r_il3 (q := 883) C dL_law_882 rfl ?_
  refine r_iconst (q := 884) C dL_law_883 rfl ?_
  refine r_iadd (q := 885) C dL_law_884 rfl ?_
  refine r_sld (q := 886) (j := jN + 1) C hX had (by omega) (by omega) (by omega) dL_law_885 rfl ?_
  refine r_aal0 (q := 887) C dL_law_886 rfl ?_
  refine r_il3 (q := 888) C dL_law_887 rfl ?_
  refine r_iconst (q := 889) C dL_law_888 rfl ?_
  refine r_iadd (q := 890) C dL_law_889 rfl ?_
  refine r_sld (q := 891) (j := jN + 2) C hX had (by omega) (by omega) (by omega) dL_law_890 rfl ?_
  refine r_aal0 (q := 892) C dL_law_891 rfl ?_
  refine r_il3 (q := 893) C dL_law_892 rfl ?_
  refine r_iconst (q := 894) C dL_law_893 rfl ?_
  refine r_iadd (q := 895) C dL_law_894 rfl ?_
  refine r_sld (q := 896) (j := jN + 3) C hX had (by omega) (by omega) (by omega) dL_law_895 rfl ?_
  refine r_callV (q := 899) C hM2 m_L_88 h9s h9a dL_law_896 rfl rfl ⟨Nat.le_of_ble_eq_true rfl, Nat.le_of_ble_eq_true rfl⟩ ⟨by show k + 0 + 0 ≤ 600000; omega, by show n + 0 + 0 ≤ 7302250; omega⟩ (Nat.le_of_ble_eq_true rfl) (fun r3 T3 σ3 hp3 => ?_)
  obtain ⟨hr3, hS3⟩ := hP3 r3 T3 σ3 hp3
  subst hr3
  simp only [Option.toList_some, List.cons_append, List.nil_append]
  refine r_iceq_s (q := 1689) C rfl dL_law_899 (by decide) ?_
  exact kk _ _ _ _ (by omega) (by omega) hS3
set_option maxRecDepth 20000 in
set_option maxHeartbeats 4000000 in
theorem lc_stock (C : oCx p s m args meth c G b RL cL_law 4) (hX : va_X ad L xs s s.heap) (had : ad < b) (hL : L ≤ 3072) (hmx : xC + 1227 ≤ mC) (hS : oLS T σ xC mC Bd) (hB : Bd ≤ 99000000) (hj : jN + 6 ≤ L) (hk : k + 60 ≤ 600000) (hn : n + 480 ≤ 7302250) (kk : ∀ T2 σ2 k2 n2, k2 ≤ k + 60 → n2 ≤ n + 480 → oLS T2 σ2 xC mC (Bd + 162000) → oW p l e room_1 s m args below meth c G b 4 k2 n2 Q T2 σ2 1689 [some (oa ad), some (og xC), some (og mC), some (oi (jN : Int))] []) : oW p l e room_1 s m args below meth c G b 4 k n Q T σ 904 [some (oa ad), some (og xC), some (og mC), some (oi (jN : Int))] [] := by
  obtain ⟨h8s, h8a, h9s, h9a⟩ := oLS_sh hS
  obtain ⟨Po1, hM1, hP2⟩ := pr_stock hS hmx hB (o_r32 (xs (jN + 1))) (o_r32 (xs (jN + 2))) (o_r32 (xs (jN + 3)))
  refine r_al1 (q := 905) C dL_law_904 rfl ?_
  refine r_aal0 (q := 906) C dL_law_905 rfl ?_
  refine r_il3 (q := 907) C dL_law_906 rfl ?_
  refine r_iconst (q := 908) C dL_law_907 rfl ?_
  refine r_iadd (q := 909) C dL_law_908 rfl ?_
  refine r_sld (q := 910) (j := jN + 1) C hX had (by omega) (by omega) (by omega) dL_law_909 rfl ?_
  refine r_aal0 (q := 911) C dL_law_910 rfl ?_
  refine r_il3 (q := 912) C dL_law_911 rfl ?_
  refine r_iconst (q := 913) C dL_law_912 rfl ?_
  refine r_iadd (q := 914) C dL_law_913 rfl ?_
  refine r_sld (q := 915) (j := jN + 2) C hX had (by omega) (by omega) (by omega) dL_law_914 rfl ?_
  refine r_aal0 (q := 916) C dL_law_915 rfl ?_
  refine r_il3 (q := 917) C dL_law_916 rfl ?_
  refine r_iconst (q := 918) C dL_law_917 rfl ?_
  refine r_iadd (q := 919) C dL_law_918 rfl ?_
  refine r_sld (q := 920) (j := jN + 3) C hX had (by omega) (by omega) (by omega) dL_law_919 rfl ?_
  refine r_callV (q := 923) C hM1 m_L_89 h8s h8a dL_law_920 rfl rfl ⟨Nat.le_of_ble_eq_true rfl, Nat.le_of_ble_eq_true rfl⟩ ⟨by show k + 0 ≤ 600000; omega, by show n + 0 ≤ 7302250; omega⟩ (Nat.le_of_ble_eq_true rfl) (fun r T2 σ2 hp1 => ?_)
  obtain ⟨hT2, z2, hr2, Po2, hM2, hP3⟩ := hP2 r T2 σ2 hp1
  subst hr2
  subst hT2
  simp only [Option.toList_some, List.cons_append, List.nil_append]
  refine r_al2 (q := 924) C dL_law_923 rfl ?_
  refine r_aal0 (q := 925) C dL_law_924 rfl ?_
  refine r_il3 (q := 926) C dL_law_925 rfl ?_
  refine r_iconst (q := 927) C dL_law_926 rfl ?_
  refine r_iadd (q := 928) C dL_law_927 rfl ?_
  refine r_sld (q := 929) (j := jN + 1) C hX had (by omega) (by omega) (by omega) dL_law_928 rfl ?_
  refine r_aal0 (q := 930) C dL_law_929 rfl ?_
  refine r_il3 (q := 931) C dL_law_930 rfl ?_
  refine r_iconst (q := 932) C dL_law_931 rfl ?_
  refine r_iadd (q := 933) C dL_law_932 rfl ?_
  refine r_sld (q := 934) (j := jN + 2) C hX had (by omega) (by omega) (by omega) dL_law_933 rfl ?_
  refine r_aal0 (q := 935) C dL_law_934 rfl ?_
  refine r_il3 (q := 936) C dL_law_935 rfl ?_
  refine r_iconst (q := 937) C dL_law_936 rfl ?_
  refine r_iadd (q := 938) C dL_law_937 rfl ?_
  refine r_sld (q := 939) (j := jN + 3) C hX had (by omega) (by omega) (by omega) dL_law_938 rfl ?_
  refine r_callV (q := 942) C hM2 m_L_92 h9s h9a dL_law_939 rfl rfl ⟨Nat.le_of_ble_eq_true rfl, Nat.le_of_ble_eq_true rfl⟩ ⟨by show k + 0 + 0 ≤ 600000; omega, by show n + 0 + 0 ≤ 7302250; omega⟩ (Nat.le_of_ble_eq_true rfl) (fun r3 T3 σ3 hp3 => ?_)
  obtain ⟨hr3, hS3⟩ := hP3 r3 T3 σ3 hp3
  subst hr3
  simp only [Option.toList_some, List.cons_append, List.nil_append]
  refine r_iceq_s (q := 1689) C rfl dL_law_942 (by decide) ?_
  exact kk _ _ _ _ (by omega) (by omega) hS3
set_option maxRecDepth 20000 in
set_option maxHeartbeats 4000000 in
theorem lc_bow (C : oCx p s m args meth c G b RL cL_law 4) (hX : va_X ad L xs s s.heap) (had : ad < b) (hL : L ≤ 3072) (hmx : xC + 1227 ≤ mC) (hS : oLS T σ xC mC Bd) (hB : Bd ≤ 99000000) (hj : jN + 6 ≤ L) (hk : k + 60 ≤ 600000) (hn : n + 480 ≤ 7302250) (kk : ∀ T2 σ2 k2 n2, k2 ≤ k + 60 → n2 ≤ n + 480 → oLS T2 σ2 xC mC (Bd + 162000) → oW p l e room_1 s m args below meth c G b 4 k2 n2 Q T2 σ2 1689 [some (oa ad), some (og xC), some (og mC), some (oi (jN : Int))] []) : oW p l e room_1 s m args below meth c G b 4 k n Q T σ 947 [some (oa ad), some (og xC), some (og mC), some (oi (jN : Int))] [] := by
  obtain ⟨h8s, h8a, h9s, h9a⟩ := oLS_sh hS
  obtain ⟨Po1, hM1, hP2⟩ := pr_bow hS hmx hB (o_r32 (xs (jN + 1))) (o_r32 (xs (jN + 2))) (o_r32 (xs (jN + 3))) (o_r32 (xs (jN + 4)))
  refine r_al1 (q := 948) C dL_law_947 rfl ?_
  refine r_aal0 (q := 949) C dL_law_948 rfl ?_
  refine r_il3 (q := 950) C dL_law_949 rfl ?_
  refine r_iconst (q := 951) C dL_law_950 rfl ?_
  refine r_iadd (q := 952) C dL_law_951 rfl ?_
  refine r_sld (q := 953) (j := jN + 1) C hX had (by omega) (by omega) (by omega) dL_law_952 rfl ?_
  refine r_aal0 (q := 954) C dL_law_953 rfl ?_
  refine r_il3 (q := 955) C dL_law_954 rfl ?_
  refine r_iconst (q := 956) C dL_law_955 rfl ?_
  refine r_iadd (q := 957) C dL_law_956 rfl ?_
  refine r_sld (q := 958) (j := jN + 2) C hX had (by omega) (by omega) (by omega) dL_law_957 rfl ?_
  refine r_aal0 (q := 959) C dL_law_958 rfl ?_
  refine r_il3 (q := 960) C dL_law_959 rfl ?_
  refine r_iconst (q := 961) C dL_law_960 rfl ?_
  refine r_iadd (q := 962) C dL_law_961 rfl ?_
  refine r_sld (q := 963) (j := jN + 3) C hX had (by omega) (by omega) (by omega) dL_law_962 rfl ?_
  refine r_aal0 (q := 964) C dL_law_963 rfl ?_
  refine r_il3 (q := 965) C dL_law_964 rfl ?_
  refine r_iconst (q := 966) C dL_law_965 rfl ?_
  refine r_iadd (q := 967) C dL_law_966 rfl ?_
  refine r_sld (q := 968) (j := jN + 4) C hX had (by omega) (by omega) (by omega) dL_law_967 rfl ?_
  refine r_callV (q := 971) C hM1 m_L_93 h8s h8a dL_law_968 rfl rfl ⟨Nat.le_of_ble_eq_true rfl, Nat.le_of_ble_eq_true rfl⟩ ⟨by show k + 0 ≤ 600000; omega, by show n + 0 ≤ 7302250; omega⟩ (Nat.le_of_ble_eq_true rfl) (fun r T2 σ2 hp1 => ?_)
  obtain ⟨hT2, z2, hr2, Po2, hM2, hP3⟩ := hP2 r T2 σ2 hp1
  subst hr2
  subst hT2
  simp only [Option.toList_some, List.cons_append, List.nil_append]
  refine r_al2 (q := 972) C dL_law_971 rfl ?_
  refine r_aal0 (q := 973) C dL_law_972 rfl ?_
  refine r_il3 (q := 974) C dL_law_973 rfl ?_
  refine r_iconst (q := 975) C dL_law_974 rfl ?_
  refine r_iadd (q := 976) C dL_law_975 rfl ?_
  refine r_sld (q := 977) (j := jN + 1) C hX had (by omega) (by omega) (by omega) dL_law_976 rfl ?_
  refine r_aal0 (q := 978) C dL_law_977 rfl ?_
  refine r_il3 (q := 979) C dL_law_978 rfl ?_
  refine r_iconst (q := 980) C dL_law_979 rfl ?_
  refine r_iadd (q := 981) C dL_law_980 rfl ?_
  refine r_sld (q := 982) (j := jN + 2) C hX had (by omega) (by omega) (by omega) dL_law_981 rfl ?_
  refine r_aal0 (q := 983) C dL_law_982 rfl ?_
  refine r_il3 (q := 984) C dL_law_983 rfl ?_
  refine r_iconst (q := 985) C dL_law_984 rfl ?_
  refine r_iadd (q := 986) C dL_law_985 rfl ?_
  refine r_sld (q := 987) (j := jN + 3) C hX had (by omega) (by omega) (by omega) dL_law_986 rfl ?_
  refine r_aal0 (q := 988) C dL_law_987 rfl ?_
  refine r_il3 (q := 989) C dL_law_988 rfl ?_
  refine r_iconst (q := 990) C dL_law_989 rfl ?_
  refine r_iadd (q := 991) C dL_law_990 rfl ?_
  refine r_sld (q := 992) (j := jN + 4) C hX had (by omega) (by omega) (by omega) dL_law_991 rfl ?_
  refine r_callV (q := 995) C hM2 m_L_96 h9s h9a dL_law_992 rfl rfl ⟨Nat.le_of_ble_eq_true rfl, Nat.le_of_ble_eq_true rfl⟩ ⟨by show k + 0 + 0 ≤ 600000; omega, by show n + 0 + 0 ≤ 7302250; omega⟩ (Nat.le_of_ble_eq_true rfl) (fun r3 T3 σ3 hp3 => ?_)
  obtain ⟨hr3, hS3⟩ := hP3 r3 T3 σ3 hp3
  subst hr3
  simp only [Option.toList_some, List.cons_append, List.nil_append]
  refine r_iceq_s (q := 1689) C rfl dL_law_995 (by decide) ?_
  exact kk _ _ _ _ (by omega) (by omega) hS3
set_option maxRecDepth 20000 in
set_option maxHeartbeats 4000000 in
theorem lc_bowing (C : oCx p s m args meth c G b RL cL_law 4) (hX : va_X ad L xs s s.heap) (had : ad < b) (hL : L ≤ 3072) (hmx : xC + 1227 ≤ mC) (hS : oLS T σ xC mC Bd) (hB : Bd ≤ 99000000) (hj : jN + 6 ≤ L) (hk : k + 60 ≤ 600000) (hn : n + 480 ≤ 7302250) (kk : ∀ T2 σ2 k2 n2, k2 ≤ k + 60 → n2 ≤ n + 480 → oLS T2 σ2 xC mC (Bd + 162000) → oW p l e room_1 s m args below meth c G b 4 k2 n2 Q T2 σ2 1689 [some (oa ad), some (og xC), some (og mC), some (oi (jN : Int))] []) : oW p l e room_1 s m args below meth c G b 4 k n Q T σ 1000 [some (oa ad), some (og xC), some (og mC), some (oi (jN : Int))] [] := by
  obtain ⟨h8s, h8a, h9s, h9a⟩ := oLS_sh hS
  obtain ⟨Po1, hM1, hP2⟩ := pr_bowing hS hmx hB (o_r32 (xs (jN + 1))) (o_r32 (xs (jN + 2))) (o_r32 (xs (jN + 3)))
  refine r_al1 (q := 1001) C dL_law_1000 rfl ?_
  refine r_aal0 (q := 1002) C dL_law_1001 rfl ?_
  refine r_il3 (q := 1003) C dL_law_1002 rfl ?_
  refine r_iconst (q := 1004) C dL_law_1003 rfl ?_
  refine r_iadd (q := 1005) C dL_law_1004 rfl ?_
  refine r_sld (q := 1006) (j := jN + 1) C hX had (by omega) (by omega) (by omega) dL_law_1005 rfl ?_
  refine r_aal0 (q := 1007) C dL_law_1006 rfl ?_
  refine r_il3 (q := 1008) C dL_law_1007 rfl ?_
  refine r_iconst (q := 1009) C dL_law_1008 rfl ?_
  refine r_iadd (q := 1010) C dL_law_1009 rfl ?_
  refine r_sld (q := 1011) (j := jN + 2) C hX had (by omega) (by omega) (by omega) dL_law_1010 rfl ?_
  refine r_aal0 (q := 1012) C dL_law_1011 rfl ?_
  refine r_il3 (q := 1013) C dL_law_1012 rfl ?_
  refine r_iconst (q := 1014) C dL_law_1013 rfl ?_
  refine r_iadd (q := 1015) C dL_law_1014 rfl ?_
  refine r_sld (q := 1016) (j := jN + 3) C hX had (by omega) (by omega) (by omega) dL_law_1015 rfl ?_
  refine r_callV (q := 1019) C hM1 m_L_97 h8s h8a dL_law_1016 rfl rfl ⟨Nat.le_of_ble_eq_true rfl, Nat.le_of_ble_eq_true rfl⟩ ⟨by show k + 0 ≤ 600000; omega, by show n + 0 ≤ 7302250; omega⟩ (Nat.le_of_ble_eq_true rfl) (fun r T2 σ2 hp1 => ?_)
  obtain ⟨hT2, z2, hr2, Po2, hM2, hP3⟩ := hP2 r T2 σ2 hp1
  subst hr2
  subst hT2
  simp only [Option.toList_some, List.cons_append, List.nil_append]
  refine r_al2 (q := 1020) C dL_law_1019 rfl ?_
  refine r_aal0 (q := 1021) C dL_law_1020 rfl ?_
  refine r_il3 (q := 1022) C dL_law_1021 rfl ?_
  refine r_iconst (q := 1023) C dL_law_1022 rfl ?_
  refine r_iadd (q := 1024) C dL_law_1023 rfl ?_
  refine r_sld (q := 1025) (j := jN + 1) C hX had (by omega) (by omega) (by omega) dL_law_1024 rfl ?_
  refine r_aal0 (q := 1026) C dL_law_1025 rfl ?_
  refine r_il3 (q := 1027) C dL_law_1026 rfl ?_
  refine r_iconst (q := 1028) C dL_law_1027 rfl ?_
  refine r_iadd (q := 1029) C dL_law_1028 rfl ?_
  refine r_sld (q := 1030) (j := jN + 2) C hX had (by omega) (by omega) (by omega) dL_law_1029 rfl ?_
  refine r_aal0 (q := 1031) C dL_law_1030 rfl ?_
  refine r_il3 (q := 1032) C dL_law_1031 rfl ?_
  refine r_iconst (q := 1033) C dL_law_1032 rfl ?_
  refine r_iadd (q := 1034) C dL_law_1033 rfl ?_
  refine r_sld (q := 1035) (j := jN + 3) C hX had (by omega) (by omega) (by omega) dL_law_1034 rfl ?_
  refine r_callV (q := 1038) C hM2 m_L_100 h9s h9a dL_law_1035 rfl rfl ⟨Nat.le_of_ble_eq_true rfl, Nat.le_of_ble_eq_true rfl⟩ ⟨by show k + 0 + 0 ≤ 600000; omega, by show n + 0 + 0 ≤ 7302250; omega⟩ (Nat.le_of_ble_eq_true rfl) (fun r3 T3 σ3 hp3 => ?_)
  obtain ⟨hr3, hS3⟩ := hP3 r3 T3 σ3 hp3
  subst hr3
  simp only [Option.toList_some, List.cons_append, List.nil_append]
  refine r_iceq_s (q := 1689) C rfl dL_law_1038 (by decide) ?_
  exact kk _ _ _ _ (by omega) (by omega) hS3
set_option maxRecDepth 20000 in
set_option maxHeartbeats 4000000 in
theorem lc_copyBowings (C : oCx p s m args meth c G b RL cL_law 4) (hX : va_X ad L xs s s.heap) (had : ad < b) (hL : L ≤ 3072) (hmx : xC + 1227 ≤ mC) (hS : oLS T σ xC mC Bd) (hB : Bd ≤ 99000000) (hj : jN + 6 ≤ L) (hk : k + 60 ≤ 600000) (hn : n + 480 ≤ 7302250) (kk : ∀ T2 σ2 k2 n2, k2 ≤ k + 60 → n2 ≤ n + 480 → oLS T2 σ2 xC mC (Bd + 162000) → oW p l e room_1 s m args below meth c G b 4 k2 n2 Q T2 σ2 1689 [some (oa ad), some (og xC), some (og mC), some (oi (jN : Int))] []) : oW p l e room_1 s m args below meth c G b 4 k n Q T σ 1043 [some (oa ad), some (og xC), some (og mC), some (oi (jN : Int))] [] := by
  obtain ⟨h8s, h8a, h9s, h9a⟩ := oLS_sh hS
  obtain ⟨Po1, hM1, hP2⟩ := pr_copyBowings hS hmx hB (o_r32 (xs (jN + 1))) (o_r32 (xs (jN + 2))) (o_r32 (xs (jN + 3))) (o_r32 (xs (jN + 4)))
  refine r_al1 (q := 1044) C dL_law_1043 rfl ?_
  refine r_aal0 (q := 1045) C dL_law_1044 rfl ?_
  refine r_il3 (q := 1046) C dL_law_1045 rfl ?_
  refine r_iconst (q := 1047) C dL_law_1046 rfl ?_
  refine r_iadd (q := 1048) C dL_law_1047 rfl ?_
  refine r_sld (q := 1049) (j := jN + 1) C hX had (by omega) (by omega) (by omega) dL_law_1048 rfl ?_
  refine r_aal0 (q := 1050) C dL_law_1049 rfl ?_
  refine r_il3 (q := 1051) C dL_law_1050 rfl ?_
  refine r_iconst (q := 1052) C dL_law_1051 rfl ?_
  refine r_iadd (q := 1053) C dL_law_1052 rfl ?_
  refine r_sld (q := 1054) (j := jN + 2) C hX had (by omega) (by omega) (by omega) dL_law_1053 rfl ?_
  refine r_aal0 (q := 1055) C dL_law_1054 rfl ?_
  refine r_il3 (q := 1056) C dL_law_1055 rfl ?_
  refine r_iconst (q := 1057) C dL_law_1056 rfl ?_
  refine r_iadd (q := 1058) C dL_law_1057 rfl ?_
  refine r_sld (q := 1059) (j := jN + 3) C hX had (by omega) (by omega) (by omega) dL_law_1058 rfl ?_
  refine r_aal0 (q := 1060) C dL_law_1059 rfl ?_
  refine r_il3 (q := 1061) C dL_law_1060 rfl ?_
  refine r_iconst (q := 1062) C dL_law_1061 rfl ?_
  refine r_iadd (q := 1063) C dL_law_1062 rfl ?_
  refine r_sld (q := 1064) (j := jN + 4) C hX had (by omega) (by omega) (by omega) dL_law_1063 rfl ?_
  refine r_callV (q := 1067) C hM1 m_L_101 h8s h8a dL_law_1064 rfl rfl ⟨Nat.le_of_ble_eq_true rfl, Nat.le_of_ble_eq_true rfl⟩ ⟨by show k + 0 ≤ 600000; omega, by show n + 0 ≤ 7302250; omega⟩ (Nat.le_of_ble_eq_true rfl) (fun r T2 σ2 hp1 => ?_)
  obtain ⟨hT2, z2, hr2, Po2, hM2, hP3⟩ := hP2 r T2 σ2 hp1
  subst hr2
  subst hT2
  simp only [Option.toList_some, List.cons_append, List.nil_append]
  refine r_al2 (q := 1068) C dL_law_1067 rfl ?_
  refine r_aal0 (q := 1069) C dL_law_1068 rfl ?_
  refine r_il3 (q := 1070) C dL_law_1069 rfl ?_
  refine r_iconst (q := 1071) C dL_law_1070 rfl ?_
  refine r_iadd (q := 1072) C dL_law_1071 rfl ?_
  refine r_sld (q := 1073) (j := jN + 1) C hX had (by omega) (by omega) (by omega) dL_law_1072 rfl ?_
  refine r_aal0 (q := 1074) C dL_law_1073 rfl ?_
  refine r_il3 (q := 1075) C dL_law_1074 rfl ?_
  refine r_iconst (q := 1076) C dL_law_1075 rfl ?_
  refine r_iadd (q := 1077) C dL_law_1076 rfl ?_
  refine r_sld (q := 1078) (j := jN + 2) C hX had (by omega) (by omega) (by omega) dL_law_1077 rfl ?_
  refine r_aal0 (q := 1079) C dL_law_1078 rfl ?_
  refine r_il3 (q := 1080) C dL_law_1079 rfl ?_
  refine r_iconst (q := 1081) C dL_law_1080 rfl ?_
  refine r_iadd (q := 1082) C dL_law_1081 rfl ?_
  refine r_sld (q := 1083) (j := jN + 3) C hX had (by omega) (by omega) (by omega) dL_law_1082 rfl ?_
  refine r_aal0 (q := 1084) C dL_law_1083 rfl ?_
  refine r_il3 (q := 1085) C dL_law_1084 rfl ?_
  refine r_iconst (q := 1086) C dL_law_1085 rfl ?_
  refine r_iadd (q := 1087) C dL_law_1086 rfl ?_
  refine r_sld (q := 1088) (j := jN + 4) C hX had (by omega) (by omega) (by omega) dL_law_1087 rfl ?_
  refine r_callV (q := 1091) C hM2 m_L_104 h9s h9a dL_law_1088 rfl rfl ⟨Nat.le_of_ble_eq_true rfl, Nat.le_of_ble_eq_true rfl⟩ ⟨by show k + 0 + 0 ≤ 600000; omega, by show n + 0 + 0 ≤ 7302250; omega⟩ (Nat.le_of_ble_eq_true rfl) (fun r3 T3 σ3 hp3 => ?_)
  obtain ⟨hr3, hS3⟩ := hP3 r3 T3 σ3 hp3
  subst hr3
  simp only [Option.toList_some, List.cons_append, List.nil_append]
  refine r_iceq_s (q := 1689) C rfl dL_law_1091 (by decide) ?_
  exact kk _ _ _ _ (by omega) (by omega) hS3
set_option maxRecDepth 20000 in
set_option maxHeartbeats 4000000 in
theorem lc_copied (C : oCx p s m args meth c G b RL cL_law 4) (hX : va_X ad L xs s s.heap) (had : ad < b) (hL : L ≤ 3072) (hmx : xC + 1227 ≤ mC) (hS : oLS T σ xC mC Bd) (hB : Bd ≤ 99000000) (hj : jN + 6 ≤ L) (hk : k + 60 ≤ 600000) (hn : n + 480 ≤ 7302250) (kk : ∀ T2 σ2 k2 n2, k2 ≤ k + 60 → n2 ≤ n + 480 → oLS T2 σ2 xC mC (Bd + 162000) → oW p l e room_1 s m args below meth c G b 4 k2 n2 Q T2 σ2 1689 [some (oa ad), some (og xC), some (og mC), some (oi (jN : Int))] []) : oW p l e room_1 s m args below meth c G b 4 k n Q T σ 1096 [some (oa ad), some (og xC), some (og mC), some (oi (jN : Int))] [] := by
  obtain ⟨h8s, h8a, h9s, h9a⟩ := oLS_sh hS
  obtain ⟨Po1, hM1, hP2⟩ := pr_copied hS hmx hB (o_r32 (xs (jN + 1)))
  refine r_al1 (q := 1097) C dL_law_1096 rfl ?_
  refine r_aal0 (q := 1098) C dL_law_1097 rfl ?_
  refine r_il3 (q := 1099) C dL_law_1098 rfl ?_
  refine r_iconst (q := 1100) C dL_law_1099 rfl ?_
  refine r_iadd (q := 1101) C dL_law_1100 rfl ?_
  refine r_sld (q := 1102) (j := jN + 1) C hX had (by omega) (by omega) (by omega) dL_law_1101 rfl ?_
  refine r_callV (q := 1105) C hM1 m_L_105 h8s h8a dL_law_1102 rfl rfl ⟨Nat.le_of_ble_eq_true rfl, Nat.le_of_ble_eq_true rfl⟩ ⟨by show k + 0 ≤ 600000; omega, by show n + 0 ≤ 7302250; omega⟩ (Nat.le_of_ble_eq_true rfl) (fun r T2 σ2 hp1 => ?_)
  obtain ⟨hT2, z2, hr2, Po2, hM2, hP3⟩ := hP2 r T2 σ2 hp1
  subst hr2
  subst hT2
  simp only [Option.toList_some, List.cons_append, List.nil_append]
  refine r_al2 (q := 1106) C dL_law_1105 rfl ?_
  refine r_aal0 (q := 1107) C dL_law_1106 rfl ?_
  refine r_il3 (q := 1108) C dL_law_1107 rfl ?_
  refine r_iconst (q := 1109) C dL_law_1108 rfl ?_
  refine r_iadd (q := 1110) C dL_law_1109 rfl ?_
  refine r_sld (q := 1111) (j := jN + 1) C hX had (by omega) (by omega) (by omega) dL_law_1110 rfl ?_
  refine r_callV (q := 1114) C hM2 m_L_108 h9s h9a dL_law_1111 rfl rfl ⟨Nat.le_of_ble_eq_true rfl, Nat.le_of_ble_eq_true rfl⟩ ⟨by show k + 0 + 0 ≤ 600000; omega, by show n + 0 + 0 ≤ 7302250; omega⟩ (Nat.le_of_ble_eq_true rfl) (fun r3 T3 σ3 hp3 => ?_)
  obtain ⟨hr3, hS3⟩ := hP3 r3 T3 σ3 hp3
  subst hr3
  simp only [Option.toList_some, List.cons_append, List.nil_append]
  refine r_iceq_s (q := 1689) C rfl dL_law_1114 (by decide) ?_
  exact kk _ _ _ _ (by omega) (by omega) hS3
set_option maxRecDepth 20000 in
set_option maxHeartbeats 4000000 in
theorem lc_lend (C : oCx p s m args meth c G b RL cL_law 4) (hX : va_X ad L xs s s.heap) (had : ad < b) (hL : L ≤ 3072) (hmx : xC + 1227 ≤ mC) (hS : oLS T σ xC mC Bd) (hB : Bd ≤ 99000000) (hj : jN + 6 ≤ L) (hk : k + 60 ≤ 600000) (hn : n + 480 ≤ 7302250) (kk : ∀ T2 σ2 k2 n2, k2 ≤ k + 60 → n2 ≤ n + 480 → oLS T2 σ2 xC mC (Bd + 162000) → oW p l e room_1 s m args below meth c G b 4 k2 n2 Q T2 σ2 1689 [some (oa ad), some (og xC), some (og mC), some (oi (jN : Int))] []) : oW p l e room_1 s m args below meth c G b 4 k n Q T σ 1119 [some (oa ad), some (og xC), some (og mC), some (oi (jN : Int))] [] := by
  obtain ⟨h8s, h8a, h9s, h9a⟩ := oLS_sh hS
  obtain ⟨Po1, hM1, hP2⟩ := pr_lend hS hmx hB (o_r32 (xs (jN + 1))) (o_r32 (xs (jN + 2))) (o_r32 (xs (jN + 3))) (o_r32 (xs (jN + 4))) (o_r32 (xs (jN + 5)))
  refine r_al1 (q := 1120) C dL_law_1119 rfl ?_
  refine r_aal0 (q := 1121) C dL_law_1120 rfl ?_
  refine r_il3 (q := 1122) C dL_law_1121 rfl ?_
  refine r_iconst (q := 1123) C dL_law_1122 rfl ?_
  refine r_iadd (q := 1124) C dL_law_1123 rfl ?_
  refine r_sld (q := 1125) (j := jN + 1) C hX had (by omega) (by omega) (by omega) dL_law_1124 rfl ?_
  refine r_aal0 (q := 1126) C dL_law_1125 rfl ?_
  refine r_il3 (q := 1127) C dL_law_1126 rfl ?_
  refine r_iconst (q := 1128) C dL_law_1127 rfl ?_
  refine r_iadd (q := 1129) C dL_law_1128 rfl ?_
  refine r_sld (q := 1130) (j := jN + 2) C hX had (by omega) (by omega) (by omega) dL_law_1129 rfl ?_
  refine r_aal0 (q := 1131) C dL_law_1130 rfl ?_
  refine r_il3 (q := 1132) C dL_law_1131 rfl ?_
  refine r_iconst (q := 1133) C dL_law_1132 rfl ?_
  refine r_iadd (q := 1134) C dL_law_1133 rfl ?_
  refine r_sld (q := 1135) (j := jN + 3) C hX had (by omega) (by omega) (by omega) dL_law_1134 rfl ?_
  refine r_aal0 (q := 1136) C dL_law_1135 rfl ?_
  refine r_il3 (q := 1137) C dL_law_1136 rfl ?_
  refine r_iconst (q := 1138) C dL_law_1137 rfl ?_
  refine r_iadd (q := 1139) C dL_law_1138 rfl ?_
  refine r_sld (q := 1140) (j := jN + 4) C hX had (by omega) (by omega) (by omega) dL_law_1139 rfl ?_
  refine r_aal0 (q := 1141) C dL_law_1140 rfl ?_
  refine r_il3 (q := 1142) C dL_law_1141 rfl ?_
  refine r_iconst (q := 1143) C dL_law_1142 rfl ?_
  refine r_iadd (q := 1144) C dL_law_1143 rfl ?_
  refine r_sld (q := 1145) (j := jN + 5) C hX had (by omega) (by omega) (by omega) dL_law_1144 rfl ?_
  refine r_callV (q := 1148) C hM1 m_L_109 h8s h8a dL_law_1145 rfl rfl ⟨Nat.le_of_ble_eq_true rfl, Nat.le_of_ble_eq_true rfl⟩ ⟨by show k + 0 ≤ 600000; omega, by show n + 0 ≤ 7302250; omega⟩ (Nat.le_of_ble_eq_true rfl) (fun r T2 σ2 hp1 => ?_)
  obtain ⟨hT2, z2, hr2, Po2, hM2, hP3⟩ := hP2 r T2 σ2 hp1
  subst hr2
  subst hT2
  simp only [Option.toList_some, List.cons_append, List.nil_append]
  refine r_al2 (q := 1149) C dL_law_1148 rfl ?_
  refine r_aal0 (q := 1150) C dL_law_1149 rfl ?_
  refine r_il3 (q := 1151) C dL_law_1150 rfl ?_
  refine r_iconst (q := 1152) C dL_law_1151 rfl ?_
  refine r_iadd (q := 1153) C dL_law_1152 rfl ?_
  refine r_sld (q := 1154) (j := jN + 1) C hX had (by omega) (by omega) (by omega) dL_law_1153 rfl ?_
  refine r_aal0 (q := 1155) C dL_law_1154 rfl ?_
  refine r_il3 (q := 1156) C dL_law_1155 rfl ?_
  refine r_iconst (q := 1157) C dL_law_1156 rfl ?_
  refine r_iadd (q := 1158) C dL_law_1157 rfl ?_
  refine r_sld (q := 1159) (j := jN + 2) C hX had (by omega) (by omega) (by omega) dL_law_1158 rfl ?_
  refine r_aal0 (q := 1160) C dL_law_1159 rfl ?_
  refine r_il3 (q := 1161) C dL_law_1160 rfl ?_
  refine r_iconst (q := 1162) C dL_law_1161 rfl ?_
  refine r_iadd (q := 1163) C dL_law_1162 rfl ?_
  refine r_sld (q := 1164) (j := jN + 3) C hX had (by omega) (by omega) (by omega) dL_law_1163 rfl ?_
  refine r_aal0 (q := 1165) C dL_law_1164 rfl ?_
  refine r_il3 (q := 1166) C dL_law_1165 rfl ?_
  refine r_iconst (q := 1167) C dL_law_1166 rfl ?_
  refine r_iadd (q := 1168) C dL_law_1167 rfl ?_
  refine r_sld (q := 1169) (j := jN + 4) C hX had (by omega) (by omega) (by omega) dL_law_1168 rfl ?_
  refine r_aal0 (q := 1170) C dL_law_1169 rfl ?_
  refine r_il3 (q := 1171) C dL_law_1170 rfl ?_
  refine r_iconst (q := 1172) C dL_law_1171 rfl ?_
  refine r_iadd (q := 1173) C dL_law_1172 rfl ?_
  refine r_sld (q := 1174) (j := jN + 5) C hX had (by omega) (by omega) (by omega) dL_law_1173 rfl ?_
  refine r_callV (q := 1177) C hM2 m_L_113 h9s h9a dL_law_1174 rfl rfl ⟨Nat.le_of_ble_eq_true rfl, Nat.le_of_ble_eq_true rfl⟩ ⟨by show k + 0 + 1 ≤ 600000; omega, by show n + 0 + 8 ≤ 7302250; omega⟩ (Nat.le_of_ble_eq_true rfl) (fun r3 T3 σ3 hp3 => ?_)
  obtain ⟨hr3, hS3⟩ := hP3 r3 T3 σ3 hp3
  subst hr3
  simp only [Option.toList_some, List.cons_append, List.nil_append]
  refine r_iceq_s (q := 1689) C rfl dL_law_1177 (by decide) ?_
  exact kk _ _ _ _ (by omega) (by omega) hS3
set_option maxRecDepth 20000 in
set_option maxHeartbeats 4000000 in
theorem lc_lendAll (C : oCx p s m args meth c G b RL cL_law 4) (hX : va_X ad L xs s s.heap) (had : ad < b) (hL : L ≤ 3072) (hmx : xC + 1227 ≤ mC) (hS : oLS T σ xC mC Bd) (hB : Bd ≤ 99000000) (hj : jN + 6 ≤ L) (hk : k + 60 ≤ 600000) (hn : n + 480 ≤ 7302250) (kk : ∀ T2 σ2 k2 n2, k2 ≤ k + 60 → n2 ≤ n + 480 → oLS T2 σ2 xC mC (Bd + 162000) → oW p l e room_1 s m args below meth c G b 4 k2 n2 Q T2 σ2 1689 [some (oa ad), some (og xC), some (og mC), some (oi (jN : Int))] []) : oW p l e room_1 s m args below meth c G b 4 k n Q T σ 1182 [some (oa ad), some (og xC), some (og mC), some (oi (jN : Int))] [] := by
  obtain ⟨h8s, h8a, h9s, h9a⟩ := oLS_sh hS
  obtain ⟨Po1, hM1, hP2⟩ := pr_lendAll hS hmx hB (o_r32 (xs (jN + 1))) (o_r32 (xs (jN + 2))) (o_r32 (xs (jN + 3)))
  refine r_al1 (q := 1183) C dL_law_1182 rfl ?_
  refine r_aal0 (q := 1184) C dL_law_1183 rfl ?_
  refine r_il3 (q := 1185) C dL_law_1184 rfl ?_
  refine r_iconst (q := 1186) C dL_law_1185 rfl ?_
  refine r_iadd (q := 1187) C dL_law_1186 rfl ?_
  refine r_sld (q := 1188) (j := jN + 1) C hX had (by omega) (by omega) (by omega) dL_law_1187 rfl ?_
  refine r_aal0 (q := 1189) C dL_law_1188 rfl ?_
  refine r_il3 (q := 1190) C dL_law_1189 rfl ?_
  refine r_iconst (q := 1191) C dL_law_1190 rfl ?_
  refine r_iadd (q := 1192) C dL_law_1191 rfl ?_
  refine r_sld (q := 1193) (j := jN + 2) C hX had (by omega) (by omega) (by omega) dL_law_1192 rfl ?_
  refine r_aal0 (q := 1194) C dL_law_1193 rfl ?_
  refine r_il3 (q := 1195) C dL_law_1194 rfl ?_
  refine r_iconst (q := 1196) C dL_law_1195 rfl ?_
  refine r_iadd (q := 1197) C dL_law_1196 rfl ?_
  refine r_sld (q := 1198) (j := jN + 3) C hX had (by omega) (by omega) (by omega) dL_law_1197 rfl ?_
  refine r_callV (q := 1201) C hM1 m_L_114 h8s h8a dL_law_1198 rfl rfl ⟨Nat.le_of_ble_eq_true rfl, Nat.le_of_ble_eq_true rfl⟩ ⟨by show k + 0 ≤ 600000; omega, by show n + 0 ≤ 7302250; omega⟩ (Nat.le_of_ble_eq_true rfl) (fun r T2 σ2 hp1 => ?_)
  obtain ⟨hT2, z2, hr2, Po2, hM2, hP3⟩ := hP2 r T2 σ2 hp1
  subst hr2
  subst hT2
  simp only [Option.toList_some, List.cons_append, List.nil_append]
  refine r_al2 (q := 1202) C dL_law_1201 rfl ?_
  refine r_aal0 (q := 1203) C dL_law_1202 rfl ?_
  refine r_il3 (q := 1204) C dL_law_1203 rfl ?_
  refine r_iconst (q := 1205) C dL_law_1204 rfl ?_
  refine r_iadd (q := 1206) C dL_law_1205 rfl ?_
  refine r_sld (q := 1207) (j := jN + 1) C hX had (by omega) (by omega) (by omega) dL_law_1206 rfl ?_
  refine r_aal0 (q := 1208) C dL_law_1207 rfl ?_
  refine r_il3 (q := 1209) C dL_law_1208 rfl ?_
  refine r_iconst (q := 1210) C dL_law_1209 rfl ?_
  refine r_iadd (q := 1211) C dL_law_1210 rfl ?_
  refine r_sld (q := 1212) (j := jN + 2) C hX had (by omega) (by omega) (by omega) dL_law_1211 rfl ?_
  refine r_aal0 (q := 1213) C dL_law_1212 rfl ?_
  refine r_il3 (q := 1214) C dL_law_1213 rfl ?_
  refine r_iconst (q := 1215) C dL_law_1214 rfl ?_
  refine r_iadd (q := 1216) C dL_law_1215 rfl ?_
  refine r_sld (q := 1217) (j := jN + 3) C hX had (by omega) (by omega) (by omega) dL_law_1216 rfl ?_
  refine r_callV (q := 1220) C hM2 m_L_117 h9s h9a dL_law_1217 rfl rfl ⟨Nat.le_of_ble_eq_true rfl, Nat.le_of_ble_eq_true rfl⟩ ⟨by show k + 0 + 6 ≤ 600000; omega, by show n + 0 + 48 ≤ 7302250; omega⟩ (Nat.le_of_ble_eq_true rfl) (fun r3 T3 σ3 hp3 => ?_)
  obtain ⟨hr3, hS3⟩ := hP3 r3 T3 σ3 hp3
  subst hr3
  simp only [Option.toList_some, List.cons_append, List.nil_append]
  refine r_iceq_s (q := 1689) C rfl dL_law_1220 (by decide) ?_
  exact kk _ _ _ _ (by omega) (by omega) hS3
set_option maxRecDepth 20000 in
set_option maxHeartbeats 4000000 in
theorem lc_bring (C : oCx p s m args meth c G b RL cL_law 4) (hX : va_X ad L xs s s.heap) (had : ad < b) (hL : L ≤ 3072) (hmx : xC + 1227 ≤ mC) (hS : oLS T σ xC mC Bd) (hB : Bd ≤ 99000000) (hj : jN + 6 ≤ L) (hk : k + 60 ≤ 600000) (hn : n + 480 ≤ 7302250) (kk : ∀ T2 σ2 k2 n2, k2 ≤ k + 60 → n2 ≤ n + 480 → oLS T2 σ2 xC mC (Bd + 162000) → oW p l e room_1 s m args below meth c G b 4 k2 n2 Q T2 σ2 1689 [some (oa ad), some (og xC), some (og mC), some (oi (jN : Int))] []) : oW p l e room_1 s m args below meth c G b 4 k n Q T σ 1225 [some (oa ad), some (og xC), some (og mC), some (oi (jN : Int))] [] := by
  obtain ⟨h8s, h8a, h9s, h9a⟩ := oLS_sh hS
  obtain ⟨Po1, hM1, hP2⟩ := pr_bring hS hmx hB (o_r32 (xs (jN + 1))) (o_r32 (xs (jN + 2))) (o_r32 (xs (jN + 3)))
  refine r_al1 (q := 1226) C dL_law_1225 rfl ?_
  refine r_aal0 (q := 1227) C dL_law_1226 rfl ?_
  refine r_il3 (q := 1228) C dL_law_1227 rfl ?_
  refine r_iconst (q := 1229) C dL_law_1228 rfl ?_
  refine r_iadd (q := 1230) C dL_law_1229 rfl ?_
  refine r_sld (q := 1231) (j := jN + 1) C hX had (by omega) (by omega) (by omega) dL_law_1230 rfl ?_
  refine r_aal0 (q := 1232) C dL_law_1231 rfl ?_
  refine r_il3 (q := 1233) C dL_law_1232 rfl ?_
  refine r_iconst (q := 1234) C dL_law_1233 rfl ?_
  refine r_iadd (q := 1235) C dL_law_1234 rfl ?_
  refine r_sld (q := 1236) (j := jN + 2) C hX had (by omega) (by omega) (by omega) dL_law_1235 rfl ?_
  refine r_aal0 (q := 1237) C dL_law_1236 rfl ?_
  refine r_il3 (q := 1238) C dL_law_1237 rfl ?_
  refine r_iconst (q := 1239) C dL_law_1238 rfl ?_
  refine r_iadd (q := 1240) C dL_law_1239 rfl ?_
  refine r_sld (q := 1241) (j := jN + 3) C hX had (by omega) (by omega) (by omega) dL_law_1240 rfl ?_
  refine r_callV (q := 1244) C hM1 m_L_118 h8s h8a dL_law_1241 rfl rfl ⟨Nat.le_of_ble_eq_true rfl, Nat.le_of_ble_eq_true rfl⟩ ⟨by show k + 0 ≤ 600000; omega, by show n + 0 ≤ 7302250; omega⟩ (Nat.le_of_ble_eq_true rfl) (fun r T2 σ2 hp1 => ?_)
  obtain ⟨hT2, z2, hr2, Po2, hM2, hP3⟩ := hP2 r T2 σ2 hp1
  subst hr2
  subst hT2
  simp only [Option.toList_some, List.cons_append, List.nil_append]
  refine r_al2 (q := 1245) C dL_law_1244 rfl ?_
  refine r_aal0 (q := 1246) C dL_law_1245 rfl ?_
  refine r_il3 (q := 1247) C dL_law_1246 rfl ?_
  refine r_iconst (q := 1248) C dL_law_1247 rfl ?_
  refine r_iadd (q := 1249) C dL_law_1248 rfl ?_
  refine r_sld (q := 1250) (j := jN + 1) C hX had (by omega) (by omega) (by omega) dL_law_1249 rfl ?_
  refine r_aal0 (q := 1251) C dL_law_1250 rfl ?_
  refine r_il3 (q := 1252) C dL_law_1251 rfl ?_
  refine r_iconst (q := 1253) C dL_law_1252 rfl ?_
  refine r_iadd (q := 1254) C dL_law_1253 rfl ?_
  refine r_sld (q := 1255) (j := jN + 2) C hX had (by omega) (by omega) (by omega) dL_law_1254 rfl ?_
  refine r_aal0 (q := 1256) C dL_law_1255 rfl ?_
  refine r_il3 (q := 1257) C dL_law_1256 rfl ?_
  refine r_iconst (q := 1258) C dL_law_1257 rfl ?_
  refine r_iadd (q := 1259) C dL_law_1258 rfl ?_
  refine r_sld (q := 1260) (j := jN + 3) C hX had (by omega) (by omega) (by omega) dL_law_1259 rfl ?_
  refine r_callV (q := 1263) C hM2 m_L_121 h9s h9a dL_law_1260 rfl rfl ⟨Nat.le_of_ble_eq_true rfl, Nat.le_of_ble_eq_true rfl⟩ ⟨by show k + 0 + 0 ≤ 600000; omega, by show n + 0 + 0 ≤ 7302250; omega⟩ (Nat.le_of_ble_eq_true rfl) (fun r3 T3 σ3 hp3 => ?_)
  obtain ⟨hr3, hS3⟩ := hP3 r3 T3 σ3 hp3
  subst hr3
  simp only [Option.toList_some, List.cons_append, List.nil_append]
  refine r_iceq_s (q := 1689) C rfl dL_law_1263 (by decide) ?_
  exact kk _ _ _ _ (by omega) (by omega) hS3
set_option maxRecDepth 20000 in
set_option maxHeartbeats 4000000 in
theorem lc_loan (C : oCx p s m args meth c G b RL cL_law 4) (hX : va_X ad L xs s s.heap) (had : ad < b) (hL : L ≤ 3072) (hmx : xC + 1227 ≤ mC) (hS : oLS T σ xC mC Bd) (hB : Bd ≤ 99000000) (hj : jN + 6 ≤ L) (hk : k + 60 ≤ 600000) (hn : n + 480 ≤ 7302250) (kk : ∀ T2 σ2 k2 n2, k2 ≤ k + 60 → n2 ≤ n + 480 → oLS T2 σ2 xC mC (Bd + 162000) → oW p l e room_1 s m args below meth c G b 4 k2 n2 Q T2 σ2 1689 [some (oa ad), some (og xC), some (og mC), some (oi (jN : Int))] []) : oW p l e room_1 s m args below meth c G b 4 k n Q T σ 1268 [some (oa ad), some (og xC), some (og mC), some (oi (jN : Int))] [] := by
  obtain ⟨h8s, h8a, h9s, h9a⟩ := oLS_sh hS
  obtain ⟨Po1, hM1, hP2⟩ := pr_loan hS hmx hB (o_r32 (xs (jN + 1))) (o_r32 (xs (jN + 2)))
  refine r_al1 (q := 1269) C dL_law_1268 rfl ?_
  refine r_aal0 (q := 1270) C dL_law_1269 rfl ?_
  refine r_il3 (q := 1271) C dL_law_1270 rfl ?_
  refine r_iconst (q := 1272) C dL_law_1271 rfl ?_
  refine r_iadd (q := 1273) C dL_law_1272 rfl ?_
  refine r_sld (q := 1274) (j := jN + 1) C hX had (by omega) (by omega) (by omega) dL_law_1273 rfl ?_
  refine r_aal0 (q := 1275) C dL_law_1274 rfl ?_
  refine r_il3 (q := 1276) C dL_law_1275 rfl ?_
  refine r_iconst (q := 1277) C dL_law_1276 rfl ?_
  refine r_iadd (q := 1278) C dL_law_1277 rfl ?_
  refine r_sld (q := 1279) (j := jN + 2) C hX had (by omega) (by omega) (by omega) dL_law_1278 rfl ?_
  refine r_callV (q := 1282) C hM1 m_L_122 h8s h8a dL_law_1279 rfl rfl ⟨Nat.le_of_ble_eq_true rfl, Nat.le_of_ble_eq_true rfl⟩ ⟨by show k + 0 ≤ 600000; omega, by show n + 0 ≤ 7302250; omega⟩ (Nat.le_of_ble_eq_true rfl) (fun r T2 σ2 hp1 => ?_)
  obtain ⟨hT2, z2, hr2, Po2, hM2, hP3⟩ := hP2 r T2 σ2 hp1
  subst hr2
  subst hT2
  simp only [Option.toList_some, List.cons_append, List.nil_append]
  refine r_al2 (q := 1283) C dL_law_1282 rfl ?_
  refine r_aal0 (q := 1284) C dL_law_1283 rfl ?_
  refine r_il3 (q := 1285) C dL_law_1284 rfl ?_
  refine r_iconst (q := 1286) C dL_law_1285 rfl ?_
  refine r_iadd (q := 1287) C dL_law_1286 rfl ?_
  refine r_sld (q := 1288) (j := jN + 1) C hX had (by omega) (by omega) (by omega) dL_law_1287 rfl ?_
  refine r_aal0 (q := 1289) C dL_law_1288 rfl ?_
  refine r_il3 (q := 1290) C dL_law_1289 rfl ?_
  refine r_iconst (q := 1291) C dL_law_1290 rfl ?_
  refine r_iadd (q := 1292) C dL_law_1291 rfl ?_
  refine r_sld (q := 1293) (j := jN + 2) C hX had (by omega) (by omega) (by omega) dL_law_1292 rfl ?_
  refine r_callV (q := 1296) C hM2 m_L_125 h9s h9a dL_law_1293 rfl rfl ⟨Nat.le_of_ble_eq_true rfl, Nat.le_of_ble_eq_true rfl⟩ ⟨by show k + 0 + 0 ≤ 600000; omega, by show n + 0 + 0 ≤ 7302250; omega⟩ (Nat.le_of_ble_eq_true rfl) (fun r3 T3 σ3 hp3 => ?_)
  obtain ⟨hr3, hS3⟩ := hP3 r3 T3 σ3 hp3
  subst hr3
  simp only [Option.toList_some, List.cons_append, List.nil_append]
  refine r_iceq_s (q := 1689) C rfl dL_law_1296 (by decide) ?_
  exact kk _ _ _ _ (by omega) (by omega) hS3
set_option maxRecDepth 20000 in
set_option maxHeartbeats 4000000 in
theorem lc_overdue (C : oCx p s m args meth c G b RL cL_law 4) (hX : va_X ad L xs s s.heap) (had : ad < b) (hL : L ≤ 3072) (hmx : xC + 1227 ≤ mC) (hS : oLS T σ xC mC Bd) (hB : Bd ≤ 99000000) (hj : jN + 6 ≤ L) (hk : k + 60 ≤ 600000) (hn : n + 480 ≤ 7302250) (kk : ∀ T2 σ2 k2 n2, k2 ≤ k + 60 → n2 ≤ n + 480 → oLS T2 σ2 xC mC (Bd + 162000) → oW p l e room_1 s m args below meth c G b 4 k2 n2 Q T2 σ2 1689 [some (oa ad), some (og xC), some (og mC), some (oi (jN : Int))] []) : oW p l e room_1 s m args below meth c G b 4 k n Q T σ 1301 [some (oa ad), some (og xC), some (og mC), some (oi (jN : Int))] [] := by
  obtain ⟨h8s, h8a, h9s, h9a⟩ := oLS_sh hS
  obtain ⟨Po1, hM1, hP2⟩ := pr_overdue hS hmx hB (o_r32 (xs (jN + 1)))
  refine r_al1 (q := 1302) C dL_law_1301 rfl ?_
  refine r_aal0 (q := 1303) C dL_law_1302 rfl ?_
  refine r_il3 (q := 1304) C dL_law_1303 rfl ?_
  refine r_iconst (q := 1305) C dL_law_1304 rfl ?_
  refine r_iadd (q := 1306) C dL_law_1305 rfl ?_
  refine r_sld (q := 1307) (j := jN + 1) C hX had (by omega) (by omega) (by omega) dL_law_1306 rfl ?_
  refine r_callV (q := 1310) C hM1 m_L_126 h8s h8a dL_law_1307 rfl rfl ⟨Nat.le_of_ble_eq_true rfl, Nat.le_of_ble_eq_true rfl⟩ ⟨by show k + 0 ≤ 600000; omega, by show n + 0 ≤ 7302250; omega⟩ (Nat.le_of_ble_eq_true rfl) (fun r T2 σ2 hp1 => ?_)
  obtain ⟨hT2, z2, hr2, Po2, hM2, hP3⟩ := hP2 r T2 σ2 hp1
  subst hr2
  subst hT2
  simp only [Option.toList_some, List.cons_append, List.nil_append]
  refine r_al2 (q := 1311) C dL_law_1310 rfl ?_
  refine r_aal0 (q := 1312) C dL_law_1311 rfl ?_
  refine r_il3 (q := 1313) C dL_law_1312 rfl ?_
  refine r_iconst (q := 1314) C dL_law_1313 rfl ?_
  refine r_iadd (q := 1315) C dL_law_1314 rfl ?_
  refine r_sld (q := 1316) (j := jN + 1) C hX had (by omega) (by omega) (by omega) dL_law_1315 rfl ?_
  refine r_callV (q := 1319) C hM2 m_L_129 h9s h9a dL_law_1316 rfl rfl ⟨Nat.le_of_ble_eq_true rfl, Nat.le_of_ble_eq_true rfl⟩ ⟨by show k + 0 + 0 ≤ 600000; omega, by show n + 0 + 0 ≤ 7302250; omega⟩ (Nat.le_of_ble_eq_true rfl) (fun r3 T3 σ3 hp3 => ?_)
  obtain ⟨hr3, hS3⟩ := hP3 r3 T3 σ3 hp3
  subst hr3
  simp only [Option.toList_some, List.cons_append, List.nil_append]
  refine r_iceq_s (q := 1689) C rfl dL_law_1319 (by decide) ?_
  exact kk _ _ _ _ (by omega) (by omega) hS3
set_option maxRecDepth 20000 in
set_option maxHeartbeats 4000000 in
theorem lc_borrower (C : oCx p s m args meth c G b RL cL_law 4) (hX : va_X ad L xs s s.heap) (had : ad < b) (hL : L ≤ 3072) (hmx : xC + 1227 ≤ mC) (hS : oLS T σ xC mC Bd) (hB : Bd ≤ 99000000) (hj : jN + 6 ≤ L) (hk : k + 60 ≤ 600000) (hn : n + 480 ≤ 7302250) (kk : ∀ T2 σ2 k2 n2, k2 ≤ k + 60 → n2 ≤ n + 480 → oLS T2 σ2 xC mC (Bd + 162000) → oW p l e room_1 s m args below meth c G b 4 k2 n2 Q T2 σ2 1689 [some (oa ad), some (og xC), some (og mC), some (oi (jN : Int))] []) : oW p l e room_1 s m args below meth c G b 4 k n Q T σ 1324 [some (oa ad), some (og xC), some (og mC), some (oi (jN : Int))] [] := by
  obtain ⟨h8s, h8a, h9s, h9a⟩ := oLS_sh hS
  obtain ⟨Po1, hM1, hP2⟩ := pr_borrower hS hmx hB (o_r32 (xs (jN + 1))) (o_r32 (xs (jN + 2)))
  refine r_al1 (q := 1325) C dL_law_1324 rfl ?_
  refine r_aal0 (q := 1326) C dL_law_1325 rfl ?_
  refine r_il3 (q := 1327) C dL_law_1326 rfl ?_
  refine r_iconst (q := 1328) C dL_law_1327 rfl ?_
  refine r_iadd (q := 1329) C dL_law_1328 rfl ?_
  refine r_sld (q := 1330) (j := jN + 1) C hX had (by omega) (by omega) (by omega) dL_law_1329 rfl ?_
  refine r_aal0 (q := 1331) C dL_law_1330 rfl ?_
  refine r_il3 (q := 1332) C dL_law_1331 rfl ?_
  refine r_iconst (q := 1333) C dL_law_1332 rfl ?_
  refine r_iadd (q := 1334) C dL_law_1333 rfl ?_
  refine r_sld (q := 1335) (j := jN + 2) C hX had (by omega) (by omega) (by omega) dL_law_1334 rfl ?_
  refine r_callV (q := 1338) C hM1 m_L_130 h8s h8a dL_law_1335 rfl rfl ⟨Nat.le_of_ble_eq_true rfl, Nat.le_of_ble_eq_true rfl⟩ ⟨by show k + 0 ≤ 600000; omega, by show n + 0 ≤ 7302250; omega⟩ (Nat.le_of_ble_eq_true rfl) (fun r T2 σ2 hp1 => ?_)
  obtain ⟨hT2, z2, hr2, Po2, hM2, hP3⟩ := hP2 r T2 σ2 hp1
  subst hr2
  subst hT2
  simp only [Option.toList_some, List.cons_append, List.nil_append]
  refine r_al2 (q := 1339) C dL_law_1338 rfl ?_
  refine r_aal0 (q := 1340) C dL_law_1339 rfl ?_
  refine r_il3 (q := 1341) C dL_law_1340 rfl ?_
  refine r_iconst (q := 1342) C dL_law_1341 rfl ?_
  refine r_iadd (q := 1343) C dL_law_1342 rfl ?_
  refine r_sld (q := 1344) (j := jN + 1) C hX had (by omega) (by omega) (by omega) dL_law_1343 rfl ?_
  refine r_aal0 (q := 1345) C dL_law_1344 rfl ?_
  refine r_il3 (q := 1346) C dL_law_1345 rfl ?_
  refine r_iconst (q := 1347) C dL_law_1346 rfl ?_
  refine r_iadd (q := 1348) C dL_law_1347 rfl ?_
  refine r_sld (q := 1349) (j := jN + 2) C hX had (by omega) (by omega) (by omega) dL_law_1348 rfl ?_
  refine r_callV (q := 1352) C hM2 m_L_133 h9s h9a dL_law_1349 rfl rfl ⟨Nat.le_of_ble_eq_true rfl, Nat.le_of_ble_eq_true rfl⟩ ⟨by show k + 0 + 0 ≤ 600000; omega, by show n + 0 + 0 ≤ 7302250; omega⟩ (Nat.le_of_ble_eq_true rfl) (fun r3 T3 σ3 hp3 => ?_)
  obtain ⟨hr3, hS3⟩ := hP3 r3 T3 σ3 hp3
  subst hr3
  simp only [Option.toList_some, List.cons_append, List.nil_append]
  refine r_iceq_s (q := 1689) C rfl dL_law_1352 (by decide) ?_
  exact kk _ _ _ _ (by omega) (by omega) hS3
set_option maxRecDepth 20000 in
set_option maxHeartbeats 4000000 in
theorem lc_pass (C : oCx p s m args meth c G b RL cL_law 4) (hX : va_X ad L xs s s.heap) (had : ad < b) (hL : L ≤ 3072) (hmx : xC + 1227 ≤ mC) (hS : oLS T σ xC mC Bd) (hB : Bd ≤ 99000000) (hj : jN + 6 ≤ L) (hk : k + 60 ≤ 600000) (hn : n + 480 ≤ 7302250) (kk : ∀ T2 σ2 k2 n2, k2 ≤ k + 60 → n2 ≤ n + 480 → oLS T2 σ2 xC mC (Bd + 162000) → oW p l e room_1 s m args below meth c G b 4 k2 n2 Q T2 σ2 1689 [some (oa ad), some (og xC), some (og mC), some (oi (jN : Int))] []) : oW p l e room_1 s m args below meth c G b 4 k n Q T σ 1357 [some (oa ad), some (og xC), some (og mC), some (oi (jN : Int))] [] := by
  obtain ⟨h8s, h8a, h9s, h9a⟩ := oLS_sh hS
  obtain ⟨Po1, hM1, hP2⟩ := pr_pass hS hmx hB (o_r32 (xs (jN + 1)))
  refine r_al1 (q := 1358) C dL_law_1357 rfl ?_
  refine r_aal0 (q := 1359) C dL_law_1358 rfl ?_
  refine r_il3 (q := 1360) C dL_law_1359 rfl ?_
  refine r_iconst (q := 1361) C dL_law_1360 rfl ?_
  refine r_iadd (q := 1362) C dL_law_1361 rfl ?_
  refine r_sld (q := 1363) (j := jN + 1) C hX had (by omega) (by omega) (by omega) dL_law_1362 rfl ?_
  refine r_callV (q := 1366) C hM1 m_L_134 h8s h8a dL_law_1363 rfl rfl ⟨Nat.le_of_ble_eq_true rfl, Nat.le_of_ble_eq_true rfl⟩ ⟨by show k + 0 ≤ 600000; omega, by show n + 0 ≤ 7302250; omega⟩ (Nat.le_of_ble_eq_true rfl) (fun r T2 σ2 hp1 => ?_)
  obtain ⟨hT2, z2, hr2, Po2, hM2, hP3⟩ := hP2 r T2 σ2 hp1
  subst hr2
  subst hT2
  simp only [Option.toList_some, List.cons_append, List.nil_append]
  refine r_al2 (q := 1367) C dL_law_1366 rfl ?_
  refine r_aal0 (q := 1368) C dL_law_1367 rfl ?_
  refine r_il3 (q := 1369) C dL_law_1368 rfl ?_
  refine r_iconst (q := 1370) C dL_law_1369 rfl ?_
  refine r_iadd (q := 1371) C dL_law_1370 rfl ?_
  refine r_sld (q := 1372) (j := jN + 1) C hX had (by omega) (by omega) (by omega) dL_law_1371 rfl ?_
  refine r_callV (q := 1375) C hM2 m_L_137 h9s h9a dL_law_1372 rfl rfl ⟨Nat.le_of_ble_eq_true rfl, Nat.le_of_ble_eq_true rfl⟩ ⟨by show k + 0 + 0 ≤ 600000; omega, by show n + 0 + 0 ≤ 7302250; omega⟩ (Nat.le_of_ble_eq_true rfl) (fun r3 T3 σ3 hp3 => ?_)
  obtain ⟨hr3, hS3⟩ := hP3 r3 T3 σ3 hp3
  subst hr3
  simp only [Option.toList_some, List.cons_append, List.nil_append]
  refine r_iceq_s (q := 1689) C rfl dL_law_1375 (by decide) ?_
  exact kk _ _ _ _ (by omega) (by omega) hS3
end OLC
