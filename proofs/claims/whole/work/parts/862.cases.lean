set_option maxHeartbeats 1000000 in
set_option maxRecDepth 100000 in
theorem lwc_walk {p : Program} {l : Launch} {e : Env} {s : State} {m : MethodId} {below : List Frame} {meth : Method} {c : Code} {b0 L : Nat} {xs : Nat → Int32} {D : va_G} {K : Nat → ClassId} {b t x y : Nat → Nat} {α : Nat → Nat → Nat} {o : Nat} {a : Nat → Nat} (hL : L ≤ 2048) (C : lwC p l s m meth c b0 L xs D K) : lwCase p l e s m b0 below meth c L D K b t x y α o a 846 := by
  intro T s1 f r1 H locs ls i k n hTop hT3 hi h hl hk hn KK
  obtain ⟨hx, hb, hr, hml, hown, hts, hX, hbl, hlocks, hK, hgX, hN, hfl⟩ := id C
  obtain ⟨A, hA⟩ := hTop
  obtain ⟨res, v, s2, r2, e1, e2, hT2, hcd, hout⟩ := Step_res (fun z => cdL_le _ _ z) (walk_step hA (xs (i + 1)) (xs (i + 2)) (!decide (xs (i + 3) = 0)))
  refine lv_aload_n hx hb dL_law_846 rfl (lv_at hl 1 rfl) ?_
  refine lw_arg (j := 1) C h (lv_at hl 0 rfl) (lv_at hl 4 rfl) (by omega) hL rfl dL_law_847 dL_law_848 dL_law_850 dL_law_851 dL_law_852 ?_
  refine lw_arg (j := 2) C h (lv_at hl 0 rfl) (lv_at hl 4 rfl) (by omega) hL rfl dL_law_853 dL_law_854 dL_law_856 dL_law_857 dL_law_858 ?_
  refine lw_argB (j := 3) C h (lv_at hl 0 rfl) (lv_at hl 4 rfl) (by omega) hL rfl dL_law_859 dL_law_860 dL_law_862 dL_law_863 dL_law_864 dL_law_865 dL_law_868 dL_law_869 dL_law_872 ?_
  refine lv_aload_n hx hb dL_law_873 rfl (lv_at hl 3 rfl) ?_
  refine lw_static (na := 5) (argv := [.ref (b 0), .int (xs (i + 1)), .int (xs (i + 2)), .int (bI (!decide (xs (i + 3) = 0))), .ref o]) C h (mL_walk l hfl D K b t x y α o (s1, f) (xs (i + 1)) (xs (i + 2)) (bI (!decide (xs (i + 3) = 0))) res e1 hcd) gL_law_L_walk rfl (by decide) ⟨Nat.le_of_ble_eq_true rfl, Nat.le_of_ble_eq_true rfl⟩ rfl rfl hl.1 dL_law_874 hk hn (fun w u H1 locs1 hw h1 => ?_)
  obtain ⟨u1, f2⟩ := u
  obtain ⟨g1, g2, g3⟩ := hout w (s1, f) (u1, f2) hw
  have g1 : u1 = s2 := g1
  subst g1
  refine lv_istore (lv' := [(5, .int w), (0, .ref b0), (1, .ref (b 0)), (2, .ref (a 0)), (3, .ref o), (4, .int (nI i))]) hx hb dL_law_877 hl (by decide) rfl (fun ls hl => ?_)
  refine lv_aload_n hx hb dL_law_879 rfl (lv_at hl 3 rfl) ?_
  refine lw_arg (j := 1) C h1 (lv_at hl 1 rfl) (lv_at hl 5 rfl) (by omega) hL rfl dL_law_880 dL_law_881 dL_law_883 dL_law_884 dL_law_885 ?_
  refine lw_arg (j := 2) C h1 (lv_at hl 1 rfl) (lv_at hl 5 rfl) (by omega) hL rfl dL_law_886 dL_law_887 dL_law_889 dL_law_890 dL_law_891 ?_
  refine lw_argB (j := 3) C h1 (lv_at hl 1 rfl) (lv_at hl 5 rfl) (by omega) hL rfl dL_law_892 dL_law_893 dL_law_895 dL_law_896 dL_law_897 dL_law_898 dL_law_901 dL_law_902 dL_law_905 ?_
  refine lw_model (na := 3) (As := [.int (xs (i + 1)), .int (xs (i + 2)), .int (bI (!decide (xs (i + 3) = 0)))]) C h1 (mX4_walk l D K a r1 (xs (i + 1)) (xs (i + 2)) (bI (!decide (xs (i + 3) = 0))) (v, r2) e2) gL_law_X4_walk rfl (by decide) ⟨Nat.le_of_ble_eq_true rfl, Nat.le_of_ble_eq_true rfl, rfl, rfl⟩ rfl rfl hl.1 (Nat.le_of_ble_eq_true rfl) dL_law_906 hk hn (fun H2 locs2 h2 => ?_)
  refine lv_istore (lv' := [(6, .int v), (5, .int w), (0, .ref b0), (1, .ref (b 0)), (2, .ref (a 0)), (3, .ref o), (4, .int (nI i))]) hx hb dL_law_909 hl (by decide) rfl (fun ls hl => ?_)
  refine lw_tail (tE := 939) C h2 hl g2 g3 hk hn rfl dL_law_911 dL_law_912 dL_law_915 dL_law_917 dL_law_922 dL_law_924 dL_law_927 dL_law_928 dL_law_929 dL_law_930 dL_law_932 dL_law_933 dL_law_934 dL_law_939 (by decide) (fun H3 locs3 h3 => ?_)
  exact KK T u1 f2 r2 H3 locs3 ls hT2 (by omega) h3 (lv_sub hl [2, 3, 4, 5, 6] rfl)
set_option maxHeartbeats 1000000 in
set_option maxRecDepth 100000 in
theorem lwc_turn {p : Program} {l : Launch} {e : Env} {s : State} {m : MethodId} {below : List Frame} {meth : Method} {c : Code} {b0 L : Nat} {xs : Nat → Int32} {D : va_G} {K : Nat → ClassId} {b t x y : Nat → Nat} {α : Nat → Nat → Nat} {o : Nat} {a : Nat → Nat} (hL : L ≤ 2048) (C : lwC p l s m meth c b0 L xs D K) : lwCase p l e s m b0 below meth c L D K b t x y α o a 942 := by
  intro T s1 f r1 H locs ls i k n hTop hT3 hi h hl hk hn KK
  obtain ⟨hx, hb, hr, hml, hown, hts, hX, hbl, hlocks, hK, hgX, hN, hfl⟩ := id C
  obtain ⟨A, hA⟩ := hTop
  obtain ⟨res, v, s2, r2, e1, e2, hT2, hcd, hout⟩ := Step_res (fun z => cdL_le _ _ z) (turn_step hA (xs (i + 1)))
  refine lv_aload_n hx hb dL_law_942 rfl (lv_at hl 1 rfl) ?_
  refine lw_arg (j := 1) C h (lv_at hl 0 rfl) (lv_at hl 4 rfl) (by omega) hL rfl dL_law_943 dL_law_944 dL_law_946 dL_law_947 dL_law_948 ?_
  refine lv_aload_n hx hb dL_law_949 rfl (lv_at hl 3 rfl) ?_
  refine lw_static (na := 3) (argv := [.ref (b 0), .int (xs (i + 1)), .ref o]) C h (mL_turn l hfl D K b t x y α o (s1, f) (xs (i + 1)) res e1 hcd) gL_law_L_turn rfl (by decide) ⟨Nat.le_of_ble_eq_true rfl, Nat.le_of_ble_eq_true rfl⟩ rfl rfl hl.1 dL_law_950 hk hn (fun w u H1 locs1 hw h1 => ?_)
  obtain ⟨u1, f2⟩ := u
  obtain ⟨g1, g2, g3⟩ := hout w (s1, f) (u1, f2) hw
  have g1 : u1 = s2 := g1
  subst g1
  refine lv_istore (lv' := [(5, .int w), (0, .ref b0), (1, .ref (b 0)), (2, .ref (a 0)), (3, .ref o), (4, .int (nI i))]) hx hb dL_law_953 hl (by decide) rfl (fun ls hl => ?_)
  refine lv_aload_n hx hb dL_law_955 rfl (lv_at hl 3 rfl) ?_
  refine lw_arg (j := 1) C h1 (lv_at hl 1 rfl) (lv_at hl 5 rfl) (by omega) hL rfl dL_law_956 dL_law_957 dL_law_959 dL_law_960 dL_law_961 ?_
  refine lw_model (na := 1) (As := [.int (xs (i + 1))]) C h1 (mX4_turn l D K a r1 (xs (i + 1)) (v, r2) e2) gL_law_X4_turn rfl (by decide) ⟨Nat.le_of_ble_eq_true rfl, Nat.le_of_ble_eq_true rfl, rfl, rfl⟩ rfl rfl hl.1 (Nat.le_of_ble_eq_true rfl) dL_law_962 hk hn (fun H2 locs2 h2 => ?_)
  refine lv_istore (lv' := [(6, .int v), (5, .int w), (0, .ref b0), (1, .ref (b 0)), (2, .ref (a 0)), (3, .ref o), (4, .int (nI i))]) hx hb dL_law_965 hl (by decide) rfl (fun ls hl => ?_)
  refine lw_tail (tE := 995) C h2 hl g2 g3 hk hn rfl dL_law_967 dL_law_968 dL_law_971 dL_law_973 dL_law_978 dL_law_980 dL_law_983 dL_law_984 dL_law_985 dL_law_986 dL_law_988 dL_law_989 dL_law_990 dL_law_995 (by decide) (fun H3 locs3 h3 => ?_)
  exact KK T u1 f2 r2 H3 locs3 ls hT2 (by omega) h3 (lv_sub hl [2, 3, 4, 5, 6] rfl)
set_option maxHeartbeats 1000000 in
set_option maxRecDepth 100000 in
theorem lwc_ticks {p : Program} {l : Launch} {e : Env} {s : State} {m : MethodId} {below : List Frame} {meth : Method} {c : Code} {b0 L : Nat} {xs : Nat → Int32} {D : va_G} {K : Nat → ClassId} {b t x y : Nat → Nat} {α : Nat → Nat → Nat} {o : Nat} {a : Nat → Nat} (hL : L ≤ 2048) (C : lwC p l s m meth c b0 L xs D K) : lwCase p l e s m b0 below meth c L D K b t x y α o a 998 := by
  intro T s1 f r1 H locs ls i k n hTop hT3 hi h hl hk hn KK
  obtain ⟨hx, hb, hr, hml, hown, hts, hX, hbl, hlocks, hK, hgX, hN, hfl⟩ := id C
  obtain ⟨A, hA⟩ := hTop
  obtain ⟨res, v, s2, r2, e1, e2, hT2, hcd, hout⟩ := Step_res (fun z => cdL_le _ _ z) (ticks_step hA (xs (i + 1)))
  refine lv_aload_n hx hb dL_law_998 rfl (lv_at hl 1 rfl) ?_
  refine lw_arg (j := 1) C h (lv_at hl 0 rfl) (lv_at hl 4 rfl) (by omega) hL rfl dL_law_999 dL_law_1000 dL_law_1002 dL_law_1003 dL_law_1004 ?_
  refine lv_aload_n hx hb dL_law_1005 rfl (lv_at hl 3 rfl) ?_
  refine lw_static (na := 3) (argv := [.ref (b 0), .int (xs (i + 1)), .ref o]) C h (mL_ticks l hfl D K b t x y α o (s1, f) (xs (i + 1)) res e1 hcd) gL_law_L_ticks rfl (by decide) ⟨Nat.le_of_ble_eq_true rfl, Nat.le_of_ble_eq_true rfl⟩ rfl rfl hl.1 dL_law_1006 hk hn (fun w u H1 locs1 hw h1 => ?_)
  obtain ⟨u1, f2⟩ := u
  obtain ⟨g1, g2, g3⟩ := hout w (s1, f) (u1, f2) hw
  have g1 : u1 = s2 := g1
  subst g1
  refine lv_istore (lv' := [(5, .int w), (0, .ref b0), (1, .ref (b 0)), (2, .ref (a 0)), (3, .ref o), (4, .int (nI i))]) hx hb dL_law_1009 hl (by decide) rfl (fun ls hl => ?_)
  refine lv_aload_n hx hb dL_law_1011 rfl (lv_at hl 3 rfl) ?_
  refine lw_arg (j := 1) C h1 (lv_at hl 1 rfl) (lv_at hl 5 rfl) (by omega) hL rfl dL_law_1012 dL_law_1013 dL_law_1015 dL_law_1016 dL_law_1017 ?_
  refine lw_model (na := 1) (As := [.int (xs (i + 1))]) C h1 (mX4_ticks l D K a r1 (xs (i + 1)) (v, r2) e2) gL_law_X4_ticks rfl (by decide) ⟨Nat.le_of_ble_eq_true rfl, Nat.le_of_ble_eq_true rfl, rfl, rfl⟩ rfl rfl hl.1 (Nat.le_of_ble_eq_true rfl) dL_law_1018 hk hn (fun H2 locs2 h2 => ?_)
  refine lv_istore (lv' := [(6, .int v), (5, .int w), (0, .ref b0), (1, .ref (b 0)), (2, .ref (a 0)), (3, .ref o), (4, .int (nI i))]) hx hb dL_law_1021 hl (by decide) rfl (fun ls hl => ?_)
  refine lw_tail (tE := 1051) C h2 hl g2 g3 hk hn rfl dL_law_1023 dL_law_1024 dL_law_1027 dL_law_1029 dL_law_1034 dL_law_1036 dL_law_1039 dL_law_1040 dL_law_1041 dL_law_1042 dL_law_1044 dL_law_1045 dL_law_1046 dL_law_1051 (by decide) (fun H3 locs3 h3 => ?_)
  exact KK (T + 2000) u1 f2 r2 H3 locs3 ls hT2 (by omega) h3 (lv_sub hl [2, 3, 4, 5, 6] rfl)
set_option maxHeartbeats 1000000 in
set_option maxRecDepth 100000 in
theorem lwc_set {p : Program} {l : Launch} {e : Env} {s : State} {m : MethodId} {below : List Frame} {meth : Method} {c : Code} {b0 L : Nat} {xs : Nat → Int32} {D : va_G} {K : Nat → ClassId} {b t x y : Nat → Nat} {α : Nat → Nat → Nat} {o : Nat} {a : Nat → Nat} (hL : L ≤ 2048) (C : lwC p l s m meth c b0 L xs D K) : lwCase p l e s m b0 below meth c L D K b t x y α o a 1054 := by
  intro T s1 f r1 H locs ls i k n hTop hT3 hi h hl hk hn KK
  obtain ⟨hx, hb, hr, hml, hown, hts, hX, hbl, hlocks, hK, hgX, hN, hfl⟩ := id C
  obtain ⟨A, hA⟩ := hTop
  obtain ⟨res, v, s2, r2, e1, e2, hT2, hcd, hout⟩ := Step_res (fun z => cdL_le _ _ z) (set_step hA (xs (i + 1)) (xs (i + 2)))
  refine lv_aload_n hx hb dL_law_1054 rfl (lv_at hl 1 rfl) ?_
  refine lw_arg (j := 1) C h (lv_at hl 0 rfl) (lv_at hl 4 rfl) (by omega) hL rfl dL_law_1055 dL_law_1056 dL_law_1058 dL_law_1059 dL_law_1060 ?_
  refine lw_arg (j := 2) C h (lv_at hl 0 rfl) (lv_at hl 4 rfl) (by omega) hL rfl dL_law_1061 dL_law_1062 dL_law_1064 dL_law_1065 dL_law_1066 ?_
  refine lv_aload_n hx hb dL_law_1067 rfl (lv_at hl 3 rfl) ?_
  refine lw_static (na := 4) (argv := [.ref (b 0), .int (xs (i + 1)), .int (xs (i + 2)), .ref o]) C h (mL_set l hfl D K b t x y α o (s1, f) (xs (i + 1)) (xs (i + 2)) res e1 hcd) gL_law_L_set rfl (by decide) ⟨Nat.le_of_ble_eq_true rfl, Nat.le_of_ble_eq_true rfl⟩ rfl rfl hl.1 dL_law_1068 hk hn (fun w u H1 locs1 hw h1 => ?_)
  obtain ⟨u1, f2⟩ := u
  obtain ⟨g1, g2, g3⟩ := hout w (s1, f) (u1, f2) hw
  have g1 : u1 = s2 := g1
  subst g1
  refine lv_istore (lv' := [(5, .int w), (0, .ref b0), (1, .ref (b 0)), (2, .ref (a 0)), (3, .ref o), (4, .int (nI i))]) hx hb dL_law_1071 hl (by decide) rfl (fun ls hl => ?_)
  refine lv_aload_n hx hb dL_law_1073 rfl (lv_at hl 3 rfl) ?_
  refine lw_arg (j := 1) C h1 (lv_at hl 1 rfl) (lv_at hl 5 rfl) (by omega) hL rfl dL_law_1074 dL_law_1075 dL_law_1077 dL_law_1078 dL_law_1079 ?_
  refine lw_arg (j := 2) C h1 (lv_at hl 1 rfl) (lv_at hl 5 rfl) (by omega) hL rfl dL_law_1080 dL_law_1081 dL_law_1083 dL_law_1084 dL_law_1085 ?_
  refine lw_model (na := 2) (As := [.int (xs (i + 1)), .int (xs (i + 2))]) C h1 (mX4_set l D K a r1 (xs (i + 1)) (xs (i + 2)) (v, r2) e2) gL_law_X4_set rfl (by decide) ⟨Nat.le_of_ble_eq_true rfl, Nat.le_of_ble_eq_true rfl, rfl, rfl⟩ rfl rfl hl.1 (Nat.le_of_ble_eq_true rfl) dL_law_1086 hk hn (fun H2 locs2 h2 => ?_)
  refine lv_istore (lv' := [(6, .int v), (5, .int w), (0, .ref b0), (1, .ref (b 0)), (2, .ref (a 0)), (3, .ref o), (4, .int (nI i))]) hx hb dL_law_1089 hl (by decide) rfl (fun ls hl => ?_)
  refine lw_tail (tE := 1119) C h2 hl g2 g3 hk hn rfl dL_law_1091 dL_law_1092 dL_law_1095 dL_law_1097 dL_law_1102 dL_law_1104 dL_law_1107 dL_law_1108 dL_law_1109 dL_law_1110 dL_law_1112 dL_law_1113 dL_law_1114 dL_law_1119 (by decide) (fun H3 locs3 h3 => ?_)
  exact KK T u1 f2 r2 H3 locs3 ls hT2 (by omega) h3 (lv_sub hl [2, 3, 4, 5, 6] rfl)
set_option maxHeartbeats 1000000 in
set_option maxRecDepth 100000 in
theorem lwc_undo {p : Program} {l : Launch} {e : Env} {s : State} {m : MethodId} {below : List Frame} {meth : Method} {c : Code} {b0 L : Nat} {xs : Nat → Int32} {D : va_G} {K : Nat → ClassId} {b t x y : Nat → Nat} {α : Nat → Nat → Nat} {o : Nat} {a : Nat → Nat} (hL : L ≤ 2048) (C : lwC p l s m meth c b0 L xs D K) : lwCase p l e s m b0 below meth c L D K b t x y α o a 1122 := by
  intro T s1 f r1 H locs ls i k n hTop hT3 hi h hl hk hn KK
  obtain ⟨hx, hb, hr, hml, hown, hts, hX, hbl, hlocks, hK, hgX, hN, hfl⟩ := id C
  obtain ⟨A, hA⟩ := hTop
  obtain ⟨res, v, s2, r2, e1, e2, hT2, hcd, hout⟩ := Step_res (fun z => cdL_le _ _ z) (undo_step hA)
  refine lv_aload_n hx hb dL_law_1122 rfl (lv_at hl 1 rfl) ?_
  refine lv_aload_n hx hb dL_law_1123 rfl (lv_at hl 3 rfl) ?_
  refine lw_static (na := 2) (argv := [.ref (b 0), .ref o]) C h (mL_undo l hfl D K b t x y α o (s1, f) res e1 hcd) gL_law_L_undo rfl (by decide) ⟨Nat.le_of_ble_eq_true rfl, Nat.le_of_ble_eq_true rfl⟩ rfl rfl hl.1 dL_law_1124 hk hn (fun w u H1 locs1 hw h1 => ?_)
  obtain ⟨u1, f2⟩ := u
  obtain ⟨g1, g2, g3⟩ := hout w (s1, f) (u1, f2) hw
  have g1 : u1 = s2 := g1
  subst g1
  refine lv_istore (lv' := [(5, .int w), (0, .ref b0), (1, .ref (b 0)), (2, .ref (a 0)), (3, .ref o), (4, .int (nI i))]) hx hb dL_law_1127 hl (by decide) rfl (fun ls hl => ?_)
  refine lv_aload_n hx hb dL_law_1129 rfl (lv_at hl 3 rfl) ?_
  refine lw_model (na := 0) (As := []) C h1 (mX4_undo l D K a r1 (v, r2) e2) gL_law_X4_undo rfl (by decide) ⟨Nat.le_of_ble_eq_true rfl, Nat.le_of_ble_eq_true rfl, rfl, rfl⟩ rfl rfl hl.1 (Nat.le_of_ble_eq_true rfl) dL_law_1130 hk hn (fun H2 locs2 h2 => ?_)
  refine lv_istore (lv' := [(6, .int v), (5, .int w), (0, .ref b0), (1, .ref (b 0)), (2, .ref (a 0)), (3, .ref o), (4, .int (nI i))]) hx hb dL_law_1133 hl (by decide) rfl (fun ls hl => ?_)
  refine lw_tail (tE := 1163) C h2 hl g2 g3 hk hn rfl dL_law_1135 dL_law_1136 dL_law_1139 dL_law_1141 dL_law_1146 dL_law_1148 dL_law_1151 dL_law_1152 dL_law_1153 dL_law_1154 dL_law_1156 dL_law_1157 dL_law_1158 dL_law_1163 (by decide) (fun H3 locs3 h3 => ?_)
  exact KK T u1 f2 r2 H3 locs3 ls hT2 (by omega) h3 (lv_sub hl [2, 3, 4, 5, 6] rfl)
set_option maxHeartbeats 1000000 in
set_option maxRecDepth 100000 in
theorem lwc_shouted {p : Program} {l : Launch} {e : Env} {s : State} {m : MethodId} {below : List Frame} {meth : Method} {c : Code} {b0 L : Nat} {xs : Nat → Int32} {D : va_G} {K : Nat → ClassId} {b t x y : Nat → Nat} {α : Nat → Nat → Nat} {o : Nat} {a : Nat → Nat} (hL : L ≤ 2048) (C : lwC p l s m meth c b0 L xs D K) : lwCase p l e s m b0 below meth c L D K b t x y α o a 1166 := by
  intro T s1 f r1 H locs ls i k n hTop hT3 hi h hl hk hn KK
  obtain ⟨hx, hb, hr, hml, hown, hts, hX, hbl, hlocks, hK, hgX, hN, hfl⟩ := id C
  obtain ⟨A, hA⟩ := hTop
  obtain ⟨res, v, s2, r2, e1, e2, hT2, hcd, hout⟩ := Step_res (fun z => cdL_le _ _ z) (shouted_step hA hT3 (xs (i + 1)))
  refine lv_aload_n hx hb dL_law_1166 rfl (lv_at hl 1 rfl) ?_
  refine lw_arg (j := 1) C h (lv_at hl 0 rfl) (lv_at hl 4 rfl) (by omega) hL rfl dL_law_1167 dL_law_1168 dL_law_1170 dL_law_1171 dL_law_1172 ?_
  refine lv_aload_n hx hb dL_law_1173 rfl (lv_at hl 3 rfl) ?_
  refine lw_static (na := 3) (argv := [.ref (b 0), .int (xs (i + 1)), .ref o]) C h (mL_shouted l hfl D K b t x y α o (s1, f) (xs (i + 1)) res e1 hcd) gL_law_L_shouted rfl (by decide) ⟨Nat.le_of_ble_eq_true rfl, Nat.le_of_ble_eq_true rfl⟩ rfl rfl hl.1 dL_law_1174 hk hn (fun w u H1 locs1 hw h1 => ?_)
  obtain ⟨u1, f2⟩ := u
  obtain ⟨g1, g2, g3⟩ := hout w (s1, f) (u1, f2) hw
  have g1 : u1 = s2 := g1
  subst g1
  refine lv_istore (lv' := [(5, .int w), (0, .ref b0), (1, .ref (b 0)), (2, .ref (a 0)), (3, .ref o), (4, .int (nI i))]) hx hb dL_law_1177 hl (by decide) rfl (fun ls hl => ?_)
  refine lv_aload_n hx hb dL_law_1179 rfl (lv_at hl 3 rfl) ?_
  refine lw_arg (j := 1) C h1 (lv_at hl 1 rfl) (lv_at hl 5 rfl) (by omega) hL rfl dL_law_1180 dL_law_1181 dL_law_1183 dL_law_1184 dL_law_1185 ?_
  refine lw_model (na := 1) (As := [.int (xs (i + 1))]) C h1 (mX4_shouted l D K a r1 (xs (i + 1)) (v, r2) e2) gL_law_X4_shouted rfl (by decide) ⟨Nat.le_of_ble_eq_true rfl, Nat.le_of_ble_eq_true rfl, rfl, rfl⟩ rfl rfl hl.1 (Nat.le_of_ble_eq_true rfl) dL_law_1186 hk hn (fun H2 locs2 h2 => ?_)
  refine lv_istore (lv' := [(6, .int v), (5, .int w), (0, .ref b0), (1, .ref (b 0)), (2, .ref (a 0)), (3, .ref o), (4, .int (nI i))]) hx hb dL_law_1189 hl (by decide) rfl (fun ls hl => ?_)
  refine lw_tail (tE := 1219) C h2 hl g2 g3 hk hn rfl dL_law_1191 dL_law_1192 dL_law_1195 dL_law_1197 dL_law_1202 dL_law_1204 dL_law_1207 dL_law_1208 dL_law_1209 dL_law_1210 dL_law_1212 dL_law_1213 dL_law_1214 dL_law_1219 (by decide) (fun H3 locs3 h3 => ?_)
  exact KK T u1 f2 r2 H3 locs3 ls hT2 (by omega) h3 (lv_sub hl [2, 3, 4, 5, 6] rfl)
set_option maxHeartbeats 1000000 in
set_option maxRecDepth 100000 in
theorem lwc_slips {p : Program} {l : Launch} {e : Env} {s : State} {m : MethodId} {below : List Frame} {meth : Method} {c : Code} {b0 L : Nat} {xs : Nat → Int32} {D : va_G} {K : Nat → ClassId} {b t x y : Nat → Nat} {α : Nat → Nat → Nat} {o : Nat} {a : Nat → Nat} (hL : L ≤ 2048) (C : lwC p l s m meth c b0 L xs D K) : lwCase p l e s m b0 below meth c L D K b t x y α o a 1222 := by
  intro T s1 f r1 H locs ls i k n hTop hT3 hi h hl hk hn KK
  obtain ⟨hx, hb, hr, hml, hown, hts, hX, hbl, hlocks, hK, hgX, hN, hfl⟩ := id C
  obtain ⟨A, hA⟩ := hTop
  obtain ⟨v, s2, r2, e1, e2, hT2⟩ := slips_step hA
  refine W.widen (k := k + 1) (n := n + 6) (by omega) (by omega) ?_
  refine lv_aload_n hx hb dL_law_1222 rfl (lv_at hl 1 rfl) ?_
  refine lw_class (na := 0) (As := []) C h (mX3_slips l D K b t x y α s1 (v, s2) e1) gL_law_X3_slips rfl (by decide) ⟨Nat.le_of_ble_eq_true rfl, Nat.le_of_ble_eq_true rfl, rfl, rfl⟩ rfl rfl hl.1 (Nat.le_of_ble_eq_true rfl) dL_law_1223 hk hn (fun H1 locs1 h1 => ?_)
  refine lv_aload_n hx hb dL_law_1226 rfl (lv_at hl 2 rfl) ?_
  refine lw_model (na := 0) (As := []) C h1 (mX4_slips l D K a r1 (v, r2) e2) gL_law_X4_slips rfl (by decide) ⟨Nat.le_of_ble_eq_true rfl, Nat.le_of_ble_eq_true rfl, rfl, rfl⟩ rfl rfl hl.1 (Nat.le_of_ble_eq_true rfl) dL_law_1227 hk hn (fun H2 locs2 h2 => ?_)
  refine lv_icmp_eq (tgt := 1659) hx hb dL_law_1230 (by decide) (fun _ => ?_) (fun q => absurd rfl q)
  exact KK T s2 f r2 H2 locs2 ls hT2 (by omega) h2 hl
set_option maxHeartbeats 1000000 in
set_option maxRecDepth 100000 in
theorem lwc_leastStrength {p : Program} {l : Launch} {e : Env} {s : State} {m : MethodId} {below : List Frame} {meth : Method} {c : Code} {b0 L : Nat} {xs : Nat → Int32} {D : va_G} {K : Nat → ClassId} {b t x y : Nat → Nat} {α : Nat → Nat → Nat} {o : Nat} {a : Nat → Nat} (hL : L ≤ 2048) (C : lwC p l s m meth c b0 L xs D K) : lwCase p l e s m b0 below meth c L D K b t x y α o a 1235 := by
  intro T s1 f r1 H locs ls i k n hTop hT3 hi h hl hk hn KK
  obtain ⟨hx, hb, hr, hml, hown, hts, hX, hbl, hlocks, hK, hgX, hN, hfl⟩ := id C
  obtain ⟨A, hA⟩ := hTop
  obtain ⟨res, v, s2, r2, e1, e2, hT2, hcd, hout⟩ := Step_res (fun z => cdL_le _ _ z) (least_step hA (xs (i + 1)))
  refine lv_aload_n hx hb dL_law_1235 rfl (lv_at hl 1 rfl) ?_
  refine lw_arg (j := 1) C h (lv_at hl 0 rfl) (lv_at hl 4 rfl) (by omega) hL rfl dL_law_1236 dL_law_1237 dL_law_1239 dL_law_1240 dL_law_1241 ?_
  refine lv_aload_n hx hb dL_law_1242 rfl (lv_at hl 3 rfl) ?_
  refine lw_static (na := 3) (argv := [.ref (b 0), .int (xs (i + 1)), .ref o]) C h (mL_leastStrength l hfl D K b t x y α o (s1, f) (xs (i + 1)) res e1 hcd) gL_law_L_leastStrength rfl (by decide) ⟨Nat.le_of_ble_eq_true rfl, Nat.le_of_ble_eq_true rfl⟩ rfl rfl hl.1 dL_law_1243 hk hn (fun w u H1 locs1 hw h1 => ?_)
  obtain ⟨u1, f2⟩ := u
  obtain ⟨g1, g2, g3⟩ := hout w (s1, f) (u1, f2) hw
  have g1 : u1 = s2 := g1
  subst g1
  refine lv_istore (lv' := [(5, .int w), (0, .ref b0), (1, .ref (b 0)), (2, .ref (a 0)), (3, .ref o), (4, .int (nI i))]) hx hb dL_law_1246 hl (by decide) rfl (fun ls hl => ?_)
  refine lv_aload_n hx hb dL_law_1248 rfl (lv_at hl 3 rfl) ?_
  refine lw_arg (j := 1) C h1 (lv_at hl 1 rfl) (lv_at hl 5 rfl) (by omega) hL rfl dL_law_1249 dL_law_1250 dL_law_1252 dL_law_1253 dL_law_1254 ?_
  refine lw_model (na := 1) (As := [.int (xs (i + 1))]) C h1 (mX4_leastStrength l D K a r1 (xs (i + 1)) (v, r2) e2) gL_law_X4_leastStrength rfl (by decide) ⟨Nat.le_of_ble_eq_true rfl, Nat.le_of_ble_eq_true rfl, rfl, rfl⟩ rfl rfl hl.1 (Nat.le_of_ble_eq_true rfl) dL_law_1255 hk hn (fun H2 locs2 h2 => ?_)
  refine lv_istore (lv' := [(6, .int v), (5, .int w), (0, .ref b0), (1, .ref (b 0)), (2, .ref (a 0)), (3, .ref o), (4, .int (nI i))]) hx hb dL_law_1258 hl (by decide) rfl (fun ls hl => ?_)
  refine lw_tail (tE := 1288) C h2 hl g2 g3 hk hn rfl dL_law_1260 dL_law_1261 dL_law_1264 dL_law_1266 dL_law_1271 dL_law_1273 dL_law_1276 dL_law_1277 dL_law_1278 dL_law_1279 dL_law_1281 dL_law_1282 dL_law_1283 dL_law_1288 (by decide) (fun H3 locs3 h3 => ?_)
  exact KK T u1 f2 r2 H3 locs3 ls hT2 (by omega) h3 (lv_sub hl [2, 3, 4, 5, 6] rfl)
set_option maxHeartbeats 1000000 in
set_option maxRecDepth 100000 in
theorem lwc_bestGate {p : Program} {l : Launch} {e : Env} {s : State} {m : MethodId} {below : List Frame} {meth : Method} {c : Code} {b0 L : Nat} {xs : Nat → Int32} {D : va_G} {K : Nat → ClassId} {b t x y : Nat → Nat} {α : Nat → Nat → Nat} {o : Nat} {a : Nat → Nat} (hL : L ≤ 2048) (C : lwC p l s m meth c b0 L xs D K) : lwCase p l e s m b0 below meth c L D K b t x y α o a 1291 := by
  intro T s1 f r1 H locs ls i k n hTop hT3 hi h hl hk hn KK
  obtain ⟨hx, hb, hr, hml, hown, hts, hX, hbl, hlocks, hK, hgX, hN, hfl⟩ := id C
  obtain ⟨A, hA⟩ := hTop
  obtain ⟨res, v, s2, r2, e1, e2, hT2, hcd, hout⟩ := Step_res (fun z => cdL_le _ _ z) (bestGate_step hA (xs (i + 1)))
  refine lv_aload_n hx hb dL_law_1291 rfl (lv_at hl 1 rfl) ?_
  refine lw_arg (j := 1) C h (lv_at hl 0 rfl) (lv_at hl 4 rfl) (by omega) hL rfl dL_law_1292 dL_law_1293 dL_law_1295 dL_law_1296 dL_law_1297 ?_
  refine lv_aload_n hx hb dL_law_1298 rfl (lv_at hl 3 rfl) ?_
  refine lw_static (na := 3) (argv := [.ref (b 0), .int (xs (i + 1)), .ref o]) C h (mL_bestGate l hfl D K b t x y α o (s1, f) (xs (i + 1)) res e1 hcd) gL_law_L_bestGate rfl (by decide) ⟨Nat.le_of_ble_eq_true rfl, Nat.le_of_ble_eq_true rfl⟩ rfl rfl hl.1 dL_law_1299 hk hn (fun w u H1 locs1 hw h1 => ?_)
  obtain ⟨u1, f2⟩ := u
  obtain ⟨g1, g2, g3⟩ := hout w (s1, f) (u1, f2) hw
  have g1 : u1 = s2 := g1
  subst g1
  refine lv_istore (lv' := [(5, .int w), (0, .ref b0), (1, .ref (b 0)), (2, .ref (a 0)), (3, .ref o), (4, .int (nI i))]) hx hb dL_law_1302 hl (by decide) rfl (fun ls hl => ?_)
  refine lv_aload_n hx hb dL_law_1304 rfl (lv_at hl 3 rfl) ?_
  refine lw_arg (j := 1) C h1 (lv_at hl 1 rfl) (lv_at hl 5 rfl) (by omega) hL rfl dL_law_1305 dL_law_1306 dL_law_1308 dL_law_1309 dL_law_1310 ?_
  refine lw_model (na := 1) (As := [.int (xs (i + 1))]) C h1 (mX4_bestGate l D K a r1 (xs (i + 1)) (v, r2) e2) gL_law_X4_bestGate rfl (by decide) ⟨Nat.le_of_ble_eq_true rfl, Nat.le_of_ble_eq_true rfl, rfl, rfl⟩ rfl rfl hl.1 (Nat.le_of_ble_eq_true rfl) dL_law_1311 hk hn (fun H2 locs2 h2 => ?_)
  refine lv_istore (lv' := [(6, .int v), (5, .int w), (0, .ref b0), (1, .ref (b 0)), (2, .ref (a 0)), (3, .ref o), (4, .int (nI i))]) hx hb dL_law_1314 hl (by decide) rfl (fun ls hl => ?_)
  refine lw_tail (tE := 1344) C h2 hl g2 g3 hk hn rfl dL_law_1316 dL_law_1317 dL_law_1320 dL_law_1322 dL_law_1327 dL_law_1329 dL_law_1332 dL_law_1333 dL_law_1334 dL_law_1335 dL_law_1337 dL_law_1338 dL_law_1339 dL_law_1344 (by decide) (fun H3 locs3 h3 => ?_)
  exact KK T u1 f2 r2 H3 locs3 ls hT2 (by omega) h3 (lv_sub hl [2, 3, 4, 5, 6] rfl)
set_option maxHeartbeats 1000000 in
set_option maxRecDepth 100000 in
theorem lwc_runScript {p : Program} {l : Launch} {e : Env} {s : State} {m : MethodId} {below : List Frame} {meth : Method} {c : Code} {b0 L : Nat} {xs : Nat → Int32} {D : va_G} {K : Nat → ClassId} {b t x y : Nat → Nat} {α : Nat → Nat → Nat} {o : Nat} {a : Nat → Nat} (hL : L ≤ 2048) (C : lwC p l s m meth c b0 L xs D K) : lwCase p l e s m b0 below meth c L D K b t x y α o a 1347 := by
  intro T s1 f r1 H locs ls i k n hTop hT3 hi h hl hk hn KK
  obtain ⟨hx, hb, hr, hml, hown, hts, hX, hbl, hlocks, hK, hgX, hN, hfl⟩ := id C
  obtain ⟨A, hA⟩ := hTop
  obtain ⟨res, v, s2, r2, e1, e2, hT2, hcd, hout⟩ := Step_res (fun z => cdL_le _ _ z) (runScript_step hA (xs (i + 1)) (lwLong (xs (i + 2)) (xs (i + 3))))
  refine lv_aload_n hx hb dL_law_1347 rfl (lv_at hl 1 rfl) ?_
  refine lw_arg (j := 1) C h (lv_at hl 0 rfl) (lv_at hl 4 rfl) (by omega) hL rfl dL_law_1348 dL_law_1349 dL_law_1351 dL_law_1352 dL_law_1353 ?_
  refine lw_argL (j := 2) (j2 := 3) C h (lv_at hl 0 rfl) (lv_at hl 4 rfl) (by omega) (by omega) hL rfl rfl lwCst dL_law_1354 dL_law_1355 dL_law_1357 dL_law_1358 dL_law_1359 dL_law_1360 dL_law_1361 dL_law_1363 dL_law_1364 dL_law_1365 dL_law_1367 dL_law_1368 dL_law_1369 dL_law_1370 dL_law_1371 dL_law_1374 dL_law_1375 ?_
  refine lv_aload_n hx hb dL_law_1376 rfl (lv_at hl 3 rfl) ?_
  refine lw_static (na := 4) (argv := [.ref (b 0), .int (xs (i + 1)), .long (lwLong (xs (i + 2)) (xs (i + 3))), .ref o]) C h (mL_runScript l hfl D K b t x y α o (s1, f) (xs (i + 1)) (lwLong (xs (i + 2)) (xs (i + 3))) res e1 hcd) gL_law_L_runScript rfl (by decide) ⟨Nat.le_of_ble_eq_true rfl, Nat.le_of_ble_eq_true rfl⟩ rfl rfl hl.1 dL_law_1377 hk hn (fun w u H1 locs1 hw h1 => ?_)
  obtain ⟨u1, f2⟩ := u
  obtain ⟨g1, g2, g3⟩ := hout w (s1, f) (u1, f2) hw
  have g1 : u1 = s2 := g1
  subst g1
  refine lv_istore (lv' := [(5, .int w), (0, .ref b0), (1, .ref (b 0)), (2, .ref (a 0)), (3, .ref o), (4, .int (nI i))]) hx hb dL_law_1380 hl (by decide) rfl (fun ls hl => ?_)
  refine lv_aload_n hx hb dL_law_1382 rfl (lv_at hl 3 rfl) ?_
  refine lw_arg (j := 1) C h1 (lv_at hl 1 rfl) (lv_at hl 5 rfl) (by omega) hL rfl dL_law_1383 dL_law_1384 dL_law_1386 dL_law_1387 dL_law_1388 ?_
  refine lw_argL (j := 2) (j2 := 3) C h1 (lv_at hl 1 rfl) (lv_at hl 5 rfl) (by omega) (by omega) hL rfl rfl lwCst dL_law_1389 dL_law_1390 dL_law_1392 dL_law_1393 dL_law_1394 dL_law_1395 dL_law_1396 dL_law_1398 dL_law_1399 dL_law_1400 dL_law_1402 dL_law_1403 dL_law_1404 dL_law_1405 dL_law_1406 dL_law_1409 dL_law_1410 ?_
  refine lw_model (na := 2) (As := [.int (xs (i + 1)), .long (lwLong (xs (i + 2)) (xs (i + 3)))]) C h1 (mX4_runScript l D K a r1 (xs (i + 1)) (lwLong (xs (i + 2)) (xs (i + 3))) (v, r2) e2) gL_law_X4_runScript rfl (by decide) ⟨Nat.le_of_ble_eq_true rfl, Nat.le_of_ble_eq_true rfl, rfl, rfl⟩ rfl rfl hl.1 (Nat.le_of_ble_eq_true rfl) dL_law_1411 hk hn (fun H2 locs2 h2 => ?_)
  refine lv_istore (lv' := [(6, .int v), (5, .int w), (0, .ref b0), (1, .ref (b 0)), (2, .ref (a 0)), (3, .ref o), (4, .int (nI i))]) hx hb dL_law_1414 hl (by decide) rfl (fun ls hl => ?_)
  refine lw_tail (tE := 1444) C h2 hl g2 g3 hk hn rfl dL_law_1416 dL_law_1417 dL_law_1420 dL_law_1422 dL_law_1427 dL_law_1429 dL_law_1432 dL_law_1433 dL_law_1434 dL_law_1435 dL_law_1437 dL_law_1438 dL_law_1439 dL_law_1444 (by decide) (fun H3 locs3 h3 => ?_)
  exact KK T u1 f2 r2 H3 locs3 ls hT2 (by omega) h3 (lv_sub hl [2, 3, 4, 5, 6] rfl)
set_option maxHeartbeats 1000000 in
set_option maxRecDepth 100000 in
theorem lwc_simulate {p : Program} {l : Launch} {e : Env} {s : State} {m : MethodId} {below : List Frame} {meth : Method} {c : Code} {b0 L : Nat} {xs : Nat → Int32} {D : va_G} {K : Nat → ClassId} {b t x y : Nat → Nat} {α : Nat → Nat → Nat} {o : Nat} {a : Nat → Nat} (hL : L ≤ 2048) (C : lwC p l s m meth c b0 L xs D K) : lwCase p l e s m b0 below meth c L D K b t x y α o a 1447 := by
  intro T s1 f r1 H locs ls i k n hTop hT3 hi h hl hk hn KK
  obtain ⟨hx, hb, hr, hml, hown, hts, hX, hbl, hlocks, hK, hgX, hN, hfl⟩ := id C
  obtain ⟨A, hA⟩ := hTop
  obtain ⟨res, v, s2, r2, e1, e2, hT2, hcd, hout⟩ := Step_res (fun z => cdL_le _ _ z) (simulate_step hA (lwLong (xs (i + 1)) (xs (i + 2))) (xs (i + 3)))
  refine lv_aload_n hx hb dL_law_1447 rfl (lv_at hl 1 rfl) ?_
  refine lw_argL (j := 1) (j2 := 2) C h (lv_at hl 0 rfl) (lv_at hl 4 rfl) (by omega) (by omega) hL rfl rfl lwCst dL_law_1448 dL_law_1449 dL_law_1451 dL_law_1452 dL_law_1453 dL_law_1454 dL_law_1455 dL_law_1457 dL_law_1458 dL_law_1459 dL_law_1461 dL_law_1462 dL_law_1463 dL_law_1464 dL_law_1465 dL_law_1468 dL_law_1469 ?_
  refine lw_arg (j := 3) C h (lv_at hl 0 rfl) (lv_at hl 4 rfl) (by omega) hL rfl dL_law_1470 dL_law_1471 dL_law_1473 dL_law_1474 dL_law_1475 ?_
  refine lv_aload_n hx hb dL_law_1476 rfl (lv_at hl 3 rfl) ?_
  refine lw_static (na := 4) (argv := [.ref (b 0), .long (lwLong (xs (i + 1)) (xs (i + 2))), .int (xs (i + 3)), .ref o]) C h (mL_simulate l hfl D K b t x y α o (s1, f) (lwLong (xs (i + 1)) (xs (i + 2))) (xs (i + 3)) res e1 hcd) gL_law_L_simulate rfl (by decide) ⟨Nat.le_of_ble_eq_true rfl, Nat.le_of_ble_eq_true rfl⟩ rfl rfl hl.1 dL_law_1477 hk hn (fun w u H1 locs1 hw h1 => ?_)
  obtain ⟨u1, f2⟩ := u
  obtain ⟨g1, g2, g3⟩ := hout w (s1, f) (u1, f2) hw
  have g1 : u1 = s2 := g1
  subst g1
  refine lv_istore (lv' := [(5, .int w), (0, .ref b0), (1, .ref (b 0)), (2, .ref (a 0)), (3, .ref o), (4, .int (nI i))]) hx hb dL_law_1480 hl (by decide) rfl (fun ls hl => ?_)
  refine lv_aload_n hx hb dL_law_1482 rfl (lv_at hl 3 rfl) ?_
  refine lw_argL (j := 1) (j2 := 2) C h1 (lv_at hl 1 rfl) (lv_at hl 5 rfl) (by omega) (by omega) hL rfl rfl lwCst dL_law_1483 dL_law_1484 dL_law_1486 dL_law_1487 dL_law_1488 dL_law_1489 dL_law_1490 dL_law_1492 dL_law_1493 dL_law_1494 dL_law_1496 dL_law_1497 dL_law_1498 dL_law_1499 dL_law_1500 dL_law_1503 dL_law_1504 ?_
  refine lw_arg (j := 3) C h1 (lv_at hl 1 rfl) (lv_at hl 5 rfl) (by omega) hL rfl dL_law_1505 dL_law_1506 dL_law_1508 dL_law_1509 dL_law_1510 ?_
  refine lw_model (na := 2) (As := [.long (lwLong (xs (i + 1)) (xs (i + 2))), .int (xs (i + 3))]) C h1 (mX4_simulate l D K a r1 (lwLong (xs (i + 1)) (xs (i + 2))) (xs (i + 3)) (v, r2) e2) gL_law_X4_simulate rfl (by decide) ⟨Nat.le_of_ble_eq_true rfl, Nat.le_of_ble_eq_true rfl, rfl, rfl⟩ rfl rfl hl.1 (Nat.le_of_ble_eq_true rfl) dL_law_1511 hk hn (fun H2 locs2 h2 => ?_)
  refine lv_istore (lv' := [(6, .int v), (5, .int w), (0, .ref b0), (1, .ref (b 0)), (2, .ref (a 0)), (3, .ref o), (4, .int (nI i))]) hx hb dL_law_1514 hl (by decide) rfl (fun ls hl => ?_)
  refine lw_tail (tE := 1544) C h2 hl g2 g3 hk hn rfl dL_law_1516 dL_law_1517 dL_law_1520 dL_law_1522 dL_law_1527 dL_law_1529 dL_law_1532 dL_law_1533 dL_law_1534 dL_law_1535 dL_law_1537 dL_law_1538 dL_law_1539 dL_law_1544 (by decide) (fun H3 locs3 h3 => ?_)
  exact KK T u1 f2 r2 H3 locs3 ls hT2 (by omega) h3 (lv_sub hl [2, 3, 4, 5, 6] rfl)
set_option maxHeartbeats 1000000 in
set_option maxRecDepth 100000 in
theorem lwc_save {p : Program} {l : Launch} {e : Env} {s : State} {m : MethodId} {below : List Frame} {meth : Method} {c : Code} {b0 L : Nat} {xs : Nat → Int32} {D : va_G} {K : Nat → ClassId} {b t x y : Nat → Nat} {α : Nat → Nat → Nat} {o : Nat} {a : Nat → Nat} (hL : L ≤ 2048) (C : lwC p l s m meth c b0 L xs D K) : lwCase p l e s m b0 below meth c L D K b t x y α o a 1547 := by
  intro T s1 f r1 H locs ls i k n hTop hT3 hi h hl hk hn KK
  obtain ⟨hx, hb, hr, hml, hown, hts, hX, hbl, hlocks, hK, hgX, hN, hfl⟩ := id C
  obtain ⟨A, hA⟩ := hTop
  obtain ⟨res, v, s2, r2, e1, e2, hT2, hcd, hout⟩ := Step_res (fun z => cdL_le _ _ z) (save_step hA (xs (i + 1)))
  refine lv_aload_n hx hb dL_law_1547 rfl (lv_at hl 1 rfl) ?_
  refine lw_arg (j := 1) C h (lv_at hl 0 rfl) (lv_at hl 4 rfl) (by omega) hL rfl dL_law_1548 dL_law_1549 dL_law_1551 dL_law_1552 dL_law_1553 ?_
  refine lv_aload_n hx hb dL_law_1554 rfl (lv_at hl 3 rfl) ?_
  refine lw_static (na := 3) (argv := [.ref (b 0), .int (xs (i + 1)), .ref o]) C h (mL_save l hfl D K b t x y α o (s1, f) (xs (i + 1)) res e1 hcd) gL_law_L_save rfl (by decide) ⟨Nat.le_of_ble_eq_true rfl, Nat.le_of_ble_eq_true rfl⟩ rfl rfl hl.1 dL_law_1555 hk hn (fun w u H1 locs1 hw h1 => ?_)
  obtain ⟨u1, f2⟩ := u
  obtain ⟨g1, g2, g3⟩ := hout w (s1, f) (u1, f2) hw
  have g1 : u1 = s2 := g1
  subst g1
  refine lv_istore (lv' := [(5, .int w), (0, .ref b0), (1, .ref (b 0)), (2, .ref (a 0)), (3, .ref o), (4, .int (nI i))]) hx hb dL_law_1558 hl (by decide) rfl (fun ls hl => ?_)
  refine lv_aload_n hx hb dL_law_1560 rfl (lv_at hl 3 rfl) ?_
  refine lw_arg (j := 1) C h1 (lv_at hl 1 rfl) (lv_at hl 5 rfl) (by omega) hL rfl dL_law_1561 dL_law_1562 dL_law_1564 dL_law_1565 dL_law_1566 ?_
  refine lw_model (na := 1) (As := [.int (xs (i + 1))]) C h1 (mX4_save l D K a r1 (xs (i + 1)) (v, r2) e2) gL_law_X4_save rfl (by decide) ⟨Nat.le_of_ble_eq_true rfl, Nat.le_of_ble_eq_true rfl, rfl, rfl⟩ rfl rfl hl.1 (Nat.le_of_ble_eq_true rfl) dL_law_1567 hk hn (fun H2 locs2 h2 => ?_)
  refine lv_istore (lv' := [(6, .int v), (5, .int w), (0, .ref b0), (1, .ref (b 0)), (2, .ref (a 0)), (3, .ref o), (4, .int (nI i))]) hx hb dL_law_1570 hl (by decide) rfl (fun ls hl => ?_)
  refine lw_tail (tE := 1600) C h2 hl g2 g3 hk hn rfl dL_law_1572 dL_law_1573 dL_law_1576 dL_law_1578 dL_law_1583 dL_law_1585 dL_law_1588 dL_law_1589 dL_law_1590 dL_law_1591 dL_law_1593 dL_law_1594 dL_law_1595 dL_law_1600 (by decide) (fun H3 locs3 h3 => ?_)
  exact KK T u1 f2 r2 H3 locs3 ls hT2 (by omega) h3 (lv_sub hl [2, 3, 4, 5, 6] rfl)
set_option maxHeartbeats 1000000 in
set_option maxRecDepth 100000 in
theorem lwc_restore {p : Program} {l : Launch} {e : Env} {s : State} {m : MethodId} {below : List Frame} {meth : Method} {c : Code} {b0 L : Nat} {xs : Nat → Int32} {D : va_G} {K : Nat → ClassId} {b t x y : Nat → Nat} {α : Nat → Nat → Nat} {o : Nat} {a : Nat → Nat} (hL : L ≤ 2048) (C : lwC p l s m meth c b0 L xs D K) : lwCase p l e s m b0 below meth c L D K b t x y α o a 1603 := by
  intro T s1 f r1 H locs ls i k n hTop hT3 hi h hl hk hn KK
  obtain ⟨hx, hb, hr, hml, hown, hts, hX, hbl, hlocks, hK, hgX, hN, hfl⟩ := id C
  obtain ⟨A, hA⟩ := hTop
  obtain ⟨res, v, s2, r2, e1, e2, hT2, hcd, hout⟩ := Step_res (fun z => cdL_le _ _ z) (restore_step hA (xs (i + 1)))
  refine lv_aload_n hx hb dL_law_1603 rfl (lv_at hl 1 rfl) ?_
  refine lw_arg (j := 1) C h (lv_at hl 0 rfl) (lv_at hl 4 rfl) (by omega) hL rfl dL_law_1604 dL_law_1605 dL_law_1607 dL_law_1608 dL_law_1609 ?_
  refine lv_aload_n hx hb dL_law_1610 rfl (lv_at hl 3 rfl) ?_
  refine lw_static (na := 3) (argv := [.ref (b 0), .int (xs (i + 1)), .ref o]) C h (mL_restore l hfl D K b t x y α o (s1, f) (xs (i + 1)) res e1 hcd) gL_law_L_restore rfl (by decide) ⟨Nat.le_of_ble_eq_true rfl, Nat.le_of_ble_eq_true rfl⟩ rfl rfl hl.1 dL_law_1611 hk hn (fun w u H1 locs1 hw h1 => ?_)
  obtain ⟨u1, f2⟩ := u
  obtain ⟨g1, g2, g3⟩ := hout w (s1, f) (u1, f2) hw
  have g1 : u1 = s2 := g1
  subst g1
  refine lv_istore (lv' := [(5, .int w), (0, .ref b0), (1, .ref (b 0)), (2, .ref (a 0)), (3, .ref o), (4, .int (nI i))]) hx hb dL_law_1614 hl (by decide) rfl (fun ls hl => ?_)
  refine lv_aload_n hx hb dL_law_1616 rfl (lv_at hl 3 rfl) ?_
  refine lw_arg (j := 1) C h1 (lv_at hl 1 rfl) (lv_at hl 5 rfl) (by omega) hL rfl dL_law_1617 dL_law_1618 dL_law_1620 dL_law_1621 dL_law_1622 ?_
  refine lw_model (na := 1) (As := [.int (xs (i + 1))]) C h1 (mX4_restore l D K a r1 (xs (i + 1)) (v, r2) e2) gL_law_X4_restore rfl (by decide) ⟨Nat.le_of_ble_eq_true rfl, Nat.le_of_ble_eq_true rfl, rfl, rfl⟩ rfl rfl hl.1 (Nat.le_of_ble_eq_true rfl) dL_law_1623 hk hn (fun H2 locs2 h2 => ?_)
  refine lv_istore (lv' := [(6, .int v), (5, .int w), (0, .ref b0), (1, .ref (b 0)), (2, .ref (a 0)), (3, .ref o), (4, .int (nI i))]) hx hb dL_law_1626 hl (by decide) rfl (fun ls hl => ?_)
  refine lw_tail (tE := 1656) C h2 hl g2 g3 hk hn rfl dL_law_1628 dL_law_1629 dL_law_1632 dL_law_1634 dL_law_1639 dL_law_1641 dL_law_1644 dL_law_1645 dL_law_1646 dL_law_1647 dL_law_1649 dL_law_1650 dL_law_1651 dL_law_1656 (by decide) (fun H3 locs3 h3 => ?_)
  exact KK T u1 f2 r2 H3 locs3 ls hT2 (by omega) h3 (lv_sub hl [2, 3, 4, 5, 6] rfl)
