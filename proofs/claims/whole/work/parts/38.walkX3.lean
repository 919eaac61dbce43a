set_option maxHeartbeats 4000000 in
set_option maxRecDepth 100000 in
theorem mX0_copyFrom (l : Launch) (D : va_G) (K : Nat → ClassId) (a a2 : Nat → Nat) (σ : (gS × gS)) (r : (gS × gS)) (hf : fX0_copyFrom σ  = some r) : gMv l yX0_copyFrom wsX0_copyFrom { frames := 2, cells := 0, slots := 0, locals := 85 } D (gT K) (L2 K a a2) [.ref (a 0), .ref (a2 0)] σ r := by
  refine mk_v (nL := 2) (cc := cX0_copyFrom) (by decide) rfl (Nat.le_of_ble_eq_true rfl) rfl rfl hf (fun g C => ?_)
  refine g_sub C (lv' := [(0, .ref (a 0)), (1, .ref (a2 0))]) [0, 1] rfl ?_
  unfold fX0_copyFrom
  refine g_aload_n C 1 dX0_copyFrom_0 rfl rfl ?_
  refine g_get C (fun _ h => List.mem_cons_of_mem _ (List.mem_append_right _ h)) 17 (L2g_17 K a a2 _) rfl 0 (by decide) (List.mem_of_getElem? (i := 1) rfl) rfl rfl dX0_copyFrom_1 ?_
  refine g_aload_n C 0 dX0_copyFrom_4 rfl rfl ?_
  refine g_get C (fun _ h => List.mem_cons_of_mem _ (List.mem_append_right _ h)) 0 (L2g_0 K a a2 _) rfl 0 (by decide) (List.mem_of_getElem? (i := 1) rfl) rfl rfl dX0_copyFrom_5 ?_
  refine g_callNv C (n := 2) (As := [.ref (a2 1), .ref (a 1)]) (rest := []) (fun r h => mX3_copyInts l D K (a2 1) (a 1) 3 (by decide) _ r h) (L2c_1 D K a a2 _) gX0_copyFrom_X3_copyInts_n40 (List.mem_of_getElem? (i := 1) rfl) (List.mem_of_getElem? (i := 11) rfl) (List.mem_of_getElem? (i := 10) rfl) rfl (by decide +kernel) ⟨Nat.le_of_ble_eq_true rfl, Nat.le_of_ble_eq_true rfl, rfl, rfl⟩ rfl rfl (Nat.le_of_ble_eq_true rfl) dX0_copyFrom_8 (fun r1 _ => ?_)
  refine g_state (fun u2 => ?_)
  refine g_aload_n C 1 dX0_copyFrom_11 rfl rfl ?_
  refine g_get C (fun _ h => List.mem_cons_of_mem _ (List.mem_append_right _ h)) 17 (L2g_17 K a a2 _) rfl 1 (by decide) (List.mem_of_getElem? (i := 2) rfl) rfl rfl dX0_copyFrom_12 ?_
  refine g_aload_n C 0 dX0_copyFrom_15 rfl rfl ?_
  refine g_get C (fun _ h => List.mem_cons_of_mem _ (List.mem_append_right _ h)) 0 (L2g_0 K a a2 _) rfl 1 (by decide) (List.mem_of_getElem? (i := 2) rfl) rfl rfl dX0_copyFrom_16 ?_
  refine g_callNv C (n := 2) (As := [.ref (a2 2), .ref (a 2)]) (rest := []) (fun r h => mX3_copyInts l D K (a2 2) (a 2) 3 (by decide) _ r h) (L2c_2 D K a a2 _) gX0_copyFrom_X3_copyInts_n40 (List.mem_of_getElem? (i := 1) rfl) (List.mem_of_getElem? (i := 11) rfl) (List.mem_of_getElem? (i := 10) rfl) rfl (by decide +kernel) ⟨Nat.le_of_ble_eq_true rfl, Nat.le_of_ble_eq_true rfl, rfl, rfl⟩ rfl rfl (Nat.le_of_ble_eq_true rfl) dX0_copyFrom_19 (fun r3 _ => ?_)
  refine g_state (fun u4 => ?_)
  refine g_aload_n C 1 dX0_copyFrom_22 rfl rfl ?_
  refine g_get C (fun _ h => List.mem_cons_of_mem _ (List.mem_append_right _ h)) 17 (L2g_17 K a a2 _) rfl 2 (by decide) (List.mem_of_getElem? (i := 3) rfl) rfl rfl dX0_copyFrom_23 ?_
  refine g_aload_n C 0 dX0_copyFrom_26 rfl rfl ?_
  refine g_get C (fun _ h => List.mem_cons_of_mem _ (List.mem_append_right _ h)) 0 (L2g_0 K a a2 _) rfl 2 (by decide) (List.mem_of_getElem? (i := 3) rfl) rfl rfl dX0_copyFrom_27 ?_
  refine g_callNv C (n := 2) (As := [.ref (a2 3), .ref (a 3)]) (rest := []) (fun r h => mX3_copyInts l D K (a2 3) (a 3) 3 (by decide) _ r h) (L2c_3 D K a a2 _) gX0_copyFrom_X3_copyInts_n40 (List.mem_of_getElem? (i := 1) rfl) (List.mem_of_getElem? (i := 11) rfl) (List.mem_of_getElem? (i := 10) rfl) rfl (by decide +kernel) ⟨Nat.le_of_ble_eq_true rfl, Nat.le_of_ble_eq_true rfl, rfl, rfl⟩ rfl rfl (Nat.le_of_ble_eq_true rfl) dX0_copyFrom_30 (fun r5 _ => ?_)
  refine g_state (fun u6 => ?_)
  refine g_aload_n C 1 dX0_copyFrom_33 rfl rfl ?_
  refine g_get C (fun _ h => List.mem_cons_of_mem _ (List.mem_append_right _ h)) 17 (L2g_17 K a a2 _) rfl 3 (by decide) (List.mem_of_getElem? (i := 4) rfl) rfl rfl dX0_copyFrom_34 ?_
  refine g_aload_n C 0 dX0_copyFrom_37 rfl rfl ?_
  refine g_get C (fun _ h => List.mem_cons_of_mem _ (List.mem_append_right _ h)) 0 (L2g_0 K a a2 _) rfl 3 (by decide) (List.mem_of_getElem? (i := 4) rfl) rfl rfl dX0_copyFrom_38 ?_
  refine g_callNv C (n := 2) (As := [.ref (a2 4), .ref (a 4)]) (rest := []) (fun r h => mX3_copyInts l D K (a2 4) (a 4) 3 (by decide) _ r h) (L2c_4 D K a a2 _) gX0_copyFrom_X3_copyInts_n40 (List.mem_of_getElem? (i := 1) rfl) (List.mem_of_getElem? (i := 11) rfl) (List.mem_of_getElem? (i := 10) rfl) rfl (by decide +kernel) ⟨Nat.le_of_ble_eq_true rfl, Nat.le_of_ble_eq_true rfl, rfl, rfl⟩ rfl rfl (Nat.le_of_ble_eq_true rfl) dX0_copyFrom_41 (fun r7 _ => ?_)
  refine g_state (fun u8 => ?_)
  refine g_aload_n C 1 dX0_copyFrom_44 rfl rfl ?_
  refine g_get C (fun _ h => List.mem_cons_of_mem _ (List.mem_append_right _ h)) 17 (L2g_17 K a a2 _) rfl 4 (by decide) (List.mem_of_getElem? (i := 5) rfl) rfl rfl dX0_copyFrom_45 ?_
  refine g_aload_n C 0 dX0_copyFrom_48 rfl rfl ?_
  refine g_get C (fun _ h => List.mem_cons_of_mem _ (List.mem_append_right _ h)) 0 (L2g_0 K a a2 _) rfl 4 (by decide) (List.mem_of_getElem? (i := 5) rfl) rfl rfl dX0_copyFrom_49 ?_
  refine g_callNv C (n := 2) (As := [.ref (a2 5), .ref (a 5)]) (rest := []) (fun r h => mX3_copyInts l D K (a2 5) (a 5) 60 (by decide) _ r h) (L2c_5 D K a a2 _) gX0_copyFrom_X3_copyInts_n40 (List.mem_of_getElem? (i := 1) rfl) (List.mem_of_getElem? (i := 11) rfl) (List.mem_of_getElem? (i := 10) rfl) rfl (by decide +kernel) ⟨Nat.le_of_ble_eq_true rfl, Nat.le_of_ble_eq_true rfl, rfl, rfl⟩ rfl rfl (Nat.le_of_ble_eq_true rfl) dX0_copyFrom_52 (fun r9 _ => ?_)
  refine g_state (fun u10 => ?_)
  refine g_aload_n C 1 dX0_copyFrom_55 rfl rfl ?_
  refine g_get C (fun _ h => List.mem_cons_of_mem _ (List.mem_append_right _ h)) 17 (L2g_17 K a a2 _) rfl 5 (by decide) (List.mem_of_getElem? (i := 6) rfl) rfl rfl dX0_copyFrom_56 ?_
  refine g_aload_n C 0 dX0_copyFrom_59 rfl rfl ?_
  refine g_get C (fun _ h => List.mem_cons_of_mem _ (List.mem_append_right _ h)) 0 (L2g_0 K a a2 _) rfl 5 (by decide) (List.mem_of_getElem? (i := 6) rfl) rfl rfl dX0_copyFrom_60 ?_
  refine g_callNv C (n := 2) (As := [.ref (a2 6), .ref (a 6)]) (rest := []) (fun r h => mX3_copyInts l D K (a2 6) (a 6) 10 (by decide) _ r h) (L2c_6 D K a a2 _) gX0_copyFrom_X3_copyInts_n40 (List.mem_of_getElem? (i := 1) rfl) (List.mem_of_getElem? (i := 11) rfl) (List.mem_of_getElem? (i := 10) rfl) rfl (by decide +kernel) ⟨Nat.le_of_ble_eq_true rfl, Nat.le_of_ble_eq_true rfl, rfl, rfl⟩ rfl rfl (Nat.le_of_ble_eq_true rfl) dX0_copyFrom_63 (fun r11 _ => ?_)
  refine g_state (fun u12 => ?_)
  refine g_aload_n C 1 dX0_copyFrom_66 rfl rfl ?_
  refine g_get C (fun _ h => List.mem_cons_of_mem _ (List.mem_append_right _ h)) 17 (L2g_17 K a a2 _) rfl 6 (by decide) (List.mem_of_getElem? (i := 7) rfl) rfl rfl dX0_copyFrom_67 ?_
  refine g_aload_n C 0 dX0_copyFrom_70 rfl rfl ?_
  refine g_get C (fun _ h => List.mem_cons_of_mem _ (List.mem_append_right _ h)) 0 (L2g_0 K a a2 _) rfl 6 (by decide) (List.mem_of_getElem? (i := 7) rfl) rfl rfl dX0_copyFrom_71 ?_
  refine g_callNv C (n := 2) (As := [.ref (a2 7), .ref (a 7)]) (rest := []) (fun r h => mX3_copyInts l D K (a2 7) (a 7) 10 (by decide) _ r h) (L2c_7 D K a a2 _) gX0_copyFrom_X3_copyInts_n40 (List.mem_of_getElem? (i := 1) rfl) (List.mem_of_getElem? (i := 11) rfl) (List.mem_of_getElem? (i := 10) rfl) rfl (by decide +kernel) ⟨Nat.le_of_ble_eq_true rfl, Nat.le_of_ble_eq_true rfl, rfl, rfl⟩ rfl rfl (Nat.le_of_ble_eq_true rfl) dX0_copyFrom_74 (fun r13 _ => ?_)
  refine g_state (fun u14 => ?_)
  refine g_aload_n C 1 dX0_copyFrom_77 rfl rfl ?_
  refine g_get C (fun _ h => List.mem_cons_of_mem _ (List.mem_append_right _ h)) 17 (L2g_17 K a a2 _) rfl 7 (by decide) (List.mem_of_getElem? (i := 8) rfl) rfl rfl dX0_copyFrom_78 ?_
  refine g_aload_n C 0 dX0_copyFrom_81 rfl rfl ?_
  refine g_get C (fun _ h => List.mem_cons_of_mem _ (List.mem_append_right _ h)) 0 (L2g_0 K a a2 _) rfl 7 (by decide) (List.mem_of_getElem? (i := 8) rfl) rfl rfl dX0_copyFrom_82 ?_
  refine g_callNv C (n := 2) (As := [.ref (a2 8), .ref (a 8)]) (rest := []) (fun r h => mX3_copyInts l D K (a2 8) (a 8) 10 (by decide) _ r h) (L2c_8 D K a a2 _) gX0_copyFrom_X3_copyInts_n40 (List.mem_of_getElem? (i := 1) rfl) (List.mem_of_getElem? (i := 11) rfl) (List.mem_of_getElem? (i := 10) rfl) rfl (by decide +kernel) ⟨Nat.le_of_ble_eq_true rfl, Nat.le_of_ble_eq_true rfl, rfl, rfl⟩ rfl rfl (Nat.le_of_ble_eq_true rfl) dX0_copyFrom_85 (fun r15 _ => ?_)
  refine g_state (fun u16 => ?_)
  refine g_aload_n C 0 dX0_copyFrom_88 rfl rfl ?_
  refine g_aload_n C 1 dX0_copyFrom_89 rfl rfl ?_
  refine g_get C (fun _ h => List.mem_cons_of_mem _ (List.mem_append_right _ h)) 17 (L2g_17 K a a2 _) rfl 8 (by decide) (List.mem_of_getElem? (i := 9) rfl) rfl rfl dX0_copyFrom_90 ?_
  refine g_topi (fun t17 => ?_)
  refine g_put C (ty := .int) (fun _ h => List.mem_cons_of_mem _ (List.mem_append_right _ h)) tyX0 tyX0_ok nmX0 0 (L2g_0 K a a2 _) rfl 8 (by decide) (List.mem_of_getElem? (i := 9) rfl) rfl rfl (by decide +kernel) rfl rfl (Nat.le_of_ble_eq_true rfl) (L2p_0_8 K a a2 _ _) dX0_copyFrom_93 ?_
  refine g_state (fun u18 => ?_)
  exact g_ret C ⟨dX0_copyFrom_96, rfl, rfl⟩
set_option maxHeartbeats 4000000 in
set_option maxRecDepth 100000 in
theorem mX1_copyFrom (l : Launch) (D : va_G) (K : Nat → ClassId) (a a2 : Nat → Nat) (σ : (gS × gS)) (r : (gS × gS)) (hf : fX1_copyFrom σ  = some r) : gMv l yX1_copyFrom wsX1_copyFrom { frames := 3, cells := 0, slots := 0, locals := 106 } D (gT K) (L2 K a a2) [.ref (a 9), .ref (a2 9)] σ r := by
  refine mk_v (nL := 3) (cc := cX1_copyFrom) (by decide) rfl (Nat.le_of_ble_eq_true rfl) rfl rfl hf (fun g C => ?_)
  refine g_sub C (lv' := [(0, .ref (a 9)), (1, .ref (a2 9))]) [0, 1] rfl ?_
  unfold fX1_copyFrom
  have h_57 : ∀ (n : Nat) (σ : (gS × gS)) (v2 : Int32), g (fX1_copyFrom_L57 n σ v2) 57 [(0, .ref (a 9)), (1, .ref (a2 9)), (2, .int v2)] [] σ := by
    intro n
    induction n with
    | zero =>
      intro σ v2
      exact g_none C
    | succ n57 ih_57 =>
      intro σ v2
      unfold fX1_copyFrom_L57
      refine g_iload_n C 2 dX1_copyFrom_57 rfl rfl ?_
      refine g_bipush C (v := (6 : Int32)) dX1_copyFrom_58 (by decide) ?_
      refine g_icmp_ge C 81 dX1_copyFrom_60 (by decide) (fun _ => ?_) (fun _ => ?_)
      · refine g_aload_n C 1 dX1_copyFrom_81 rfl rfl ?_
        refine g_get C (fun _ h => List.mem_cons_of_mem _ (List.mem_append_left _ (List.mem_append_right _ h))) 26 (L2g_26 K a a2 _) rfl 6 (by decide) (List.mem_of_getElem? (i := 7) rfl) rfl rfl dX1_copyFrom_82 ?_
        refine g_aload_n C 0 dX1_copyFrom_85 rfl rfl ?_
        refine g_get C (fun _ h => List.mem_cons_of_mem _ (List.mem_append_left _ (List.mem_append_right _ h))) 9 (L2g_9 K a a2 _) rfl 6 (by decide) (List.mem_of_getElem? (i := 7) rfl) rfl rfl dX1_copyFrom_86 ?_
        refine g_callNv C (n := 2) (As := [.ref (a2 15), .ref (a 15)]) (rest := []) (fun r h => mX3_copyInts l D K (a2 15) (a 15) 20 (by decide) _ r h) (L2c_15 D K a a2 _) gX1_copyFrom_X3_copyInts_n71 (List.mem_of_getElem? (i := 4) rfl) (List.mem_of_getElem? (i := 31) rfl) (List.mem_of_getElem? (i := 30) rfl) rfl (by decide +kernel) ⟨Nat.le_of_ble_eq_true rfl, Nat.le_of_ble_eq_true rfl, rfl, rfl⟩ rfl rfl (Nat.le_of_ble_eq_true rfl) dX1_copyFrom_89 (fun r1 _ => ?_)
        refine g_state (fun u2 => ?_)
        refine g_aload_n C 1 dX1_copyFrom_92 rfl rfl ?_
        refine g_get C (fun _ h => List.mem_cons_of_mem _ (List.mem_append_left _ (List.mem_append_right _ h))) 26 (L2g_26 K a a2 _) rfl 7 (by decide) (List.mem_of_getElem? (i := 8) rfl) rfl rfl dX1_copyFrom_93 ?_
        refine g_aload_n C 0 dX1_copyFrom_96 rfl rfl ?_
        refine g_get C (fun _ h => List.mem_cons_of_mem _ (List.mem_append_left _ (List.mem_append_right _ h))) 9 (L2g_9 K a a2 _) rfl 7 (by decide) (List.mem_of_getElem? (i := 8) rfl) rfl rfl dX1_copyFrom_97 ?_
        refine g_callNv C (n := 2) (As := [.ref (a2 16), .ref (a 16)]) (rest := []) (fun r h => mX3_copyInts l D K (a2 16) (a 16) 20 (by decide) _ r h) (L2c_16 D K a a2 _) gX1_copyFrom_X3_copyInts_n71 (List.mem_of_getElem? (i := 4) rfl) (List.mem_of_getElem? (i := 31) rfl) (List.mem_of_getElem? (i := 30) rfl) rfl (by decide +kernel) ⟨Nat.le_of_ble_eq_true rfl, Nat.le_of_ble_eq_true rfl, rfl, rfl⟩ rfl rfl (Nat.le_of_ble_eq_true rfl) dX1_copyFrom_100 (fun r3 _ => ?_)
        refine g_state (fun u4 => ?_)
        refine g_aload_n C 0 dX1_copyFrom_103 rfl rfl ?_
        refine g_aload_n C 1 dX1_copyFrom_104 rfl rfl ?_
        refine g_get C (fun _ h => List.mem_cons_of_mem _ (List.mem_append_left _ (List.mem_append_right _ h))) 26 (L2g_26 K a a2 _) rfl 8 (by decide) (List.mem_of_getElem? (i := 9) rfl) rfl rfl dX1_copyFrom_105 ?_
        refine g_topi (fun t5 => ?_)
        refine g_put C (ty := .int) (fun _ h => List.mem_cons_of_mem _ (List.mem_append_left _ (List.mem_append_right _ h))) tyX1 tyX1_ok nmX1 9 (L2g_9 K a a2 _) rfl 8 (by decide) (List.mem_of_getElem? (i := 9) rfl) rfl rfl (by decide +kernel) rfl rfl (Nat.le_of_ble_eq_true rfl) (L2p_9_8 K a a2 _ _) dX1_copyFrom_108 ?_
        refine g_state (fun u6 => ?_)
        refine g_aload_n C 0 dX1_copyFrom_111 rfl rfl ?_
        refine g_aload_n C 1 dX1_copyFrom_112 rfl rfl ?_
        refine g_get C (fun _ h => List.mem_cons_of_mem _ (List.mem_append_left _ (List.mem_append_right _ h))) 26 (L2g_26 K a a2 _) rfl 9 (by decide) (List.mem_of_getElem? (i := 10) rfl) rfl rfl dX1_copyFrom_113 ?_
        refine g_topi (fun t7 => ?_)
        refine g_put C (ty := .int) (fun _ h => List.mem_cons_of_mem _ (List.mem_append_left _ (List.mem_append_right _ h))) tyX1 tyX1_ok nmX1 9 (L2g_9 K a a2 _) rfl 9 (by decide) (List.mem_of_getElem? (i := 10) rfl) rfl rfl (by decide +kernel) rfl rfl (Nat.le_of_ble_eq_true rfl) (L2p_9_9 K a a2 _ _) dX1_copyFrom_116 ?_
        refine g_state (fun u8 => ?_)
        refine g_aload_n C 0 dX1_copyFrom_119 rfl rfl ?_
        refine g_aload_n C 1 dX1_copyFrom_120 rfl rfl ?_
        refine g_get C (fun _ h => List.mem_cons_of_mem _ (List.mem_append_left _ (List.mem_append_right _ h))) 26 (L2g_26 K a a2 _) rfl 10 (by decide) (List.mem_of_getElem? (i := 11) rfl) rfl rfl dX1_copyFrom_121 ?_
        refine g_topi (fun t9 => ?_)
        refine g_put C (ty := .int) (fun _ h => List.mem_cons_of_mem _ (List.mem_append_left _ (List.mem_append_right _ h))) tyX1 tyX1_ok nmX1 9 (L2g_9 K a a2 _) rfl 10 (by decide) (List.mem_of_getElem? (i := 11) rfl) rfl rfl (by decide +kernel) rfl rfl (Nat.le_of_ble_eq_true rfl) (L2p_9_10 K a a2 _ _) dX1_copyFrom_124 ?_
        refine g_state (fun u10 => ?_)
        refine g_aload_n C 0 dX1_copyFrom_127 rfl rfl ?_
        refine g_aload_n C 1 dX1_copyFrom_128 rfl rfl ?_
        refine g_get C (fun _ h => List.mem_cons_of_mem _ (List.mem_append_left _ (List.mem_append_right _ h))) 26 (L2g_26 K a a2 _) rfl 11 (by decide) (List.mem_of_getElem? (i := 12) rfl) rfl rfl dX1_copyFrom_129 ?_
        refine g_topi (fun t11 => ?_)
        refine g_put C (ty := .int) (fun _ h => List.mem_cons_of_mem _ (List.mem_append_left _ (List.mem_append_right _ h))) tyX1 tyX1_ok nmX1 9 (L2g_9 K a a2 _) rfl 11 (by decide) (List.mem_of_getElem? (i := 12) rfl) rfl rfl (by decide +kernel) rfl rfl (Nat.le_of_ble_eq_true rfl) (L2p_9_11 K a a2 _ _) dX1_copyFrom_132 ?_
        refine g_state (fun u12 => ?_)
        refine g_aload_n C 0 dX1_copyFrom_135 rfl rfl ?_
        refine g_aload_n C 1 dX1_copyFrom_136 rfl rfl ?_
        refine g_get C (fun _ h => List.mem_cons_of_mem _ (List.mem_append_left _ (List.mem_append_right _ h))) 26 (L2g_26 K a a2 _) rfl 12 (by decide) (List.mem_of_getElem? (i := 13) rfl) rfl rfl dX1_copyFrom_137 ?_
        refine g_topi (fun t13 => ?_)
        refine g_put C (ty := .int) (fun _ h => List.mem_cons_of_mem _ (List.mem_append_left _ (List.mem_append_right _ h))) tyX1 tyX1_ok nmX1 9 (L2g_9 K a a2 _) rfl 12 (by decide) (List.mem_of_getElem? (i := 13) rfl) rfl rfl (by decide +kernel) rfl rfl (Nat.le_of_ble_eq_true rfl) (L2p_9_12 K a a2 _ _) dX1_copyFrom_140 ?_
        refine g_state (fun u14 => ?_)
        refine g_aload_n C 0 dX1_copyFrom_143 rfl rfl ?_
        refine g_aload_n C 1 dX1_copyFrom_144 rfl rfl ?_
        refine g_get C (fun _ h => List.mem_cons_of_mem _ (List.mem_append_left _ (List.mem_append_right _ h))) 26 (L2g_26 K a a2 _) rfl 13 (by decide) (List.mem_of_getElem? (i := 14) rfl) rfl rfl dX1_copyFrom_145 ?_
        refine g_topi (fun t15 => ?_)
        refine g_put C (ty := .int) (fun _ h => List.mem_cons_of_mem _ (List.mem_append_left _ (List.mem_append_right _ h))) tyX1 tyX1_ok nmX1 9 (L2g_9 K a a2 _) rfl 13 (by decide) (List.mem_of_getElem? (i := 14) rfl) rfl rfl (by decide +kernel) rfl rfl (Nat.le_of_ble_eq_true rfl) (L2p_9_13 K a a2 _ _) dX1_copyFrom_148 ?_
        refine g_state (fun u16 => ?_)
        refine g_aload_n C 0 dX1_copyFrom_151 rfl rfl ?_
        refine g_aload_n C 1 dX1_copyFrom_152 rfl rfl ?_
        refine g_get C (fun _ h => List.mem_cons_of_mem _ (List.mem_append_left _ (List.mem_append_right _ h))) 26 (L2g_26 K a a2 _) rfl 14 (by decide) (List.mem_of_getElem? (i := 15) rfl) rfl rfl dX1_copyFrom_153 ?_
        refine g_topi (fun t17 => ?_)
        refine g_put C (ty := .int) (fun _ h => List.mem_cons_of_mem _ (List.mem_append_left _ (List.mem_append_right _ h))) tyX1 tyX1_ok nmX1 9 (L2g_9 K a a2 _) rfl 14 (by decide) (List.mem_of_getElem? (i := 15) rfl) rfl rfl (by decide +kernel) rfl rfl (Nat.le_of_ble_eq_true rfl) (L2p_9_14 K a a2 _ _) dX1_copyFrom_156 ?_
        refine g_state (fun u18 => ?_)
        exact g_ret C ⟨dX1_copyFrom_159, rfl, rfl⟩
      · refine g_aload_n C 0 dX1_copyFrom_63 rfl rfl ?_
        refine g_get C (fun _ h => List.mem_cons_of_mem _ (List.mem_append_left _ (List.mem_append_right _ h))) 9 (L2g_9 K a a2 _) rfl 5 (by decide) (List.mem_of_getElem? (i := 6) rfl) rfl rfl dX1_copyFrom_64 ?_
        refine g_iload_n C 2 dX1_copyFrom_67 rfl rfl ?_
        refine g_aload_n C 1 dX1_copyFrom_68 rfl rfl ?_
        refine g_get C (fun _ h => List.mem_cons_of_mem _ (List.mem_append_left _ (List.mem_append_right _ h))) 26 (L2g_26 K a a2 _) rfl 5 (by decide) (List.mem_of_getElem? (i := 6) rfl) rfl rfl dX1_copyFrom_69 ?_
        refine g_iload_n C 2 dX1_copyFrom_72 rfl rfl ?_
        refine g_zaldG C 31 1 (L2g_31 K a a2 _) rfl dX1_copyFrom_73 ?_
        refine g_topi (fun t19 => ?_)
        refine g_bool C (fun b20 => ?_)
        refine g_zastG C 14 1 (L2g_14 K a a2 _) rfl b20 (L2s_14 K a a2 _ _) dX1_copyFrom_74 ?_
        refine g_state (fun u21 => ?_)
        refine g_iinc C (w := (1 : Int32)) (lv' := [(2, .int (v2 + (1 : Int32))), (0, .ref (a 9)), (1, .ref (a2 9))]) 2 dX1_copyFrom_75 rfl ic_1 (by decide) rfl ?_
        refine g_goto C 57 dX1_copyFrom_78 (by decide) ?_
        refine g_sub C (lv' := [(0, .ref (a 9)), (1, .ref (a2 9)), (2, .int (v2 + (1 : Int32)))]) [1, 2, 0] rfl ?_
        exact ih_57 u21 (v2 + (1 : Int32))
  refine g_aload_n C 0 dX1_copyFrom_0 rfl rfl ?_
  refine g_get C (fun _ h => List.mem_cons_of_mem _ (List.mem_append_left _ (List.mem_append_right _ h))) 9 (L2g_9 K a a2 _) rfl 0 (by decide) (List.mem_of_getElem? (i := 1) rfl) rfl rfl dX1_copyFrom_1 ?_
  refine g_aload_n C 1 dX1_copyFrom_4 rfl rfl ?_
  refine g_get C (fun _ h => List.mem_cons_of_mem _ (List.mem_append_left _ (List.mem_append_right _ h))) 26 (L2g_26 K a a2 _) rfl 0 (by decide) (List.mem_of_getElem? (i := 1) rfl) rfl rfl dX1_copyFrom_5 ?_
  refine g_callVv C (n := 1) (As := [.ref (a2 0)]) (rest := []) (fun r h => mX0_copyFrom l D K a a2 _ r h) gE.same gX1_copyFrom_X0_copyFrom rfl (by decide +kernel) ⟨Nat.le_of_ble_eq_true rfl, Nat.le_of_ble_eq_true rfl, rfl, rfl⟩ 0 (L2g_0 K a a2 _) rfl rfl rfl (Nat.le_of_ble_eq_true rfl) dX1_copyFrom_8 (fun r22 _ => ?_)
  refine g_aload_n C 1 dX1_copyFrom_11 rfl rfl ?_
  refine g_get C (fun _ h => List.mem_cons_of_mem _ (List.mem_append_left _ (List.mem_append_right _ h))) 26 (L2g_26 K a a2 _) rfl 1 (by decide) (List.mem_of_getElem? (i := 2) rfl) rfl rfl dX1_copyFrom_12 ?_
  refine g_aload_n C 0 dX1_copyFrom_15 rfl rfl ?_
  refine g_get C (fun _ h => List.mem_cons_of_mem _ (List.mem_append_left _ (List.mem_append_right _ h))) 9 (L2g_9 K a a2 _) rfl 1 (by decide) (List.mem_of_getElem? (i := 2) rfl) rfl rfl dX1_copyFrom_16 ?_
  refine g_callNv C (n := 2) (As := [.ref (a2 10), .ref (a 10)]) (rest := []) (fun r h => mX3_copyInts l D K (a2 10) (a 10) 6 (by decide) _ r h) (L2c_10 D K a a2 _) gX1_copyFrom_X3_copyInts_n71 (List.mem_of_getElem? (i := 4) rfl) (List.mem_of_getElem? (i := 31) rfl) (List.mem_of_getElem? (i := 30) rfl) rfl (by decide +kernel) ⟨Nat.le_of_ble_eq_true rfl, Nat.le_of_ble_eq_true rfl, rfl, rfl⟩ rfl rfl (Nat.le_of_ble_eq_true rfl) dX1_copyFrom_19 (fun r23 _ => ?_)
  refine g_state (fun u24 => ?_)
  refine g_aload_n C 1 dX1_copyFrom_22 rfl rfl ?_
  refine g_get C (fun _ h => List.mem_cons_of_mem _ (List.mem_append_left _ (List.mem_append_right _ h))) 26 (L2g_26 K a a2 _) rfl 2 (by decide) (List.mem_of_getElem? (i := 3) rfl) rfl rfl dX1_copyFrom_23 ?_
  refine g_aload_n C 0 dX1_copyFrom_26 rfl rfl ?_
  refine g_get C (fun _ h => List.mem_cons_of_mem _ (List.mem_append_left _ (List.mem_append_right _ h))) 9 (L2g_9 K a a2 _) rfl 2 (by decide) (List.mem_of_getElem? (i := 3) rfl) rfl rfl dX1_copyFrom_27 ?_
  refine g_callNv C (n := 2) (As := [.ref (a2 11), .ref (a 11)]) (rest := []) (fun r h => mX3_copyInts l D K (a2 11) (a 11) 6 (by decide) _ r h) (L2c_11 D K a a2 _) gX1_copyFrom_X3_copyInts_n71 (List.mem_of_getElem? (i := 4) rfl) (List.mem_of_getElem? (i := 31) rfl) (List.mem_of_getElem? (i := 30) rfl) rfl (by decide +kernel) ⟨Nat.le_of_ble_eq_true rfl, Nat.le_of_ble_eq_true rfl, rfl, rfl⟩ rfl rfl (Nat.le_of_ble_eq_true rfl) dX1_copyFrom_30 (fun r25 _ => ?_)
  refine g_state (fun u26 => ?_)
  refine g_aload_n C 1 dX1_copyFrom_33 rfl rfl ?_
  refine g_get C (fun _ h => List.mem_cons_of_mem _ (List.mem_append_left _ (List.mem_append_right _ h))) 26 (L2g_26 K a a2 _) rfl 3 (by decide) (List.mem_of_getElem? (i := 4) rfl) rfl rfl dX1_copyFrom_34 ?_
  refine g_aload_n C 0 dX1_copyFrom_37 rfl rfl ?_
  refine g_get C (fun _ h => List.mem_cons_of_mem _ (List.mem_append_left _ (List.mem_append_right _ h))) 9 (L2g_9 K a a2 _) rfl 3 (by decide) (List.mem_of_getElem? (i := 4) rfl) rfl rfl dX1_copyFrom_38 ?_
  refine g_callNv C (n := 2) (As := [.ref (a2 12), .ref (a 12)]) (rest := []) (fun r h => mX3_copyInts l D K (a2 12) (a 12) 6 (by decide) _ r h) (L2c_12 D K a a2 _) gX1_copyFrom_X3_copyInts_n71 (List.mem_of_getElem? (i := 4) rfl) (List.mem_of_getElem? (i := 31) rfl) (List.mem_of_getElem? (i := 30) rfl) rfl (by decide +kernel) ⟨Nat.le_of_ble_eq_true rfl, Nat.le_of_ble_eq_true rfl, rfl, rfl⟩ rfl rfl (Nat.le_of_ble_eq_true rfl) dX1_copyFrom_41 (fun r27 _ => ?_)
  refine g_state (fun u28 => ?_)
  refine g_aload_n C 1 dX1_copyFrom_44 rfl rfl ?_
  refine g_get C (fun _ h => List.mem_cons_of_mem _ (List.mem_append_left _ (List.mem_append_right _ h))) 26 (L2g_26 K a a2 _) rfl 4 (by decide) (List.mem_of_getElem? (i := 5) rfl) rfl rfl dX1_copyFrom_45 ?_
  refine g_aload_n C 0 dX1_copyFrom_48 rfl rfl ?_
  refine g_get C (fun _ h => List.mem_cons_of_mem _ (List.mem_append_left _ (List.mem_append_right _ h))) 9 (L2g_9 K a a2 _) rfl 4 (by decide) (List.mem_of_getElem? (i := 5) rfl) rfl rfl dX1_copyFrom_49 ?_
  refine g_callNv C (n := 2) (As := [.ref (a2 13), .ref (a 13)]) (rest := []) (fun r h => mX3_copyInts l D K (a2 13) (a 13) 6 (by decide) _ r h) (L2c_13 D K a a2 _) gX1_copyFrom_X3_copyInts_n71 (List.mem_of_getElem? (i := 4) rfl) (List.mem_of_getElem? (i := 31) rfl) (List.mem_of_getElem? (i := 30) rfl) rfl (by decide +kernel) ⟨Nat.le_of_ble_eq_true rfl, Nat.le_of_ble_eq_true rfl, rfl, rfl⟩ rfl rfl (Nat.le_of_ble_eq_true rfl) dX1_copyFrom_52 (fun r29 _ => ?_)
  refine g_state (fun u30 => ?_)
  refine g_iconst C (v := (0 : Int32)) dX1_copyFrom_55 ic_0 ?_
  refine g_istore_n C (lv' := [(2, .int (0 : Int32)), (0, .ref (a 9)), (1, .ref (a2 9))]) dX1_copyFrom_56 rfl (by decide) rfl ?_
  refine g_sub C (lv' := [(0, .ref (a 9)), (1, .ref (a2 9)), (2, .int (0 : Int32))]) [1, 2, 0] rfl ?_
  exact h_57 gFuel u30 (0 : Int32)
set_option maxHeartbeats 4000000 in
set_option maxRecDepth 100000 in
theorem mX3_requireBook (l : Launch) (D : va_G) (K : Nat → ClassId) (p0 : Int32) (r : ((Nat × Unit) ⊕ Unit)) (hfl : l.stackTraces = false) (hf : fX3_requireBook p0 = some r) : gMxv l yX3_requireBook wsX3_requireBook 6 82 D (gT K) (fun _ : Unit => []) [.int p0] () r := by
  refine mk_xv (nL := 1) (cc := cX3_requireBook) hfl (by decide) rfl (Nat.le_of_ble_eq_true rfl) hf (fun ce sl g CX => ?_)
  have C := CX.C
  refine g_sub C (lv' := [(0, .int p0)]) [0] rfl ?_
  unfold fX3_requireBook
  refine g_iload_n C 0 dX3_requireBook_0 rfl rfl ?_
  refine g_callSi C (n := 1) (As := [.int p0]) (rest := []) (fun r h => mX3_isBook l D K _ r h) gE.nil (τ := ()) gX3_requireBook_X3_isBook rfl (by decide +kernel) ⟨Nat.le_of_ble_eq_true rfl, Nat.le_of_ble_eq_true rfl, rfl, rfl⟩ rfl rfl (Nat.le_of_ble_eq_true rfl) dX3_requireBook_1 (fun r1 _ => ?_)
  refine g_if_ne C 18 dX3_requireBook_4 (by decide) (fun _ => ?_) (fun _ => ?_)
  · exact g_throwSW CX rfl (by decide) (List.mem_of_getElem? (i := 1) rfl) (List.mem_of_getElem? (i := 2) rfl) (List.mem_of_getElem? (i := 11) rfl) (fun _ h => List.mem_cons_of_mem _ (List.mem_append_right _ h)) nonGood3 (allOt3 _) dX3_requireBook_7 dX3_requireBook_10 dX3_requireBook_11 dX3_requireBook_14 dX3_requireBook_17 (Nat.le_of_ble_eq_true rfl) (Nat.le_of_ble_eq_true rfl)
  · exact g_ret C ⟨rfl, dX3_requireBook_18, rfl⟩
set_option maxHeartbeats 4000000 in
set_option maxRecDepth 100000 in
theorem mX3_requireVisitor (l : Launch) (D : va_G) (K : Nat → ClassId) (p0 : Int32) (r : ((Nat × Unit) ⊕ Unit)) (hfl : l.stackTraces = false) (hf : fX3_requireVisitor p0 = some r) : gMxv l yX3_requireVisitor wsX3_requireVisitor 6 82 D (gT K) (fun _ : Unit => []) [.int p0] () r := by
  refine mk_xv (nL := 1) (cc := cX3_requireVisitor) hfl (by decide) rfl (Nat.le_of_ble_eq_true rfl) hf (fun ce sl g CX => ?_)
  have C := CX.C
  refine g_sub C (lv' := [(0, .int p0)]) [0] rfl ?_
  unfold fX3_requireVisitor
  refine g_iload_n C 0 dX3_requireVisitor_0 rfl rfl ?_
  refine g_callSi C (n := 1) (As := [.int p0]) (rest := []) (fun r h => mX3_isVisitor l D K _ r h) gE.nil (τ := ()) gX3_requireVisitor_X3_isVisitor rfl (by decide +kernel) ⟨Nat.le_of_ble_eq_true rfl, Nat.le_of_ble_eq_true rfl, rfl, rfl⟩ rfl rfl (Nat.le_of_ble_eq_true rfl) dX3_requireVisitor_1 (fun r1 _ => ?_)
  refine g_if_ne C 18 dX3_requireVisitor_4 (by decide) (fun _ => ?_) (fun _ => ?_)
  · exact g_throwSW CX rfl (by decide) (List.mem_of_getElem? (i := 1) rfl) (List.mem_of_getElem? (i := 2) rfl) (List.mem_of_getElem? (i := 12) rfl) (fun _ h => List.mem_cons_of_mem _ (List.mem_append_right _ h)) nonGood3 (allOt3 _) dX3_requireVisitor_7 dX3_requireVisitor_10 dX3_requireVisitor_11 dX3_requireVisitor_14 dX3_requireVisitor_17 (Nat.le_of_ble_eq_true rfl) (Nat.le_of_ble_eq_true rfl)
  · exact g_ret C ⟨rfl, dX3_requireVisitor_18, rfl⟩
set_option maxHeartbeats 4000000 in
set_option maxRecDepth 100000 in
theorem mX3_requireGate (l : Launch) (D : va_G) (K : Nat → ClassId) (p0 : Int32) (r : ((Nat × Unit) ⊕ Unit)) (hfl : l.stackTraces = false) (hf : fX3_requireGate p0 = some r) : gMxv l yX3_requireGate wsX3_requireGate 6 82 D (gT K) (fun _ : Unit => []) [.int p0] () r := by
  refine mk_xv (nL := 1) (cc := cX3_requireGate) hfl (by decide) rfl (Nat.le_of_ble_eq_true rfl) hf (fun ce sl g CX => ?_)
  have C := CX.C
  refine g_sub C (lv' := [(0, .int p0)]) [0] rfl ?_
  unfold fX3_requireGate
  refine g_iload_n C 0 dX3_requireGate_0 rfl rfl ?_
  refine g_callSi C (n := 1) (As := [.int p0]) (rest := []) (fun r h => mX3_isGate l D K _ r h) gE.nil (τ := ()) gX3_requireGate_X3_isGate rfl (by decide +kernel) ⟨Nat.le_of_ble_eq_true rfl, Nat.le_of_ble_eq_true rfl, rfl, rfl⟩ rfl rfl (Nat.le_of_ble_eq_true rfl) dX3_requireGate_1 (fun r1 _ => ?_)
  refine g_if_ne C 18 dX3_requireGate_4 (by decide) (fun _ => ?_) (fun _ => ?_)
  · exact g_throwSW CX rfl (by decide) (List.mem_of_getElem? (i := 1) rfl) (List.mem_of_getElem? (i := 2) rfl) (List.mem_of_getElem? (i := 13) rfl) (fun _ h => List.mem_cons_of_mem _ (List.mem_append_right _ h)) nonGood3 (allOt3 _) dX3_requireGate_7 dX3_requireGate_10 dX3_requireGate_11 dX3_requireGate_14 dX3_requireGate_17 (Nat.le_of_ble_eq_true rfl) (Nat.le_of_ble_eq_true rfl)
  · exact g_ret C ⟨rfl, dX3_requireGate_18, rfl⟩
set_option maxHeartbeats 4000000 in
set_option maxRecDepth 100000 in
theorem mX3_requireSlot (l : Launch) (D : va_G) (K : Nat → ClassId) (p0 : Int32) (r : ((Nat × Unit) ⊕ Unit)) (hfl : l.stackTraces = false) (hf : fX3_requireSlot p0 = some r) : gMxv l yX3_requireSlot wsX3_requireSlot 6 82 D (gT K) (fun _ : Unit => []) [.int p0] () r := by
  refine mk_xv (nL := 1) (cc := cX3_requireSlot) hfl (by decide) rfl (Nat.le_of_ble_eq_true rfl) hf (fun ce sl g CX => ?_)
  have C := CX.C
  refine g_sub C (lv' := [(0, .int p0)]) [0] rfl ?_
  unfold fX3_requireSlot
  refine g_iload_n C 0 dX3_requireSlot_0 rfl rfl ?_
  refine g_if_lt C 9 dX3_requireSlot_1 (by decide) (fun _ => ?_) (fun _ => ?_)
  · exact g_throwSW CX rfl (by decide) (List.mem_of_getElem? (i := 1) rfl) (List.mem_of_getElem? (i := 2) rfl) (List.mem_of_getElem? (i := 14) rfl) (fun _ h => List.mem_cons_of_mem _ (List.mem_append_right _ h)) nonGood3 (allOt3 _) dX3_requireSlot_9 dX3_requireSlot_12 dX3_requireSlot_13 dX3_requireSlot_16 dX3_requireSlot_19 (Nat.le_of_ble_eq_true rfl) (Nat.le_of_ble_eq_true rfl)
  · refine g_iload_n C 0 dX3_requireSlot_4 rfl rfl ?_
    refine g_iconst C (v := (2 : Int32)) dX3_requireSlot_5 ic_2 ?_
    refine g_icmp_lt C 20 dX3_requireSlot_6 (by decide) (fun _ => ?_) (fun _ => ?_)
    · exact g_ret C ⟨rfl, dX3_requireSlot_20, rfl⟩
    · exact g_throwSW CX rfl (by decide) (List.mem_of_getElem? (i := 1) rfl) (List.mem_of_getElem? (i := 2) rfl) (List.mem_of_getElem? (i := 14) rfl) (fun _ h => List.mem_cons_of_mem _ (List.mem_append_right _ h)) nonGood3 (allOt3 _) dX3_requireSlot_9 dX3_requireSlot_12 dX3_requireSlot_13 dX3_requireSlot_16 dX3_requireSlot_19 (Nat.le_of_ble_eq_true rfl) (Nat.le_of_ble_eq_true rfl)
set_option maxHeartbeats 4000000 in
set_option maxRecDepth 100000 in
theorem mX3_requireAllowed (l : Launch) (D : va_G) (K : Nat → ClassId) (p0 : Int32) (r : ((Nat × Unit) ⊕ Unit)) (hfl : l.stackTraces = false) (hf : fX3_requireAllowed p0 = some r) : gMxv l yX3_requireAllowed wsX3_requireAllowed 6 82 D (gT K) (fun _ : Unit => []) [.int p0] () r := by
  refine mk_xv (nL := 1) (cc := cX3_requireAllowed) hfl (by decide) rfl (Nat.le_of_ble_eq_true rfl) hf (fun ce sl g CX => ?_)
  have C := CX.C
  refine g_sub C (lv' := [(0, .int p0)]) [0] rfl ?_
  unfold fX3_requireAllowed
  refine g_iload_n C 0 dX3_requireAllowed_0 rfl rfl ?_
  refine g_if_ne C 15 dX3_requireAllowed_1 (by decide) (fun _ => ?_) (fun _ => ?_)
  · exact g_throwSW CX rfl (by decide) (List.mem_of_getElem? (i := 1) rfl) (List.mem_of_getElem? (i := 2) rfl) (List.mem_of_getElem? (i := 15) rfl) (fun _ h => List.mem_cons_of_mem _ (List.mem_append_right _ h)) nonGood2 (allOt2 _) dX3_requireAllowed_4 dX3_requireAllowed_7 dX3_requireAllowed_8 dX3_requireAllowed_11 dX3_requireAllowed_14 (Nat.le_of_ble_eq_true rfl) (Nat.le_of_ble_eq_true rfl)
  · exact g_ret C ⟨rfl, dX3_requireAllowed_15, rfl⟩
set_option maxHeartbeats 4000000 in
set_option maxRecDepth 100000 in
theorem mX3_append (l : Launch) (D : va_G) (K : Nat → ClassId) (b t x y : Nat → Nat) (α : Nat → Nat → Nat) (σ : ST) (p1 : Int32) (r : ((Nat × ST) ⊕ (Int32 × ST))) (hfl : l.stackTraces = false) (hf : fX3_append σ p1 = some r) : gMx l yX3_append wsX3_append 6 82 D (gT K) (SW K b t x y α) [.ref (b 0), .int p1] σ r := by
  refine mk_x (nL := 2) (cc := cX3_append) hfl (by decide) rfl (Nat.le_of_ble_eq_true rfl) hf (fun ce sl g CX => ?_)
  have C := CX.C
  refine g_sub C (lv' := [(0, .ref (b 0)), (1, .int p1)]) [0, 1] rfl ?_
  unfold fX3_append
  refine g_iload_n C 1 dX3_append_0 rfl rfl ?_
  refine g_if_lt C 11 dX3_append_1 (by decide) (fun _ => ?_) (fun _ => ?_)
  · exact g_throwS CX rfl (by decide) (List.mem_of_getElem? (i := 1) rfl) (List.mem_of_getElem? (i := 2) rfl) (List.mem_of_getElem? (i := 16) rfl) (fun _ h => List.mem_cons_of_mem _ (List.mem_append_left _ (List.mem_append_right _ h))) nonGood1 (allOt1 _) dX3_append_11 dX3_append_14 dX3_append_15 dX3_append_17 dX3_append_20 (Nat.le_of_ble_eq_true rfl) (Nat.le_of_ble_eq_true rfl)
  · refine g_iload_n C 1 dX3_append_4 rfl rfl ?_
    refine g_sipush C (v := (255 : Int32)) dX3_append_5 (by decide) ?_
    refine g_icmp_le C 21 dX3_append_8 (by decide) (fun _ => ?_) (fun _ => ?_)
    · refine g_aload_n C 0 dX3_append_21 rfl rfl ?_
      refine g_get C (fun _ h => List.mem_cons_of_mem _ (List.mem_append_left _ (List.mem_append_left _ (List.mem_append_left _ (List.mem_append_right _ h))))) 0 (SWg_0 K b t x y α _) rfl 0 (by decide) (List.mem_of_getElem? (i := 5) rfl) rfl rfl dX3_append_22 ?_
      refine g_callVi C (n := 0) (As := []) (rest := []) (fun r h => mX2_isFull l D K t _ r h) (SWe_t D K b t x y α _) gX3_append_X2_isFull rfl (by decide +kernel) ⟨Nat.le_of_ble_eq_true rfl, Nat.le_of_ble_eq_true rfl, rfl, rfl⟩ 0 (TWg_0 K t _) rfl rfl rfl (Nat.le_of_ble_eq_true rfl) dX3_append_25 (fun r1 _ => ?_)
      refine g_state (fun u2 => ?_)
      refine g_if_eq C 41 dX3_append_28 (by decide) (fun _ => ?_) (fun _ => ?_)
      · refine g_aload_n C 0 dX3_append_41 rfl rfl ?_
        refine g_get C (fun _ h => List.mem_cons_of_mem _ (List.mem_append_left _ (List.mem_append_left _ (List.mem_append_left _ (List.mem_append_right _ h))))) 0 (SWg_0 K b t x y α _) rfl 0 (by decide) (List.mem_of_getElem? (i := 5) rfl) rfl rfl dX3_append_42 ?_
        refine g_iload_n C 1 dX3_append_45 rfl rfl ?_
        refine g_i2c C dX3_append_46 ?_
        refine g_topi (fun t3 => ?_)
        refine g_callVi C (n := 1) (As := [.int t3]) (rest := []) (fun r h => mX2_add l D K t _ _ r h) (SWe_t D K b t x y α _) gX3_append_X2_add rfl (by decide +kernel) ⟨Nat.le_of_ble_eq_true rfl, Nat.le_of_ble_eq_true rfl, rfl, rfl⟩ 0 (TWg_0 K t _) rfl rfl rfl (Nat.le_of_ble_eq_true rfl) dX3_append_47 (fun r4 _ => ?_)
        refine g_state (fun u5 => ?_)
        exact g_ret C ⟨_, rfl, dX3_append_50, rfl⟩
      · exact g_throwS CX rfl (by decide) (List.mem_of_getElem? (i := 3) rfl) (List.mem_of_getElem? (i := 4) rfl) (List.mem_of_getElem? (i := 17) rfl) (fun _ h => List.mem_cons_of_mem _ (List.mem_append_right _ h)) nonGood2 (allOt2 _) dX3_append_31 dX3_append_34 dX3_append_35 dX3_append_37 dX3_append_40 (Nat.le_of_ble_eq_true rfl) (Nat.le_of_ble_eq_true rfl)
    · exact g_throwS CX rfl (by decide) (List.mem_of_getElem? (i := 1) rfl) (List.mem_of_getElem? (i := 2) rfl) (List.mem_of_getElem? (i := 16) rfl) (fun _ h => List.mem_cons_of_mem _ (List.mem_append_left _ (List.mem_append_right _ h))) nonGood1 (allOt1 _) dX3_append_11 dX3_append_14 dX3_append_15 dX3_append_17 dX3_append_20 (Nat.le_of_ble_eq_true rfl) (Nat.le_of_ble_eq_true rfl)
set_option maxHeartbeats 4000000 in
set_option maxRecDepth 100000 in
theorem mX3_clearText (l : Launch) (D : va_G) (K : Nat → ClassId) (b t x y : Nat → Nat) (α : Nat → Nat → Nat) (σ : ST) (r : (Int32 × ST)) (hf : fX3_clearText σ  = some r) : gMi l yX3_clearText wsX3_clearText { frames := 1, cells := 0, slots := 0, locals := 21 } D (gT K) (SW K b t x y α) [.ref (b 0)] σ r := by
  refine mk_i (nL := 1) (cc := cX3_clearText) (by decide) rfl (Nat.le_of_ble_eq_true rfl) rfl rfl hf (fun g C => ?_)
  refine g_sub C (lv' := [(0, .ref (b 0))]) [0] rfl ?_
  unfold fX3_clearText
  refine g_aload_n C 0 dX3_clearText_0 rfl rfl ?_
  refine g_get C (fun _ h => List.mem_cons_of_mem _ (List.mem_append_left _ (List.mem_append_right _ h))) 0 (SWg_0 K b t x y α _) rfl 0 (by decide) (List.mem_of_getElem? (i := 1) rfl) rfl rfl dX3_clearText_1 ?_
  refine g_callVi C (n := 0) (As := []) (rest := []) (fun r h => mX2_empty l D K t _ r h) (SWe_t D K b t x y α _) gX3_clearText_X2_empty rfl (by decide +kernel) ⟨Nat.le_of_ble_eq_true rfl, Nat.le_of_ble_eq_true rfl, rfl, rfl⟩ 0 (TWg_0 K t _) rfl rfl rfl (Nat.le_of_ble_eq_true rfl) dX3_clearText_4 (fun r1 _ => ?_)
  refine g_state (fun u2 => ?_)
  exact g_ret C ⟨dX3_clearText_7, rfl, rfl⟩
set_option maxHeartbeats 4000000 in
set_option maxRecDepth 100000 in
theorem mX3_errorPosition (l : Launch) (D : va_G) (K : Nat → ClassId) (b t x y : Nat → Nat) (α : Nat → Nat → Nat) (σ : ST) (r : (Int32 × ST)) (hf : fX3_errorPosition σ  = some r) : gMi l yX3_errorPosition wsX3_errorPosition { frames := 5, cells := 0, slots := 0, locals := 107 } D (gT K) (SW K b t x y α) [.ref (b 0)] σ r := by
  refine mk_i (nL := 1) (cc := cX3_errorPosition) (by decide) rfl (Nat.le_of_ble_eq_true rfl) rfl rfl hf (fun g C => ?_)
  refine g_sub C (lv' := [(0, .ref (b 0))]) [0] rfl ?_
  unfold fX3_errorPosition
  refine g_aload_n C 0 dX3_errorPosition_0 rfl rfl ?_
  refine g_get C (fun _ h => List.mem_cons_of_mem _ (List.mem_append_left _ (List.mem_append_right _ h))) 0 (SWg_0 K b t x y α _) rfl 0 (by decide) (List.mem_of_getElem? (i := 1) rfl) rfl rfl dX3_errorPosition_1 ?_
  refine g_callVi C (n := 0) (As := []) (rest := []) (fun r h => mX2_firstError l D K t _ r h) (SWe_t D K b t x y α _) gX3_errorPosition_X2_firstError rfl (by decide +kernel) ⟨Nat.le_of_ble_eq_true rfl, Nat.le_of_ble_eq_true rfl, rfl, rfl⟩ 0 (TWg_0 K t _) rfl rfl rfl (Nat.le_of_ble_eq_true rfl) dX3_errorPosition_4 (fun r1 _ => ?_)
  refine g_state (fun u2 => ?_)
  exact g_ret C ⟨dX3_errorPosition_7, rfl, rfl⟩
set_option maxHeartbeats 4000000 in
set_option maxRecDepth 100000 in
theorem mX3_forgetEverything (l : Launch) (D : va_G) (K : Nat → ClassId) (b t x y : Nat → Nat) (α : Nat → Nat → Nat) (σ : ST) (r : ST) (hf : fX3_forgetEverything σ  = some r) : gMv l yX3_forgetEverything wsX3_forgetEverything { frames := 2, cells := 0, slots := 0, locals := 42 } D (gT K) (SW K b t x y α) [.ref (b 0)] σ r := by
  refine mk_v (nL := 2) (cc := cX3_forgetEverything) (by decide) rfl (Nat.le_of_ble_eq_true rfl) rfl rfl hf (fun g C => ?_)
  refine g_sub C (lv' := [(0, .ref (b 0))]) [0] rfl ?_
  unfold fX3_forgetEverything
  have h_14 : ∀ (n : Nat) (σ : ST) (v1 : Int32), g (fX3_forgetEverything_L14 n σ v1) 14 [(0, .ref (b 0)), (1, .int v1)] [] σ := by
    intro n
    induction n with
    | zero =>
      intro σ v1
      exact g_none C
    | succ n14 ih_14 =>
      intro σ v1
      unfold fX3_forgetEverything_L14
      refine g_iload_n C 1 dX3_forgetEverything_14 rfl rfl ?_
      refine g_iconst C (v := (2 : Int32)) dX3_forgetEverything_15 ic_2 ?_
      refine g_icmp_ge C 32 dX3_forgetEverything_16 (by decide) (fun _ => ?_) (fun _ => ?_)
      · exact g_ret C ⟨dX3_forgetEverything_32, rfl, rfl⟩
      · refine g_aload_n C 0 dX3_forgetEverything_19 rfl rfl ?_
        refine g_get C (fun _ h => List.mem_cons_of_mem _ (List.mem_append_left _ (List.mem_append_left _ (List.mem_append_right _ h)))) 0 (SWg_0 K b t x y α _) rfl 6 (by decide) (List.mem_of_getElem? (i := 3) rfl) rfl rfl dX3_forgetEverything_20 ?_
        refine g_iload_n C 1 dX3_forgetEverything_23 rfl rfl ?_
        refine g_iconst C (v := (0 : Int32)) dX3_forgetEverything_24 ic_0 ?_
        refine g_zastG C 3 1 (SWg_3 K b t x y α _) rfl (Or.inl rfl) (SWs_3 K b t x y α _ _) dX3_forgetEverything_25 ?_
        refine g_state (fun u1 => ?_)
        refine g_iinc C (w := (1 : Int32)) (lv' := [(1, .int (v1 + (1 : Int32))), (0, .ref (b 0))]) 1 dX3_forgetEverything_26 rfl ic_1 (by decide) rfl ?_
        refine g_goto C 14 dX3_forgetEverything_29 (by decide) ?_
        refine g_sub C (lv' := [(0, .ref (b 0)), (1, .int (v1 + (1 : Int32)))]) [1, 0] rfl ?_
        exact ih_14 u1 (v1 + (1 : Int32))
  refine g_aload_n C 0 dX3_forgetEverything_0 rfl rfl ?_
  refine g_get C (fun _ h => List.mem_cons_of_mem _ (List.mem_append_left _ (List.mem_append_left _ (List.mem_append_right _ h)))) 0 (SWg_0 K b t x y α _) rfl 1 (by decide) (List.mem_of_getElem? (i := 1) rfl) rfl rfl dX3_forgetEverything_1 ?_
  refine g_callVv C (n := 0) (As := []) (rest := []) (fun r h => mX1_clear l D K x _ r h) (SWe_x D K b t x y α _) gX3_forgetEverything_X1_clear rfl (by decide +kernel) ⟨Nat.le_of_ble_eq_true rfl, Nat.le_of_ble_eq_true rfl, rfl, rfl⟩ 9 (LWg_9 K x _) rfl rfl rfl (Nat.le_of_ble_eq_true rfl) dX3_forgetEverything_4 (fun r2 _ => ?_)
  refine g_state (fun u3 => ?_)
  refine g_aload_n C 0 dX3_forgetEverything_7 rfl rfl ?_
  refine g_iconst C (v := (0 : Int32)) dX3_forgetEverything_8 ic_0 ?_
  refine g_put C (ty := .int) (fun _ h => List.mem_cons_of_mem _ (List.mem_append_left _ (List.mem_append_left _ (List.mem_append_right _ h)))) tyX3 tyX3_ok nmX3 0 (SWg_0 K b t x y α _) rfl 4 (by decide) (List.mem_of_getElem? (i := 2) rfl) rfl rfl (by decide +kernel) rfl rfl (Nat.le_of_ble_eq_true rfl) (SWp_0_4 K b t x y α _ _) dX3_forgetEverything_9 ?_
  refine g_state (fun u4 => ?_)
  refine g_iconst C (v := (0 : Int32)) dX3_forgetEverything_12 ic_0 ?_
  refine g_istore_n C (lv' := [(1, .int (0 : Int32)), (0, .ref (b 0))]) dX3_forgetEverything_13 rfl (by decide) rfl ?_
  refine g_sub C (lv' := [(0, .ref (b 0)), (1, .int (0 : Int32))]) [1, 0] rfl ?_
  exact h_14 gFuel u4 (0 : Int32)
set_option maxHeartbeats 4000000 in
set_option maxRecDepth 100000 in
theorem mX3_putGatesOfText (l : Launch) (D : va_G) (K : Nat → ClassId) (b t x y : Nat → Nat) (α : Nat → Nat → Nat) (σ : ST) (r : ST) (hf : fX3_putGatesOfText σ  = some r) : gMv l yX3_putGatesOfText wsX3_putGatesOfText { frames := 0, cells := 0, slots := 0, locals := 0 } D (gT K) (SW K b t x y α) [.ref (b 0)] σ r := by
  refine mk_v (nL := 2) (cc := cX3_putGatesOfText) (by decide) rfl (Nat.le_of_ble_eq_true rfl) rfl rfl hf (fun g C => ?_)
  refine g_sub C (lv' := [(0, .ref (b 0))]) [0] rfl ?_
  unfold fX3_putGatesOfText
  have h_2 : ∀ (n : Nat) (σ : ST) (v1 : Int32), g (fX3_putGatesOfText_L2 n σ v1) 2 [(0, .ref (b 0)), (1, .int v1)] [] σ := by
    intro n
    induction n with
    | zero =>
      intro σ v1
      exact g_none C
    | succ n2 ih_2 =>
      intro σ v1
      unfold fX3_putGatesOfText_L2
      refine g_iload_n C 1 dX3_putGatesOfText_2 rfl rfl ?_
      refine g_iconst C (v := (3 : Int32)) dX3_putGatesOfText_3 ic_3 ?_
      refine g_icmp_ge C 34 dX3_putGatesOfText_4 (by decide) (fun _ => ?_) (fun _ => ?_)
      · refine g_aload_n C 0 dX3_putGatesOfText_34 rfl rfl ?_
        refine g_get C (fun _ h => List.mem_cons_of_mem _ (List.mem_append_left _ (List.mem_append_left _ (List.mem_append_left _ (List.mem_append_right _ h))))) 0 (SWg_0 K b t x y α _) rfl 1 (by decide) (List.mem_of_getElem? (i := 1) rfl) rfl rfl dX3_putGatesOfText_35 ?_
        refine g_aload_n C 0 dX3_putGatesOfText_38 rfl rfl ?_
        refine g_get C (fun _ h => List.mem_cons_of_mem _ (List.mem_append_left _ (List.mem_append_left _ (List.mem_append_left _ (List.mem_append_right _ h))))) 0 (SWg_0 K b t x y α _) rfl 0 (by decide) (List.mem_of_getElem? (i := 4) rfl) rfl rfl dX3_putGatesOfText_39 ?_
        refine g_get C (fun _ h => List.mem_cons_of_mem _ (List.mem_append_right _ h)) 4 (SWg_4 K b t x y α _) rfl 5 (by decide) (List.mem_of_getElem? (i := 6) rfl) rfl rfl dX3_putGatesOfText_42 ?_
        refine g_topi (fun t1 => ?_)
        refine g_put C (ty := .int) (fun _ h => List.mem_cons_of_mem _ (List.mem_append_left _ (List.mem_append_left _ (List.mem_append_right _ h)))) tyX1 tyX1_ok nmX1 16 (SWg_16 K b t x y α _) rfl 10 (by decide) (List.mem_of_getElem? (i := 7) rfl) rfl rfl (by decide +kernel) rfl rfl (Nat.le_of_ble_eq_true rfl) (SWp_16_10 K b t x y α _ _) dX3_putGatesOfText_45 ?_
        refine g_state (fun u2 => ?_)
        refine g_aload_n C 0 dX3_putGatesOfText_48 rfl rfl ?_
        refine g_get C (fun _ h => List.mem_cons_of_mem _ (List.mem_append_left _ (List.mem_append_left _ (List.mem_append_left _ (List.mem_append_right _ h))))) 0 (SWg_0 K b t x y α _) rfl 1 (by decide) (List.mem_of_getElem? (i := 1) rfl) rfl rfl dX3_putGatesOfText_49 ?_
        refine g_get C (fun _ h => List.mem_cons_of_mem _ (List.mem_append_left _ (List.mem_append_left _ (List.mem_append_right _ h)))) 16 (SWg_16 K b t x y α _) rfl 0 (by decide) (List.mem_of_getElem? (i := 2) rfl) rfl rfl dX3_putGatesOfText_52 ?_
        refine g_aload_n C 0 dX3_putGatesOfText_55 rfl rfl ?_
        refine g_get C (fun _ h => List.mem_cons_of_mem _ (List.mem_append_left _ (List.mem_append_left _ (List.mem_append_left _ (List.mem_append_right _ h))))) 0 (SWg_0 K b t x y α _) rfl 0 (by decide) (List.mem_of_getElem? (i := 4) rfl) rfl rfl dX3_putGatesOfText_56 ?_
        refine g_get C (fun _ h => List.mem_cons_of_mem _ (List.mem_append_right _ h)) 4 (SWg_4 K b t x y α _) rfl 6 (by decide) (List.mem_of_getElem? (i := 8) rfl) rfl rfl dX3_putGatesOfText_59 ?_
        refine g_topi (fun t3 => ?_)
        refine g_put C (ty := .int) (fun _ h => List.mem_cons_of_mem _ (List.mem_append_left _ (List.mem_append_right _ h))) tyX0 tyX0_ok nmX0 7 (SWg_7 K b t x y α _) rfl 8 (by decide) (List.mem_of_getElem? (i := 9) rfl) rfl rfl (by decide +kernel) rfl rfl (Nat.le_of_ble_eq_true rfl) (SWp_7_8 K b t x y α _ _) dX3_putGatesOfText_62 ?_
        refine g_state (fun u4 => ?_)
        exact g_ret C ⟨dX3_putGatesOfText_65, rfl, rfl⟩
      · refine g_aload_n C 0 dX3_putGatesOfText_7 rfl rfl ?_
        refine g_get C (fun _ h => List.mem_cons_of_mem _ (List.mem_append_left _ (List.mem_append_left _ (List.mem_append_left _ (List.mem_append_right _ h))))) 0 (SWg_0 K b t x y α _) rfl 1 (by decide) (List.mem_of_getElem? (i := 1) rfl) rfl rfl dX3_putGatesOfText_8 ?_
        refine g_get C (fun _ h => List.mem_cons_of_mem _ (List.mem_append_left _ (List.mem_append_left _ (List.mem_append_right _ h)))) 16 (SWg_16 K b t x y α _) rfl 0 (by decide) (List.mem_of_getElem? (i := 2) rfl) rfl rfl dX3_putGatesOfText_11 ?_
        refine g_get C (fun _ h => List.mem_cons_of_mem _ (List.mem_append_left _ (List.mem_append_right _ h))) 7 (SWg_7 K b t x y α _) rfl 0 (by decide) (List.mem_of_getElem? (i := 3) rfl) rfl rfl dX3_putGatesOfText_14 ?_
        refine g_iload_n C 1 dX3_putGatesOfText_17 rfl rfl ?_
        refine g_aload_n C 0 dX3_putGatesOfText_18 rfl rfl ?_
        refine g_get C (fun _ h => List.mem_cons_of_mem _ (List.mem_append_left _ (List.mem_append_left _ (List.mem_append_left _ (List.mem_append_right _ h))))) 0 (SWg_0 K b t x y α _) rfl 0 (by decide) (List.mem_of_getElem? (i := 4) rfl) rfl rfl dX3_putGatesOfText_19 ?_
        refine g_get C (fun _ h => List.mem_cons_of_mem _ (List.mem_append_right _ h)) 4 (SWg_4 K b t x y α _) rfl 4 (by decide) (List.mem_of_getElem? (i := 5) rfl) rfl rfl dX3_putGatesOfText_22 ?_
        refine g_iload_n C 1 dX3_putGatesOfText_25 rfl rfl ?_
        refine g_ialdG C 6 0 (SWg_6 K b t x y α _) rfl dX3_putGatesOfText_26 ?_
        refine g_topi (fun t5 => ?_)
        refine g_iastG C 8 0 (SWg_8 K b t x y α _) rfl (SWs_8 K b t x y α _ _) dX3_putGatesOfText_27 ?_
        refine g_state (fun u6 => ?_)
        refine g_iinc C (w := (1 : Int32)) (lv' := [(1, .int (v1 + (1 : Int32))), (0, .ref (b 0))]) 1 dX3_putGatesOfText_28 rfl ic_1 (by decide) rfl ?_
        refine g_goto C 2 dX3_putGatesOfText_31 (by decide) ?_
        refine g_sub C (lv' := [(0, .ref (b 0)), (1, .int (v1 + (1 : Int32)))]) [1, 0] rfl ?_
        exact ih_2 u6 (v1 + (1 : Int32))
  refine g_iconst C (v := (0 : Int32)) dX3_putGatesOfText_0 ic_0 ?_
  refine g_istore_n C (lv' := [(1, .int (0 : Int32)), (0, .ref (b 0))]) dX3_putGatesOfText_1 rfl (by decide) rfl ?_
  refine g_sub C (lv' := [(0, .ref (b 0)), (1, .int (0 : Int32))]) [1, 0] rfl ?_
  exact h_2 gFuel σ (0 : Int32)
set_option maxHeartbeats 4000000 in
set_option maxRecDepth 100000 in
theorem mX3_doTextCommand (l : Launch) (D : va_G) (K : Nat → ClassId) (b t x y : Nat → Nat) (α : Nat → Nat → Nat) (σ : ST) (r : (Int32 × ST)) (hf : fX3_doTextCommand σ  = some r) : gMi l yX3_doTextCommand wsX3_doTextCommand { frames := 6, cells := 0, slots := 0, locals := 136 } D (gT K) (SW K b t x y α) [.ref (b 0)] σ r := by
  refine mk_z (nL := 1) (cc := cX3_doTextCommand) (by decide) rfl (Nat.le_of_ble_eq_true rfl) rfl rfl hf (fun g C => ?_)
  refine g_sub C (lv' := [(0, .ref (b 0))]) [0] rfl ?_
  unfold fX3_doTextCommand
  refine g_aload_n C 0 dX3_doTextCommand_0 rfl rfl ?_
  refine g_get C (fun _ h => List.mem_cons_of_mem _ (List.mem_append_left _ (List.mem_append_left _ (List.mem_append_left _ (List.mem_append_right _ h))))) 0 (SWg_0 K b t x y α _) rfl 0 (by decide) (List.mem_of_getElem? (i := 1) rfl) rfl rfl dX3_doTextCommand_1 ?_
  refine g_get C (fun _ h => List.mem_cons_of_mem _ (List.mem_append_left _ (List.mem_append_left _ (List.mem_append_right _ h)))) 4 (SWg_4 K b t x y α _) rfl 7 (by decide) (List.mem_of_getElem? (i := 2) rfl) rfl rfl dX3_doTextCommand_4 ?_
  refine g_topi (fun t1 => ?_)
  refine g_tcase C 133 (98 : Int32) dX3_doTextCommand_7 (by decide) (by decide) rfl (by decide) (fun _ => ?_) (fun h2 => ?_)
  · refine g_aload_n C 0 dX3_doTextCommand_133 rfl rfl ?_
    refine g_get C (fun _ h => List.mem_cons_of_mem _ (List.mem_append_left _ (List.mem_append_left _ (List.mem_append_left _ (List.mem_append_right _ h))))) 0 (SWg_0 K b t x y α _) rfl 1 (by decide) (List.mem_of_getElem? (i := 3) rfl) rfl rfl dX3_doTextCommand_134 ?_
    refine g_aload_n C 0 dX3_doTextCommand_137 rfl rfl ?_
    refine g_get C (fun _ h => List.mem_cons_of_mem _ (List.mem_append_left _ (List.mem_append_left _ (List.mem_append_left _ (List.mem_append_right _ h))))) 0 (SWg_0 K b t x y α _) rfl 0 (by decide) (List.mem_of_getElem? (i := 1) rfl) rfl rfl dX3_doTextCommand_138 ?_
    refine g_get C (fun _ h => List.mem_cons_of_mem _ (List.mem_append_left _ (List.mem_append_left _ (List.mem_append_right _ h)))) 4 (SWg_4 K b t x y α _) rfl 9 (by decide) (List.mem_of_getElem? (i := 5) rfl) rfl rfl dX3_doTextCommand_141 ?_
    refine g_callVi C (n := 1) (As := [.int (σ.2.1 0 9)]) (rest := []) (fun r h => mX1_tryBorrowOrBringBack l D K x _ _ r h) (SWe_x D K b t x y α _) gX3_doTextCommand_X1_tryBorrowOrBringBack rfl (by decide +kernel) ⟨Nat.le_of_ble_eq_true rfl, Nat.le_of_ble_eq_true rfl, rfl, rfl⟩ 9 (LWg_9 K x _) rfl rfl rfl (Nat.le_of_ble_eq_true rfl) dX3_doTextCommand_144 (fun r3 _ => ?_)
    refine g_state (fun u4 => ?_)
    refine g_bool C (fun h9 => ?_)
    exact g_ret C ⟨dX3_doTextCommand_147, rfl, rfl, h9⟩
  refine g_tcase C 171 (105 : Int32) dX3_doTextCommand_7 (by decide) (by decide) rfl (by decide) (fun _ => ?_) (fun h5 => ?_)
  · refine g_aload_n C 0 dX3_doTextCommand_171 rfl rfl ?_
    refine g_get C (fun _ h => List.mem_cons_of_mem _ (List.mem_append_left _ (List.mem_append_left _ (List.mem_append_left _ (List.mem_append_right _ h))))) 0 (SWg_0 K b t x y α _) rfl 1 (by decide) (List.mem_of_getElem? (i := 3) rfl) rfl rfl dX3_doTextCommand_172 ?_
    refine g_aload_n C 0 dX3_doTextCommand_175 rfl rfl ?_
    refine g_get C (fun _ h => List.mem_cons_of_mem _ (List.mem_append_left _ (List.mem_append_left _ (List.mem_append_left _ (List.mem_append_right _ h))))) 0 (SWg_0 K b t x y α _) rfl 0 (by decide) (List.mem_of_getElem? (i := 1) rfl) rfl rfl dX3_doTextCommand_176 ?_
    refine g_get C (fun _ h => List.mem_cons_of_mem _ (List.mem_append_left _ (List.mem_append_left _ (List.mem_append_right _ h)))) 4 (SWg_4 K b t x y α _) rfl 8 (by decide) (List.mem_of_getElem? (i := 4) rfl) rfl rfl dX3_doTextCommand_179 ?_
    refine g_aload_n C 0 dX3_doTextCommand_182 rfl rfl ?_
    refine g_get C (fun _ h => List.mem_cons_of_mem _ (List.mem_append_left _ (List.mem_append_left _ (List.mem_append_left _ (List.mem_append_right _ h))))) 0 (SWg_0 K b t x y α _) rfl 0 (by decide) (List.mem_of_getElem? (i := 1) rfl) rfl rfl dX3_doTextCommand_183 ?_
    refine g_get C (fun _ h => List.mem_cons_of_mem _ (List.mem_append_left _ (List.mem_append_left _ (List.mem_append_right _ h)))) 4 (SWg_4 K b t x y α _) rfl 10 (by decide) (List.mem_of_getElem? (i := 6) rfl) rfl rfl dX3_doTextCommand_186 ?_
    refine g_iconst C (v := (0 : Int32)) dX3_doTextCommand_189 ic_0 ?_
    refine g_callVi C (n := 3) (As := [.int (σ.2.1 0 8), .int (σ.2.1 0 10), .int (0 : Int32)]) (rest := []) (fun r h => mX1_tryWalk l D K x _ _ _ _ r h) (SWe_x D K b t x y α _) gX3_doTextCommand_X1_tryWalk rfl (by decide +kernel) ⟨Nat.le_of_ble_eq_true rfl, Nat.le_of_ble_eq_true rfl, rfl, rfl⟩ 9 (LWg_9 K x _) rfl rfl rfl (Nat.le_of_ble_eq_true rfl) dX3_doTextCommand_190 (fun r6 _ => ?_)
    refine g_state (fun u7 => ?_)
    refine g_bool C (fun h9 => ?_)
    exact g_ret C ⟨dX3_doTextCommand_193, rfl, rfl, h9⟩
  refine g_tcase C 148 (111 : Int32) dX3_doTextCommand_7 (by decide) (by decide) rfl (by decide) (fun _ => ?_) (fun h8 => ?_)
  · refine g_aload_n C 0 dX3_doTextCommand_148 rfl rfl ?_
    refine g_get C (fun _ h => List.mem_cons_of_mem _ (List.mem_append_left _ (List.mem_append_left _ (List.mem_append_left _ (List.mem_append_right _ h))))) 0 (SWg_0 K b t x y α _) rfl 1 (by decide) (List.mem_of_getElem? (i := 3) rfl) rfl rfl dX3_doTextCommand_149 ?_
    refine g_aload_n C 0 dX3_doTextCommand_152 rfl rfl ?_
    refine g_get C (fun _ h => List.mem_cons_of_mem _ (List.mem_append_left _ (List.mem_append_left _ (List.mem_append_left _ (List.mem_append_right _ h))))) 0 (SWg_0 K b t x y α _) rfl 0 (by decide) (List.mem_of_getElem? (i := 1) rfl) rfl rfl dX3_doTextCommand_153 ?_
    refine g_get C (fun _ h => List.mem_cons_of_mem _ (List.mem_append_left _ (List.mem_append_left _ (List.mem_append_right _ h)))) 4 (SWg_4 K b t x y α _) rfl 8 (by decide) (List.mem_of_getElem? (i := 4) rfl) rfl rfl dX3_doTextCommand_156 ?_
    refine g_aload_n C 0 dX3_doTextCommand_159 rfl rfl ?_
    refine g_get C (fun _ h => List.mem_cons_of_mem _ (List.mem_append_left _ (List.mem_append_left _ (List.mem_append_left _ (List.mem_append_right _ h))))) 0 (SWg_0 K b t x y α _) rfl 0 (by decide) (List.mem_of_getElem? (i := 1) rfl) rfl rfl dX3_doTextCommand_160 ?_
    refine g_get C (fun _ h => List.mem_cons_of_mem _ (List.mem_append_left _ (List.mem_append_left _ (List.mem_append_right _ h)))) 4 (SWg_4 K b t x y α _) rfl 10 (by decide) (List.mem_of_getElem? (i := 6) rfl) rfl rfl dX3_doTextCommand_163 ?_
    refine g_iconst C (v := (1 : Int32)) dX3_doTextCommand_166 ic_1 ?_
    refine g_callVi C (n := 3) (As := [.int (σ.2.1 0 8), .int (σ.2.1 0 10), .int (1 : Int32)]) (rest := []) (fun r h => mX1_tryWalk l D K x _ _ _ _ r h) (SWe_x D K b t x y α _) gX3_doTextCommand_X1_tryWalk rfl (by decide +kernel) ⟨Nat.le_of_ble_eq_true rfl, Nat.le_of_ble_eq_true rfl, rfl, rfl⟩ 9 (LWg_9 K x _) rfl rfl rfl (Nat.le_of_ble_eq_true rfl) dX3_doTextCommand_167 (fun r9 _ => ?_)
    refine g_state (fun u10 => ?_)
    refine g_bool C (fun h9 => ?_)
    exact g_ret C ⟨dX3_doTextCommand_170, rfl, rfl, h9⟩
  refine g_tcase C 118 (112 : Int32) dX3_doTextCommand_7 (by decide) (by decide) rfl (by decide) (fun _ => ?_) (fun h11 => ?_)
  · refine g_aload_n C 0 dX3_doTextCommand_118 rfl rfl ?_
    refine g_get C (fun _ h => List.mem_cons_of_mem _ (List.mem_append_left _ (List.mem_append_left _ (List.mem_append_left _ (List.mem_append_right _ h))))) 0 (SWg_0 K b t x y α _) rfl 1 (by decide) (List.mem_of_getElem? (i := 3) rfl) rfl rfl dX3_doTextCommand_119 ?_
    refine g_aload_n C 0 dX3_doTextCommand_122 rfl rfl ?_
    refine g_get C (fun _ h => List.mem_cons_of_mem _ (List.mem_append_left _ (List.mem_append_left _ (List.mem_append_left _ (List.mem_append_right _ h))))) 0 (SWg_0 K b t x y α _) rfl 0 (by decide) (List.mem_of_getElem? (i := 1) rfl) rfl rfl dX3_doTextCommand_123 ?_
    refine g_get C (fun _ h => List.mem_cons_of_mem _ (List.mem_append_left _ (List.mem_append_left _ (List.mem_append_right _ h)))) 4 (SWg_4 K b t x y α _) rfl 9 (by decide) (List.mem_of_getElem? (i := 5) rfl) rfl rfl dX3_doTextCommand_126 ?_
    refine g_callVi C (n := 1) (As := [.int (σ.2.1 0 9)]) (rest := []) (fun r h => mX1_tryPutBack l D K x _ _ r h) (SWe_x D K b t x y α _) gX3_doTextCommand_X1_tryPutBack rfl (by decide +kernel) ⟨Nat.le_of_ble_eq_true rfl, Nat.le_of_ble_eq_true rfl, rfl, rfl⟩ 9 (LWg_9 K x _) rfl rfl rfl (Nat.le_of_ble_eq_true rfl) dX3_doTextCommand_129 (fun r12 _ => ?_)
    refine g_state (fun u13 => ?_)
    refine g_bool C (fun h9 => ?_)
    exact g_ret C ⟨dX3_doTextCommand_132, rfl, rfl, h9⟩
  refine g_tcase C 194 (114 : Int32) dX3_doTextCommand_7 (by decide) (by decide) rfl (by decide) (fun _ => ?_) (fun h14 => ?_)
  · refine g_aload_n C 0 dX3_doTextCommand_194 rfl rfl ?_
    refine g_get C (fun _ h => List.mem_cons_of_mem _ (List.mem_append_left _ (List.mem_append_left _ (List.mem_append_left _ (List.mem_append_right _ h))))) 0 (SWg_0 K b t x y α _) rfl 1 (by decide) (List.mem_of_getElem? (i := 3) rfl) rfl rfl dX3_doTextCommand_195 ?_
    refine g_aload_n C 0 dX3_doTextCommand_198 rfl rfl ?_
    refine g_get C (fun _ h => List.mem_cons_of_mem _ (List.mem_append_left _ (List.mem_append_left _ (List.mem_append_left _ (List.mem_append_right _ h))))) 0 (SWg_0 K b t x y α _) rfl 0 (by decide) (List.mem_of_getElem? (i := 1) rfl) rfl rfl dX3_doTextCommand_199 ?_
    refine g_get C (fun _ h => List.mem_cons_of_mem _ (List.mem_append_left _ (List.mem_append_left _ (List.mem_append_right _ h)))) 4 (SWg_4 K b t x y α _) rfl 8 (by decide) (List.mem_of_getElem? (i := 4) rfl) rfl rfl dX3_doTextCommand_202 ?_
    refine g_callVi C (n := 1) (As := [.int (σ.2.1 0 8)]) (rest := []) (fun r h => mX1_tryTurn l D K x _ _ r h) (SWe_x D K b t x y α _) gX3_doTextCommand_X1_tryTurn rfl (by decide +kernel) ⟨Nat.le_of_ble_eq_true rfl, Nat.le_of_ble_eq_true rfl, rfl, rfl⟩ 9 (LWg_9 K x _) rfl rfl rfl (Nat.le_of_ble_eq_true rfl) dX3_doTextCommand_205 (fun r15 _ => ?_)
    refine g_state (fun u16 => ?_)
    refine g_bool C (fun h9 => ?_)
    exact g_ret C ⟨dX3_doTextCommand_208, rfl, rfl, h9⟩
  refine g_tcase C 96 (116 : Int32) dX3_doTextCommand_7 (by decide) (by decide) rfl (by decide) (fun _ => ?_) (fun h17 => ?_)
  · refine g_aload_n C 0 dX3_doTextCommand_96 rfl rfl ?_
    refine g_get C (fun _ h => List.mem_cons_of_mem _ (List.mem_append_left _ (List.mem_append_left _ (List.mem_append_left _ (List.mem_append_right _ h))))) 0 (SWg_0 K b t x y α _) rfl 1 (by decide) (List.mem_of_getElem? (i := 3) rfl) rfl rfl dX3_doTextCommand_97 ?_
    refine g_aload_n C 0 dX3_doTextCommand_100 rfl rfl ?_
    refine g_get C (fun _ h => List.mem_cons_of_mem _ (List.mem_append_left _ (List.mem_append_left _ (List.mem_append_left _ (List.mem_append_right _ h))))) 0 (SWg_0 K b t x y α _) rfl 0 (by decide) (List.mem_of_getElem? (i := 1) rfl) rfl rfl dX3_doTextCommand_101 ?_
    refine g_get C (fun _ h => List.mem_cons_of_mem _ (List.mem_append_left _ (List.mem_append_left _ (List.mem_append_right _ h)))) 4 (SWg_4 K b t x y α _) rfl 8 (by decide) (List.mem_of_getElem? (i := 4) rfl) rfl rfl dX3_doTextCommand_104 ?_
    refine g_aload_n C 0 dX3_doTextCommand_107 rfl rfl ?_
    refine g_get C (fun _ h => List.mem_cons_of_mem _ (List.mem_append_left _ (List.mem_append_left _ (List.mem_append_left _ (List.mem_append_right _ h))))) 0 (SWg_0 K b t x y α _) rfl 0 (by decide) (List.mem_of_getElem? (i := 1) rfl) rfl rfl dX3_doTextCommand_108 ?_
    refine g_get C (fun _ h => List.mem_cons_of_mem _ (List.mem_append_left _ (List.mem_append_left _ (List.mem_append_right _ h)))) 4 (SWg_4 K b t x y α _) rfl 9 (by decide) (List.mem_of_getElem? (i := 5) rfl) rfl rfl dX3_doTextCommand_111 ?_
    refine g_callVi C (n := 2) (As := [.int (σ.2.1 0 8), .int (σ.2.1 0 9)]) (rest := []) (fun r h => mX1_tryTake l D K x _ _ _ r h) (SWe_x D K b t x y α _) gX3_doTextCommand_X1_tryTake rfl (by decide +kernel) ⟨Nat.le_of_ble_eq_true rfl, Nat.le_of_ble_eq_true rfl, rfl, rfl⟩ 9 (LWg_9 K x _) rfl rfl rfl (Nat.le_of_ble_eq_true rfl) dX3_doTextCommand_114 (fun r18 _ => ?_)
    refine g_state (fun u19 => ?_)
    refine g_bool C (fun h9 => ?_)
    exact g_ret C ⟨dX3_doTextCommand_117, rfl, rfl, h9⟩
  refine g_tdef2 C 209 [98, 105, 111, 112, 114, 116] dX3_doTextCommand_7 (List.forall_mem_cons.mpr ⟨i32nz h2 (by decide), (List.forall_mem_cons.mpr ⟨i32nz h5 (by decide), (List.forall_mem_cons.mpr ⟨i32nz h8 (by decide), (List.forall_mem_cons.mpr ⟨i32nz h11 (by decide), (List.forall_mem_cons.mpr ⟨i32nz h14 (by decide), (List.forall_mem_cons.mpr ⟨i32nz h17 (by decide), (fun _ h9 => absurd h9 List.not_mem_nil)⟩)⟩)⟩)⟩)⟩)⟩) (by decide) (by decide) (by decide) ?_
  refine g_aload_n C 0 dX3_doTextCommand_209 rfl rfl ?_
  refine g_get C (fun _ h => List.mem_cons_of_mem _ (List.mem_append_left _ (List.mem_append_left _ (List.mem_append_left _ (List.mem_append_right _ h))))) 0 (SWg_0 K b t x y α _) rfl 1 (by decide) (List.mem_of_getElem? (i := 3) rfl) rfl rfl dX3_doTextCommand_210 ?_
  refine g_aload_n C 0 dX3_doTextCommand_213 rfl rfl ?_
  refine g_get C (fun _ h => List.mem_cons_of_mem _ (List.mem_append_left _ (List.mem_append_left _ (List.mem_append_left _ (List.mem_append_right _ h))))) 0 (SWg_0 K b t x y α _) rfl 0 (by decide) (List.mem_of_getElem? (i := 1) rfl) rfl rfl dX3_doTextCommand_214 ?_
  refine g_get C (fun _ h => List.mem_cons_of_mem _ (List.mem_append_left _ (List.mem_append_left _ (List.mem_append_right _ h)))) 4 (SWg_4 K b t x y α _) rfl 11 (by decide) (List.mem_of_getElem? (i := 7) rfl) rfl rfl dX3_doTextCommand_217 ?_
  refine g_callVi C (n := 1) (As := [.int (σ.2.1 0 11)]) (rest := []) (fun r h => mX1_passTicks l D K x _ _ r h) (SWe_x D K b t x y α _) gX3_doTextCommand_X1_passTicks rfl (by decide +kernel) ⟨Nat.le_of_ble_eq_true rfl, Nat.le_of_ble_eq_true rfl, rfl, rfl⟩ 9 (LWg_9 K x _) rfl rfl rfl (Nat.le_of_ble_eq_true rfl) dX3_doTextCommand_220 (fun r20 _ => ?_)
  refine g_state (fun u21 => ?_)
  refine g_pop C dX3_doTextCommand_223 rfl ?_
  refine g_iconst C (v := (1 : Int32)) dX3_doTextCommand_224 ic_1 ?_
  exact g_ret C ⟨dX3_doTextCommand_225, rfl, rfl, Or.inr rfl⟩
set_option maxHeartbeats 4000000 in
set_option maxRecDepth 100000 in
theorem mX3_load (l : Launch) (D : va_G) (K : Nat → ClassId) (b t x y : Nat → Nat) (α : Nat → Nat → Nat) (σ : ST) (r : ((Nat × ST) ⊕ (Int32 × ST))) (hfl : l.stackTraces = false) (hf : fX3_load σ  = some r) : gMx l yX3_load wsX3_load 7 156 D (gT K) (SW K b t x y α) [.ref (b 0)] σ r := by
  refine mk_x (nL := 3) (cc := cX3_load) hfl (by decide) rfl (Nat.le_of_ble_eq_true rfl) hf (fun ce sl g CX => ?_)
  have C := CX.C
  refine g_sub C (lv' := [(0, .ref (b 0))]) [0] rfl ?_
  unfold fX3_load
  have h_49 : ∀ (n : Nat) (σ : ST) (v1 : Int32) (v2 : Int32), g (fX3_load_L49 n σ v1 v2) 49 [(0, .ref (b 0)), (1, .int v1), (2, .int v2)] [] σ := by
    intro n
    induction n with
    | zero =>
      intro σ v1 v2
      exact g_none C
    | succ n49 ih_49 =>
      intro σ v1 v2
      unfold fX3_load_L49
      refine g_iload_n C 2 dX3_load_49 rfl rfl ?_
      refine g_bipush C (v := (120 : Int32)) dX3_load_50 (by decide) ?_
      refine g_icmp_ge C 81 dX3_load_52 (by decide) (fun _ => ?_) (fun _ => ?_)
      · refine g_iload_n C 1 dX3_load_81 rfl rfl ?_
        exact g_ret C ⟨_, rfl, dX3_load_82, rfl⟩
      · refine g_aload_n C 0 dX3_load_55 rfl rfl ?_
        refine g_get C (fun _ h => List.mem_cons_of_mem _ (List.mem_append_left _ (List.mem_append_left _ (List.mem_append_left _ (List.mem_append_left _ (List.mem_append_right _ h)))))) 0 (SWg_0 K b t x y α _) rfl 0 (by decide) (List.mem_of_getElem? (i := 3) rfl) rfl rfl dX3_load_56 ?_
        refine g_callVi C (n := 0) (As := []) (rest := []) (fun r h => mX2_readCommand l D K t _ r h) (SWe_t D K b t x y α _) gX3_load_X2_readCommand rfl (by decide +kernel) ⟨Nat.le_of_ble_eq_true rfl, Nat.le_of_ble_eq_true rfl, rfl, rfl⟩ 0 (TWg_0 K t _) rfl rfl rfl (Nat.le_of_ble_eq_true rfl) dX3_load_59 (fun r1 _ => ?_)
        refine g_state (fun u2 => ?_)
        refine g_if_eq C 81 dX3_load_62 (by decide) (fun _ => ?_) (fun _ => ?_)
        · refine g_iload_n C 1 dX3_load_81 rfl rfl ?_
          exact g_ret C ⟨_, rfl, dX3_load_82, rfl⟩
        · refine g_aload_n C 0 dX3_load_65 rfl rfl ?_
          refine g_callVi C (n := 0) (As := []) (rest := []) (fun r h => mX3_doTextCommand l D K b t x y α _ r h) gE.same gX3_load_X3_doTextCommand rfl (by decide +kernel) ⟨Nat.le_of_ble_eq_true rfl, Nat.le_of_ble_eq_true rfl, rfl, rfl⟩ 0 (SWg_0 K b t x y α _) rfl rfl rfl (Nat.le_of_ble_eq_true rfl) dX3_load_66 (fun r3 _ => ?_)
          refine g_if_ne C 75 dX3_load_69 (by decide) (fun _ => ?_) (fun _ => ?_)
          · refine g_iinc C (w := (1 : Int32)) (lv' := [(1, .int (v1 + (1 : Int32))), (0, .ref (b 0)), (2, .int v2)]) 1 dX3_load_72 rfl ic_1 (by decide) rfl ?_
            refine g_iinc C (w := (1 : Int32)) (lv' := [(2, .int (v2 + (1 : Int32))), (1, .int (v1 + (1 : Int32))), (0, .ref (b 0))]) 2 dX3_load_75 rfl ic_1 (by decide) rfl ?_
            refine g_goto C 49 dX3_load_78 (by decide) ?_
            refine g_sub C (lv' := [(0, .ref (b 0)), (1, .int (v1 + (1 : Int32))), (2, .int (v2 + (1 : Int32)))]) [2, 1, 0] rfl ?_
            exact ih_49 r3.2 (v1 + (1 : Int32)) (v2 + (1 : Int32))
          · refine g_iinc C (w := (1 : Int32)) (lv' := [(2, .int (v2 + (1 : Int32))), (0, .ref (b 0)), (1, .int v1)]) 2 dX3_load_75 rfl ic_1 (by decide) rfl ?_
            refine g_goto C 49 dX3_load_78 (by decide) ?_
            refine g_sub C (lv' := [(0, .ref (b 0)), (1, .int v1), (2, .int (v2 + (1 : Int32)))]) [1, 2, 0] rfl ?_
            exact ih_49 r3.2 v1 (v2 + (1 : Int32))
  refine g_aload_n C 0 dX3_load_0 rfl rfl ?_
  refine g_get C (fun _ h => List.mem_cons_of_mem _ (List.mem_append_left _ (List.mem_append_left _ (List.mem_append_left _ (List.mem_append_left _ (List.mem_append_right _ h)))))) 0 (SWg_0 K b t x y α _) rfl 0 (by decide) (List.mem_of_getElem? (i := 3) rfl) rfl rfl dX3_load_1 ?_
  refine g_callVi C (n := 0) (As := []) (rest := []) (fun r h => mX2_firstError l D K t _ r h) (SWe_t D K b t x y α _) gX3_load_X2_firstError rfl (by decide +kernel) ⟨Nat.le_of_ble_eq_true rfl, Nat.le_of_ble_eq_true rfl, rfl, rfl⟩ 0 (TWg_0 K t _) rfl rfl rfl (Nat.le_of_ble_eq_true rfl) dX3_load_4 (fun r4 _ => ?_)
  refine g_state (fun u5 => ?_)
  refine g_bipush C (v := (-9 : Int32)) dX3_load_7 (by decide) ?_
  refine g_icmp_eq C 22 dX3_load_9 (by decide) (fun _ => ?_) (fun _ => ?_)
  · refine g_aload_n C 0 dX3_load_22 rfl rfl ?_
    refine g_callVv C (n := 0) (As := []) (rest := []) (fun r h => mX3_forgetEverything l D K b t x y α _ r h) gE.same gX3_load_X3_forgetEverything rfl (by decide +kernel) ⟨Nat.le_of_ble_eq_true rfl, Nat.le_of_ble_eq_true rfl, rfl, rfl⟩ 0 (SWg_0 K b t x y α _) rfl rfl rfl (Nat.le_of_ble_eq_true rfl) dX3_load_23 (fun r6 _ => ?_)
    refine g_aload_n C 0 dX3_load_26 rfl rfl ?_
    refine g_get C (fun _ h => List.mem_cons_of_mem _ (List.mem_append_left _ (List.mem_append_left _ (List.mem_append_left _ (List.mem_append_left _ (List.mem_append_right _ h)))))) 0 (SWg_0 K b t x y α _) rfl 0 (by decide) (List.mem_of_getElem? (i := 3) rfl) rfl rfl dX3_load_27 ?_
    refine g_callVv C (n := 0) (As := []) (rest := []) (fun r h => mX2_startReading l D K t _ r h) (SWe_t D K b t x y α _) gX3_load_X2_startReading rfl (by decide +kernel) ⟨Nat.le_of_ble_eq_true rfl, Nat.le_of_ble_eq_true rfl, rfl, rfl⟩ 0 (TWg_0 K t _) rfl rfl rfl (Nat.le_of_ble_eq_true rfl) dX3_load_30 (fun r7 _ => ?_)
    refine g_state (fun u8 => ?_)
    refine g_aload_n C 0 dX3_load_33 rfl rfl ?_
    refine g_get C (fun _ h => List.mem_cons_of_mem _ (List.mem_append_left _ (List.mem_append_left _ (List.mem_append_left _ (List.mem_append_left _ (List.mem_append_right _ h)))))) 0 (SWg_0 K b t x y α _) rfl 0 (by decide) (List.mem_of_getElem? (i := 3) rfl) rfl rfl dX3_load_34 ?_
    refine g_callVi C (n := 0) (As := []) (rest := []) (fun r h => mX2_readHeader l D K t _ r h) (SWe_t D K b t x y α _) gX3_load_X2_readHeader rfl (by decide +kernel) ⟨Nat.le_of_ble_eq_true rfl, Nat.le_of_ble_eq_true rfl, rfl, rfl⟩ 0 (TWg_0 K t _) rfl rfl rfl (Nat.le_of_ble_eq_true rfl) dX3_load_37 (fun r9 _ => ?_)
    refine g_state (fun u10 => ?_)
    refine g_pop C dX3_load_40 rfl ?_
    refine g_aload_n C 0 dX3_load_41 rfl rfl ?_
    refine g_callVv C (n := 0) (As := []) (rest := []) (fun r h => mX3_putGatesOfText l D K b t x y α _ r h) gE.same gX3_load_X3_putGatesOfText rfl (by decide +kernel) ⟨Nat.le_of_ble_eq_true rfl, Nat.le_of_ble_eq_true rfl, rfl, rfl⟩ 0 (SWg_0 K b t x y α _) rfl rfl rfl (Nat.le_of_ble_eq_true rfl) dX3_load_42 (fun r11 _ => ?_)
    refine g_iconst C (v := (0 : Int32)) dX3_load_45 ic_0 ?_
    refine g_istore_n C (lv' := [(1, .int (0 : Int32)), (0, .ref (b 0))]) dX3_load_46 rfl (by decide) rfl ?_
    refine g_iconst C (v := (0 : Int32)) dX3_load_47 ic_0 ?_
    refine g_istore_n C (lv' := [(2, .int (0 : Int32)), (1, .int (0 : Int32)), (0, .ref (b 0))]) dX3_load_48 rfl (by decide) rfl ?_
    refine g_sub C (lv' := [(0, .ref (b 0)), (1, .int (0 : Int32)), (2, .int (0 : Int32))]) [2, 1, 0] rfl ?_
    exact h_49 gFuel r11 (0 : Int32) (0 : Int32)
  · exact g_throwS CX rfl (by decide) (List.mem_of_getElem? (i := 1) rfl) (List.mem_of_getElem? (i := 2) rfl) (List.mem_of_getElem? (i := 18) rfl) (fun _ h => List.mem_cons_of_mem _ (List.mem_append_right _ h)) nonGood2 (allOt2 _) dX3_load_12 dX3_load_15 dX3_load_16 dX3_load_18 dX3_load_21 (Nat.le_of_ble_eq_true rfl) (Nat.le_of_ble_eq_true rfl)
set_option maxHeartbeats 4000000 in
set_option maxRecDepth 100000 in
theorem mX3_about (l : Launch) (D : va_G) (K : Nat → ClassId) (b t x y : Nat → Nat) (α : Nat → Nat → Nat) (σ : ST) (p1 : Int32) (r : ((Nat × ST) ⊕ (Int32 × ST))) (hfl : l.stackTraces = false) (hf : fX3_about σ p1 = some r) : gMx l yX3_about wsX3_about 6 82 D (gT K) (SW K b t x y α) [.ref (b 0), .int p1] σ r := by
  refine mk_x (nL := 2) (cc := cX3_about) hfl (by decide) rfl (Nat.le_of_ble_eq_true rfl) hf (fun ce sl g CX => ?_)
  have C := CX.C
  refine g_sub C (lv' := [(0, .ref (b 0)), (1, .int p1)]) [0, 1] rfl ?_
  unfold fX3_about
  refine g_iload_n C 1 dX3_about_0 rfl rfl ?_
  refine g_tcase C 60 (0 : Int32) dX3_about_1 (by decide) (by decide) rfl (by decide) (fun _ => ?_) (fun h1 => ?_)
  · refine g_aload_n C 0 dX3_about_60 rfl rfl ?_
    refine g_get C (fun _ h => List.mem_cons_of_mem _ (List.mem_append_left _ (List.mem_append_left _ (List.mem_append_left _ (List.mem_append_right _ h))))) 0 (SWg_0 K b t x y α _) rfl 1 (by decide) (List.mem_of_getElem? (i := 3) rfl) rfl rfl dX3_about_61 ?_
    refine g_get C (fun _ h => List.mem_cons_of_mem _ (List.mem_append_left _ (List.mem_append_left _ (List.mem_append_right _ h)))) 16 (SWg_16 K b t x y α _) rfl 11 (by decide) (List.mem_of_getElem? (i := 4) rfl) rfl rfl dX3_about_64 ?_
    exact g_ret C ⟨_, rfl, dX3_about_67, rfl⟩
  refine g_tcase C 68 (1 : Int32) dX3_about_1 (by decide) (by decide) rfl (by decide) (fun _ => ?_) (fun h2 => ?_)
  · refine g_aload_n C 0 dX3_about_68 rfl rfl ?_
    refine g_get C (fun _ h => List.mem_cons_of_mem _ (List.mem_append_left _ (List.mem_append_left _ (List.mem_append_left _ (List.mem_append_right _ h))))) 0 (SWg_0 K b t x y α _) rfl 1 (by decide) (List.mem_of_getElem? (i := 3) rfl) rfl rfl dX3_about_69 ?_
    refine g_get C (fun _ h => List.mem_cons_of_mem _ (List.mem_append_left _ (List.mem_append_left _ (List.mem_append_right _ h)))) 16 (SWg_16 K b t x y α _) rfl 0 (by decide) (List.mem_of_getElem? (i := 5) rfl) rfl rfl dX3_about_72 ?_
    refine g_callVi C (n := 0) (As := []) (rest := []) (fun r h => mX0_shoutCount l D K x _ r h) (SWe_x D K b t x y α _) gX3_about_X0_shoutCount rfl (by decide +kernel) ⟨Nat.le_of_ble_eq_true rfl, Nat.le_of_ble_eq_true rfl, rfl, rfl⟩ 0 (LWg_0 K x _) rfl rfl rfl (Nat.le_of_ble_eq_true rfl) dX3_about_75 (fun r3 _ => ?_)
    refine g_state (fun u4 => ?_)
    exact g_ret C ⟨_, rfl, dX3_about_78, rfl⟩
  refine g_tcase C 79 (2 : Int32) dX3_about_1 (by decide) (by decide) rfl (by decide) (fun _ => ?_) (fun h5 => ?_)
  · refine g_aload_n C 0 dX3_about_79 rfl rfl ?_
    refine g_get C (fun _ h => List.mem_cons_of_mem _ (List.mem_append_left _ (List.mem_append_left _ (List.mem_append_left _ (List.mem_append_right _ h))))) 0 (SWg_0 K b t x y α _) rfl 1 (by decide) (List.mem_of_getElem? (i := 3) rfl) rfl rfl dX3_about_80 ?_
    refine g_get C (fun _ h => List.mem_cons_of_mem _ (List.mem_append_left _ (List.mem_append_left _ (List.mem_append_right _ h)))) 16 (SWg_16 K b t x y α _) rfl 0 (by decide) (List.mem_of_getElem? (i := 5) rfl) rfl rfl dX3_about_83 ?_
    refine g_callVi C (n := 0) (As := []) (rest := []) (fun r h => mX0_waitingCount l D K x _ r h) (SWe_x D K b t x y α _) gX3_about_X0_waitingCount rfl (by decide +kernel) ⟨Nat.le_of_ble_eq_true rfl, Nat.le_of_ble_eq_true rfl, rfl, rfl⟩ 0 (LWg_0 K x _) rfl rfl rfl (Nat.le_of_ble_eq_true rfl) dX3_about_86 (fun r6 _ => ?_)
    refine g_state (fun u7 => ?_)
    exact g_ret C ⟨_, rfl, dX3_about_89, rfl⟩
  refine g_tcase C 90 (3 : Int32) dX3_about_1 (by decide) (by decide) rfl (by decide) (fun _ => ?_) (fun h8 => ?_)
  · refine g_aload_n C 0 dX3_about_90 rfl rfl ?_
    refine g_get C (fun _ h => List.mem_cons_of_mem _ (List.mem_append_left _ (List.mem_append_left _ (List.mem_append_left _ (List.mem_append_right _ h))))) 0 (SWg_0 K b t x y α _) rfl 1 (by decide) (List.mem_of_getElem? (i := 3) rfl) rfl rfl dX3_about_91 ?_
    refine g_get C (fun _ h => List.mem_cons_of_mem _ (List.mem_append_left _ (List.mem_append_left _ (List.mem_append_right _ h)))) 16 (SWg_16 K b t x y α _) rfl 12 (by decide) (List.mem_of_getElem? (i := 6) rfl) rfl rfl dX3_about_94 ?_
    exact g_ret C ⟨_, rfl, dX3_about_97, rfl⟩
  refine g_tcase C 98 (4 : Int32) dX3_about_1 (by decide) (by decide) rfl (by decide) (fun _ => ?_) (fun h9 => ?_)
  · refine g_aload_n C 0 dX3_about_98 rfl rfl ?_
    refine g_get C (fun _ h => List.mem_cons_of_mem _ (List.mem_append_left _ (List.mem_append_left _ (List.mem_append_left _ (List.mem_append_right _ h))))) 0 (SWg_0 K b t x y α _) rfl 1 (by decide) (List.mem_of_getElem? (i := 3) rfl) rfl rfl dX3_about_99 ?_
    refine g_get C (fun _ h => List.mem_cons_of_mem _ (List.mem_append_left _ (List.mem_append_left _ (List.mem_append_right _ h)))) 16 (SWg_16 K b t x y α _) rfl 13 (by decide) (List.mem_of_getElem? (i := 7) rfl) rfl rfl dX3_about_102 ?_
    exact g_ret C ⟨_, rfl, dX3_about_105, rfl⟩
  refine g_tcase C 106 (5 : Int32) dX3_about_1 (by decide) (by decide) rfl (by decide) (fun _ => ?_) (fun h10 => ?_)
  · refine g_aload_n C 0 dX3_about_106 rfl rfl ?_
    refine g_get C (fun _ h => List.mem_cons_of_mem _ (List.mem_append_left _ (List.mem_append_left _ (List.mem_append_left _ (List.mem_append_right _ h))))) 0 (SWg_0 K b t x y α _) rfl 1 (by decide) (List.mem_of_getElem? (i := 3) rfl) rfl rfl dX3_about_107 ?_
    refine g_get C (fun _ h => List.mem_cons_of_mem _ (List.mem_append_left _ (List.mem_append_left _ (List.mem_append_right _ h)))) 16 (SWg_16 K b t x y α _) rfl 8 (by decide) (List.mem_of_getElem? (i := 8) rfl) rfl rfl dX3_about_110 ?_
    refine g_callSi C (n := 1) (As := [.int (σ.2.2.1 9 8)]) (rest := []) (fun r h => mJ6_bitCount_0f7a4 l D K _ r h) gE.nil (τ := ()) gX3_about_J6_bitCount_0f7a4 rfl (by decide +kernel) ⟨Nat.le_of_ble_eq_true rfl, Nat.le_of_ble_eq_true rfl, rfl, rfl⟩ rfl rfl (Nat.le_of_ble_eq_true rfl) dX3_about_113 (fun r11 _ => ?_)
    exact g_ret C ⟨_, rfl, dX3_about_116, rfl⟩
  refine g_tcase C 117 (6 : Int32) dX3_about_1 (by decide) (by decide) rfl (by decide) (fun _ => ?_) (fun h12 => ?_)
  · refine g_aload_n C 0 dX3_about_117 rfl rfl ?_
    refine g_get C (fun _ h => List.mem_cons_of_mem _ (List.mem_append_left _ (List.mem_append_left _ (List.mem_append_left _ (List.mem_append_right _ h))))) 0 (SWg_0 K b t x y α _) rfl 1 (by decide) (List.mem_of_getElem? (i := 3) rfl) rfl rfl dX3_about_118 ?_
    refine g_callVi C (n := 0) (As := []) (rest := []) (fun r h => mX1_booksInBags l D K x _ r h) (SWe_x D K b t x y α _) gX3_about_X1_booksInBags rfl (by decide +kernel) ⟨Nat.le_of_ble_eq_true rfl, Nat.le_of_ble_eq_true rfl, rfl, rfl⟩ 9 (LWg_9 K x _) rfl rfl rfl (Nat.le_of_ble_eq_true rfl) dX3_about_121 (fun r13 _ => ?_)
    refine g_state (fun u14 => ?_)
    refine g_callSi C (n := 1) (As := [.int r13.1]) (rest := []) (fun r h => mJ6_bitCount_0f7a4 l D K _ r h) gE.nil (τ := ()) gX3_about_J6_bitCount_0f7a4 rfl (by decide +kernel) ⟨Nat.le_of_ble_eq_true rfl, Nat.le_of_ble_eq_true rfl, rfl, rfl⟩ rfl rfl (Nat.le_of_ble_eq_true rfl) dX3_about_124 (fun r15 _ => ?_)
    exact g_ret C ⟨_, rfl, dX3_about_127, rfl⟩
  refine g_tcase C 128 (7 : Int32) dX3_about_1 (by decide) (by decide) rfl (by decide) (fun _ => ?_) (fun h16 => ?_)
  · refine g_aload_n C 0 dX3_about_128 rfl rfl ?_
    refine g_get C (fun _ h => List.mem_cons_of_mem _ (List.mem_append_left _ (List.mem_append_left _ (List.mem_append_left _ (List.mem_append_right _ h))))) 0 (SWg_0 K b t x y α _) rfl 1 (by decide) (List.mem_of_getElem? (i := 3) rfl) rfl rfl dX3_about_129 ?_
    refine g_iconst C (v := (1 : Int32)) dX3_about_132 ic_1 ?_
    refine g_callVi C (n := 1) (As := [.int (1 : Int32)]) (rest := []) (fun r h => mX1_visitorsWho l D K x _ _ r h) (SWe_x D K b t x y α _) gX3_about_X1_visitorsWho rfl (by decide +kernel) ⟨Nat.le_of_ble_eq_true rfl, Nat.le_of_ble_eq_true rfl, rfl, rfl⟩ 9 (LWg_9 K x _) rfl rfl rfl (Nat.le_of_ble_eq_true rfl) dX3_about_133 (fun r17 _ => ?_)
    refine g_state (fun u18 => ?_)
    exact g_ret C ⟨_, rfl, dX3_about_136, rfl⟩
  refine g_tcase C 137 (8 : Int32) dX3_about_1 (by decide) (by decide) rfl (by decide) (fun _ => ?_) (fun h19 => ?_)
  · refine g_aload_n C 0 dX3_about_137 rfl rfl ?_
    refine g_get C (fun _ h => List.mem_cons_of_mem _ (List.mem_append_left _ (List.mem_append_left _ (List.mem_append_left _ (List.mem_append_right _ h))))) 0 (SWg_0 K b t x y α _) rfl 1 (by decide) (List.mem_of_getElem? (i := 3) rfl) rfl rfl dX3_about_138 ?_
    refine g_iconst C (v := (2 : Int32)) dX3_about_141 ic_2 ?_
    refine g_callVi C (n := 1) (As := [.int (2 : Int32)]) (rest := []) (fun r h => mX1_visitorsWho l D K x _ _ r h) (SWe_x D K b t x y α _) gX3_about_X1_visitorsWho rfl (by decide +kernel) ⟨Nat.le_of_ble_eq_true rfl, Nat.le_of_ble_eq_true rfl, rfl, rfl⟩ 9 (LWg_9 K x _) rfl rfl rfl (Nat.le_of_ble_eq_true rfl) dX3_about_142 (fun r20 _ => ?_)
    refine g_state (fun u21 => ?_)
    exact g_ret C ⟨_, rfl, dX3_about_145, rfl⟩
  refine g_tcase C 146 (9 : Int32) dX3_about_1 (by decide) (by decide) rfl (by decide) (fun _ => ?_) (fun h22 => ?_)
  · refine g_aload_n C 0 dX3_about_146 rfl rfl ?_
    refine g_get C (fun _ h => List.mem_cons_of_mem _ (List.mem_append_left _ (List.mem_append_left _ (List.mem_append_left _ (List.mem_append_right _ h))))) 0 (SWg_0 K b t x y α _) rfl 1 (by decide) (List.mem_of_getElem? (i := 3) rfl) rfl rfl dX3_about_147 ?_
    refine g_get C (fun _ h => List.mem_cons_of_mem _ (List.mem_append_left _ (List.mem_append_left _ (List.mem_append_right _ h)))) 16 (SWg_16 K b t x y α _) rfl 10 (by decide) (List.mem_of_getElem? (i := 9) rfl) rfl rfl dX3_about_150 ?_
    exact g_ret C ⟨_, rfl, dX3_about_153, rfl⟩
  refine g_tcase C 154 (10 : Int32) dX3_about_1 (by decide) (by decide) rfl (by decide) (fun _ => ?_) (fun h23 => ?_)
  · refine g_aload_n C 0 dX3_about_154 rfl rfl ?_
    refine g_get C (fun _ h => List.mem_cons_of_mem _ (List.mem_append_left _ (List.mem_append_left _ (List.mem_append_left _ (List.mem_append_right _ h))))) 0 (SWg_0 K b t x y α _) rfl 1 (by decide) (List.mem_of_getElem? (i := 3) rfl) rfl rfl dX3_about_155 ?_
    refine g_get C (fun _ h => List.mem_cons_of_mem _ (List.mem_append_left _ (List.mem_append_left _ (List.mem_append_right _ h)))) 16 (SWg_16 K b t x y α _) rfl 0 (by decide) (List.mem_of_getElem? (i := 5) rfl) rfl rfl dX3_about_158 ?_
    refine g_get C (fun _ h => List.mem_cons_of_mem _ (List.mem_append_left _ (List.mem_append_right _ h))) 7 (SWg_7 K b t x y α _) rfl 8 (by decide) (List.mem_of_getElem? (i := 10) rfl) rfl rfl dX3_about_161 ?_
    exact g_ret C ⟨_, rfl, dX3_about_164, rfl⟩
  refine g_tdef2 C 165 [0, 1, 2, 3, 4, 5, 6, 7, 8, 9, 10] dX3_about_1 (List.forall_mem_cons.mpr ⟨i32nz h1 (by decide), (List.forall_mem_cons.mpr ⟨i32nz h2 (by decide), (List.forall_mem_cons.mpr ⟨i32nz h5 (by decide), (List.forall_mem_cons.mpr ⟨i32nz h8 (by decide), (List.forall_mem_cons.mpr ⟨i32nz h9 (by decide), (List.forall_mem_cons.mpr ⟨i32nz h10 (by decide), (List.forall_mem_cons.mpr ⟨i32nz h12 (by decide), (List.forall_mem_cons.mpr ⟨i32nz h16 (by decide), (List.forall_mem_cons.mpr ⟨i32nz h19 (by decide), (List.forall_mem_cons.mpr ⟨i32nz h22 (by decide), (List.forall_mem_cons.mpr ⟨i32nz h23 (by decide), (fun _ h9 => absurd h9 List.not_mem_nil)⟩)⟩)⟩)⟩)⟩)⟩)⟩)⟩)⟩)⟩)⟩) (by decide) (by decide) (by decide) ?_
  exact g_throwS CX rfl (by decide) (List.mem_of_getElem? (i := 1) rfl) (List.mem_of_getElem? (i := 2) rfl) (List.mem_of_getElem? (i := 0) rfl) (fun _ h => List.mem_cons_of_mem _ (List.mem_append_right _ h)) nonGood1 (allOt1 _) dX3_about_165 dX3_about_168 dX3_about_169 dX3_about_171 dX3_about_174 (Nat.le_of_ble_eq_true rfl) (Nat.le_of_ble_eq_true rfl)
set_option maxHeartbeats 4000000 in
set_option maxRecDepth 100000 in
theorem mX3_book (l : Launch) (D : va_G) (K : Nat → ClassId) (b t x y : Nat → Nat) (α : Nat → Nat → Nat) (σ : ST) (p1 : Int32) (p2 : Int32) (r : ((Nat × ST) ⊕ (Int32 × ST))) (hfl : l.stackTraces = false) (hf : fX3_book σ p1 p2 = some r) : gMx l yX3_book wsX3_book 7 102 D (gT K) (SW K b t x y α) [.ref (b 0), .int p1, .int p2] σ r := by
  refine mk_x (nL := 3) (cc := cX3_book) hfl (by decide) rfl (Nat.le_of_ble_eq_true rfl) hf (fun ce sl g CX => ?_)
  have C := CX.C
  refine g_sub C (lv' := [(0, .ref (b 0)), (1, .int p1), (2, .int p2)]) [0, 1, 2] rfl ?_
  unfold fX3_book
  refine g_iload_n C 1 dX3_book_0 rfl rfl ?_
  refine g_callX CX (n := 1) (As := [.int p1]) (rest := []) (fun r h => mX3_requireBook l D K _ r hfl h) gX3_book_X3_requireBook rfl (by decide +kernel) ⟨Nat.le_of_ble_eq_true rfl, Nat.le_of_ble_eq_true rfl⟩ rfl rfl (Nat.le_of_ble_eq_true rfl) dX3_book_1 ?_
  refine g_iload_n C 2 dX3_book_4 rfl rfl ?_
  refine g_tcase C 40 (0 : Int32) dX3_book_5 (by decide) (by decide) rfl (by decide) (fun _ => ?_) (fun h1 => ?_)
  · refine g_aload_n C 0 dX3_book_40 rfl rfl ?_
    refine g_get C (fun _ h => List.mem_cons_of_mem _ (List.mem_append_left _ (List.mem_append_left _ (List.mem_append_left _ (List.mem_append_right _ h))))) 0 (SWg_0 K b t x y α _) rfl 1 (by decide) (List.mem_of_getElem? (i := 3) rfl) rfl rfl dX3_book_41 ?_
    refine g_iload_n C 1 dX3_book_44 rfl rfl ?_
    refine g_callVi C (n := 1) (As := [.int p1]) (rest := []) (fun r h => mX1_holderOf l D K x _ _ r h) (SWe_x D K b t x y α _) gX3_book_X1_holderOf rfl (by decide +kernel) ⟨Nat.le_of_ble_eq_true rfl, Nat.le_of_ble_eq_true rfl, rfl, rfl⟩ 9 (LWg_9 K x _) rfl rfl rfl (Nat.le_of_ble_eq_true rfl) dX3_book_45 (fun r2 _ => ?_)
    refine g_state (fun u3 => ?_)
    exact g_ret C ⟨_, rfl, dX3_book_48, rfl⟩
  refine g_tcase C 49 (1 : Int32) dX3_book_5 (by decide) (by decide) rfl (by decide) (fun _ => ?_) (fun h4 => ?_)
  · refine g_aload_n C 0 dX3_book_49 rfl rfl ?_
    refine g_get C (fun _ h => List.mem_cons_of_mem _ (List.mem_append_left _ (List.mem_append_left _ (List.mem_append_left _ (List.mem_append_right _ h))))) 0 (SWg_0 K b t x y α _) rfl 1 (by decide) (List.mem_of_getElem? (i := 3) rfl) rfl rfl dX3_book_50 ?_
    refine g_get C (fun _ h => List.mem_cons_of_mem _ (List.mem_append_left _ (List.mem_append_left _ (List.mem_append_right _ h)))) 16 (SWg_16 K b t x y α _) rfl 8 (by decide) (List.mem_of_getElem? (i := 4) rfl) rfl rfl dX3_book_53 ?_
    refine g_iload_n C 1 dX3_book_56 rfl rfl ?_
    refine g_callSi C (n := 2) (As := [.int (σ.2.2.1 9 8), .int p1]) (rest := []) (fun r h => mX3_has l D K _ _ r h) gE.nil (τ := ()) gX3_book_X3_has rfl (by decide +kernel) ⟨Nat.le_of_ble_eq_true rfl, Nat.le_of_ble_eq_true rfl, rfl, rfl⟩ rfl rfl (Nat.le_of_ble_eq_true rfl) dX3_book_57 (fun r5 _ => ?_)
    refine g_callSi C (n := 1) (As := [.int r5.1]) (rest := []) (fun r h => mX3_oneIf l D K _ r h) gE.nil (τ := ()) gX3_book_X3_oneIf rfl (by decide +kernel) ⟨Nat.le_of_ble_eq_true rfl, Nat.le_of_ble_eq_true rfl, rfl, rfl⟩ rfl rfl (Nat.le_of_ble_eq_true rfl) dX3_book_60 (fun r6 _ => ?_)
    exact g_ret C ⟨_, rfl, dX3_book_63, rfl⟩
  refine g_tcase C 64 (2 : Int32) dX3_book_5 (by decide) (by decide) rfl (by decide) (fun _ => ?_) (fun h7 => ?_)
  · refine g_aload_n C 0 dX3_book_64 rfl rfl ?_
    refine g_get C (fun _ h => List.mem_cons_of_mem _ (List.mem_append_left _ (List.mem_append_left _ (List.mem_append_left _ (List.mem_append_right _ h))))) 0 (SWg_0 K b t x y α _) rfl 1 (by decide) (List.mem_of_getElem? (i := 3) rfl) rfl rfl dX3_book_65 ?_
    refine g_get C (fun _ h => List.mem_cons_of_mem _ (List.mem_append_left _ (List.mem_append_left _ (List.mem_append_right _ h)))) 16 (SWg_16 K b t x y α _) rfl 6 (by decide) (List.mem_of_getElem? (i := 5) rfl) rfl rfl dX3_book_68 ?_
    refine g_iload_n C 1 dX3_book_71 rfl rfl ?_
    refine g_ialdG C 22 0 (SWg_22 K b t x y α _) rfl dX3_book_72 ?_
    exact g_ret C ⟨_, rfl, dX3_book_73, rfl⟩
  refine g_tcase C 74 (3 : Int32) dX3_book_5 (by decide) (by decide) rfl (by decide) (fun _ => ?_) (fun h8 => ?_)
  · refine g_aload_n C 0 dX3_book_74 rfl rfl ?_
    refine g_get C (fun _ h => List.mem_cons_of_mem _ (List.mem_append_left _ (List.mem_append_left _ (List.mem_append_left _ (List.mem_append_right _ h))))) 0 (SWg_0 K b t x y α _) rfl 1 (by decide) (List.mem_of_getElem? (i := 3) rfl) rfl rfl dX3_book_75 ?_
    refine g_get C (fun _ h => List.mem_cons_of_mem _ (List.mem_append_left _ (List.mem_append_left _ (List.mem_append_right _ h)))) 16 (SWg_16 K b t x y α _) rfl 9 (by decide) (List.mem_of_getElem? (i := 6) rfl) rfl rfl dX3_book_78 ?_
    refine g_iload_n C 1 dX3_book_81 rfl rfl ?_
    refine g_callSi C (n := 2) (As := [.int (σ.2.2.1 9 9), .int p1]) (rest := []) (fun r h => mX3_has l D K _ _ r h) gE.nil (τ := ()) gX3_book_X3_has rfl (by decide +kernel) ⟨Nat.le_of_ble_eq_true rfl, Nat.le_of_ble_eq_true rfl, rfl, rfl⟩ rfl rfl (Nat.le_of_ble_eq_true rfl) dX3_book_82 (fun r9 _ => ?_)
    refine g_callSi C (n := 1) (As := [.int r9.1]) (rest := []) (fun r h => mX3_oneIf l D K _ r h) gE.nil (τ := ()) gX3_book_X3_oneIf rfl (by decide +kernel) ⟨Nat.le_of_ble_eq_true rfl, Nat.le_of_ble_eq_true rfl, rfl, rfl⟩ rfl rfl (Nat.le_of_ble_eq_true rfl) dX3_book_85 (fun r10 _ => ?_)
    exact g_ret C ⟨_, rfl, dX3_book_88, rfl⟩
  refine g_tcase C 89 (4 : Int32) dX3_book_5 (by decide) (by decide) rfl (by decide) (fun _ => ?_) (fun h11 => ?_)
  · refine g_aload_n C 0 dX3_book_89 rfl rfl ?_
    refine g_get C (fun _ h => List.mem_cons_of_mem _ (List.mem_append_left _ (List.mem_append_left _ (List.mem_append_left _ (List.mem_append_right _ h))))) 0 (SWg_0 K b t x y α _) rfl 1 (by decide) (List.mem_of_getElem? (i := 3) rfl) rfl rfl dX3_book_90 ?_
    refine g_get C (fun _ h => List.mem_cons_of_mem _ (List.mem_append_left _ (List.mem_append_left _ (List.mem_append_right _ h)))) 16 (SWg_16 K b t x y α _) rfl 7 (by decide) (List.mem_of_getElem? (i := 7) rfl) rfl rfl dX3_book_93 ?_
    refine g_iload_n C 1 dX3_book_96 rfl rfl ?_
    refine g_ialdG C 23 0 (SWg_23 K b t x y α _) rfl dX3_book_97 ?_
    exact g_ret C ⟨_, rfl, dX3_book_98, rfl⟩
  refine g_tdef2 C 99 [0, 1, 2, 3, 4] dX3_book_5 (List.forall_mem_cons.mpr ⟨i32nz h1 (by decide), (List.forall_mem_cons.mpr ⟨i32nz h4 (by decide), (List.forall_mem_cons.mpr ⟨i32nz h7 (by decide), (List.forall_mem_cons.mpr ⟨i32nz h8 (by decide), (List.forall_mem_cons.mpr ⟨i32nz h11 (by decide), (fun _ h9 => absurd h9 List.not_mem_nil)⟩)⟩)⟩)⟩)⟩) (by decide) (by decide) (by decide) ?_
  exact g_throwS CX rfl (by decide) (List.mem_of_getElem? (i := 1) rfl) (List.mem_of_getElem? (i := 2) rfl) (List.mem_of_getElem? (i := 1) rfl) (fun _ h => List.mem_cons_of_mem _ (List.mem_append_left _ (List.mem_append_right _ h))) nonGood1 (allOt1 _) dX3_book_99 dX3_book_102 dX3_book_103 dX3_book_105 dX3_book_108 (Nat.le_of_ble_eq_true rfl) (Nat.le_of_ble_eq_true rfl)
set_option maxHeartbeats 4000000 in
set_option maxRecDepth 100000 in
theorem mX3_visitor (l : Launch) (D : va_G) (K : Nat → ClassId) (b t x y : Nat → Nat) (α : Nat → Nat → Nat) (σ : ST) (p1 : Int32) (p2 : Int32) (r : ((Nat × ST) ⊕ (Int32 × ST))) (hfl : l.stackTraces = false) (hf : fX3_visitor σ p1 p2 = some r) : gMx l yX3_visitor wsX3_visitor 7 102 D (gT K) (SW K b t x y α) [.ref (b 0), .int p1, .int p2] σ r := by
  refine mk_x (nL := 4) (cc := cX3_visitor) hfl (by decide) rfl (Nat.le_of_ble_eq_true rfl) hf (fun ce sl g CX => ?_)
  have C := CX.C
  refine g_sub C (lv' := [(0, .ref (b 0)), (1, .int p1), (2, .int p2)]) [0, 1, 2] rfl ?_
  unfold fX3_visitor
  have h_22 : ∀ (σ : ST) (v1 : Int32) (v2 : Int32) (s0 : Int32), g (fX3_visitor_L22 σ v1 v2 s0) 22 [(0, .ref (b 0)), (1, .int v1), (2, .int v2)] [.int s0] σ := by
    intro σ v1 v2 s0
    unfold fX3_visitor_L22
    refine g_istore_n C (lv' := [(3, .int s0), (0, .ref (b 0)), (1, .int v1), (2, .int v2)]) dX3_visitor_22 rfl (by decide) rfl ?_
    refine g_iload_n C 3 dX3_visitor_23 rfl rfl ?_
    refine g_tcase C 60 (0 : Int32) dX3_visitor_24 (by decide) (by decide) rfl (by decide) (fun _ => ?_) (fun h1 => ?_)
    · refine g_aload_n C 1 dX3_visitor_60 rfl rfl ?_
      refine g_get C (fun _ h => List.mem_cons_of_mem _ (List.mem_append_left _ (List.mem_append_left _ (List.mem_append_left _ (List.mem_append_right _ h))))) 0 (SWg_0 K b t x y α _) rfl 1 (by decide) (List.mem_of_getElem? (i := 3) rfl) rfl rfl dX3_visitor_61 ?_
      refine g_get C (fun _ h => List.mem_cons_of_mem _ (List.mem_append_left _ (List.mem_append_left _ (List.mem_append_right _ h)))) 16 (SWg_16 K b t x y α _) rfl 2 (by decide) (List.mem_of_getElem? (i := 4) rfl) rfl rfl dX3_visitor_64 ?_
      refine g_iload_n C 2 dX3_visitor_67 rfl rfl ?_
      refine g_ialdG C 18 0 (SWg_18 K b t x y α _) rfl dX3_visitor_68 ?_
      exact g_ret C ⟨_, rfl, dX3_visitor_69, rfl⟩
    refine g_tcase C 70 (1 : Int32) dX3_visitor_24 (by decide) (by decide) rfl (by decide) (fun _ => ?_) (fun h2 => ?_)
    · refine g_iload_n C 0 dX3_visitor_70 rfl rfl ?_
      refine g_if_eq C 86 dX3_visitor_71 (by decide) (fun _ => ?_) (fun _ => ?_)
      · refine g_bipush C (v := (-9 : Int32)) dX3_visitor_86 (by decide) ?_
        exact g_ret C ⟨_, rfl, dX3_visitor_88, rfl⟩
      · refine g_aload_n C 1 dX3_visitor_74 rfl rfl ?_
        refine g_get C (fun _ h => List.mem_cons_of_mem _ (List.mem_append_left _ (List.mem_append_left _ (List.mem_append_left _ (List.mem_append_right _ h))))) 0 (SWg_0 K b t x y α _) rfl 1 (by decide) (List.mem_of_getElem? (i := 3) rfl) rfl rfl dX3_visitor_75 ?_
        refine g_get C (fun _ h => List.mem_cons_of_mem _ (List.mem_append_left _ (List.mem_append_left _ (List.mem_append_right _ h)))) 16 (SWg_16 K b t x y α _) rfl 3 (by decide) (List.mem_of_getElem? (i := 5) rfl) rfl rfl dX3_visitor_78 ?_
        refine g_iload_n C 2 dX3_visitor_81 rfl rfl ?_
        refine g_ialdG C 19 0 (SWg_19 K b t x y α _) rfl dX3_visitor_82 ?_
        refine g_goto C 88 dX3_visitor_83 (by decide) ?_
        exact g_ret C ⟨_, rfl, dX3_visitor_88, rfl⟩
    refine g_tcase C 89 (2 : Int32) dX3_visitor_24 (by decide) (by decide) rfl (by decide) (fun _ => ?_) (fun h3 => ?_)
    · refine g_iload_n C 0 dX3_visitor_89 rfl rfl ?_
      refine g_if_eq C 105 dX3_visitor_90 (by decide) (fun _ => ?_) (fun _ => ?_)
      · refine g_bipush C (v := (-9 : Int32)) dX3_visitor_105 (by decide) ?_
        exact g_ret C ⟨_, rfl, dX3_visitor_107, rfl⟩
      · refine g_aload_n C 1 dX3_visitor_93 rfl rfl ?_
        refine g_get C (fun _ h => List.mem_cons_of_mem _ (List.mem_append_left _ (List.mem_append_left _ (List.mem_append_left _ (List.mem_append_right _ h))))) 0 (SWg_0 K b t x y α _) rfl 1 (by decide) (List.mem_of_getElem? (i := 3) rfl) rfl rfl dX3_visitor_94 ?_
        refine g_get C (fun _ h => List.mem_cons_of_mem _ (List.mem_append_left _ (List.mem_append_left _ (List.mem_append_right _ h)))) 16 (SWg_16 K b t x y α _) rfl 4 (by decide) (List.mem_of_getElem? (i := 6) rfl) rfl rfl dX3_visitor_97 ?_
        refine g_iload_n C 2 dX3_visitor_100 rfl rfl ?_
        refine g_ialdG C 20 0 (SWg_20 K b t x y α _) rfl dX3_visitor_101 ?_
        refine g_goto C 107 dX3_visitor_102 (by decide) ?_
        exact g_ret C ⟨_, rfl, dX3_visitor_107, rfl⟩
    refine g_tcase C 108 (3 : Int32) dX3_visitor_24 (by decide) (by decide) rfl (by decide) (fun _ => ?_) (fun h4 => ?_)
    · refine g_iload_n C 0 dX3_visitor_108 rfl rfl ?_
      refine g_if_eq C 127 dX3_visitor_109 (by decide) (fun _ => ?_) (fun _ => ?_)
      · refine g_bipush C (v := (-9 : Int32)) dX3_visitor_127 (by decide) ?_
        exact g_ret C ⟨_, rfl, dX3_visitor_129, rfl⟩
      · refine g_aload_n C 1 dX3_visitor_112 rfl rfl ?_
        refine g_get C (fun _ h => List.mem_cons_of_mem _ (List.mem_append_left _ (List.mem_append_left _ (List.mem_append_left _ (List.mem_append_right _ h))))) 0 (SWg_0 K b t x y α _) rfl 1 (by decide) (List.mem_of_getElem? (i := 3) rfl) rfl rfl dX3_visitor_113 ?_
        refine g_get C (fun _ h => List.mem_cons_of_mem _ (List.mem_append_left _ (List.mem_append_left _ (List.mem_append_right _ h)))) 16 (SWg_16 K b t x y α _) rfl 5 (by decide) (List.mem_of_getElem? (i := 7) rfl) rfl rfl dX3_visitor_116 ?_
        refine g_iload_n C 2 dX3_visitor_119 rfl rfl ?_
        refine g_zaldG C 21 1 (SWg_21 K b t x y α _) rfl dX3_visitor_120 ?_
        refine g_callSi C (n := 1) (As := [.int (σ.2.2.1 14 v1.toNatClampNeg)]) (rest := []) (fun r h => mX3_oneIf l D K _ r h) gE.nil (τ := ()) gX3_visitor_X3_oneIf rfl (by decide +kernel) ⟨Nat.le_of_ble_eq_true rfl, Nat.le_of_ble_eq_true rfl, rfl, rfl⟩ rfl rfl (Nat.le_of_ble_eq_true rfl) dX3_visitor_121 (fun r5 _ => ?_)
        refine g_goto C 129 dX3_visitor_124 (by decide) ?_
        exact g_ret C ⟨_, rfl, dX3_visitor_129, rfl⟩
    refine g_tcase C 130 (4 : Int32) dX3_visitor_24 (by decide) (by decide) rfl (by decide) (fun _ => ?_) (fun h6 => ?_)
    · refine g_aload_n C 1 dX3_visitor_130 rfl rfl ?_
      refine g_get C (fun _ h => List.mem_cons_of_mem _ (List.mem_append_left _ (List.mem_append_left _ (List.mem_append_left _ (List.mem_append_right _ h))))) 0 (SWg_0 K b t x y α _) rfl 1 (by decide) (List.mem_of_getElem? (i := 3) rfl) rfl rfl dX3_visitor_131 ?_
      refine g_get C (fun _ h => List.mem_cons_of_mem _ (List.mem_append_left _ (List.mem_append_left _ (List.mem_append_right _ h)))) 16 (SWg_16 K b t x y α _) rfl 1 (by decide) (List.mem_of_getElem? (i := 8) rfl) rfl rfl dX3_visitor_134 ?_
      refine g_iload_n C 2 dX3_visitor_137 rfl rfl ?_
      refine g_ialdG C 17 0 (SWg_17 K b t x y α _) rfl dX3_visitor_138 ?_
      exact g_ret C ⟨_, rfl, dX3_visitor_139, rfl⟩
    refine g_tdef2 C 140 [0, 1, 2, 3, 4] dX3_visitor_24 (List.forall_mem_cons.mpr ⟨i32nz h1 (by decide), (List.forall_mem_cons.mpr ⟨i32nz h2 (by decide), (List.forall_mem_cons.mpr ⟨i32nz h3 (by decide), (List.forall_mem_cons.mpr ⟨i32nz h4 (by decide), (List.forall_mem_cons.mpr ⟨i32nz h6 (by decide), (fun _ h9 => absurd h9 List.not_mem_nil)⟩)⟩)⟩)⟩)⟩) (by decide) (by decide) (by decide) ?_
    exact g_throwS CX rfl (by decide) (List.mem_of_getElem? (i := 1) rfl) (List.mem_of_getElem? (i := 2) rfl) (List.mem_of_getElem? (i := 2) rfl) (fun _ h => List.mem_cons_of_mem _ (List.mem_append_left _ (List.mem_append_right _ h))) nonGood1 (allOt1 _) dX3_visitor_140 dX3_visitor_143 dX3_visitor_144 dX3_visitor_146 dX3_visitor_149 (Nat.le_of_ble_eq_true rfl) (Nat.le_of_ble_eq_true rfl)
  refine g_iload_n C 1 dX3_visitor_0 rfl rfl ?_
  refine g_callX CX (n := 1) (As := [.int p1]) (rest := []) (fun r h => mX3_requireVisitor l D K _ r hfl h) gX3_visitor_X3_requireVisitor rfl (by decide +kernel) ⟨Nat.le_of_ble_eq_true rfl, Nat.le_of_ble_eq_true rfl⟩ rfl rfl (Nat.le_of_ble_eq_true rfl) dX3_visitor_1 ?_
  refine g_aload_n C 0 dX3_visitor_4 rfl rfl ?_
  refine g_get C (fun _ h => List.mem_cons_of_mem _ (List.mem_append_left _ (List.mem_append_left _ (List.mem_append_left _ (List.mem_append_right _ h))))) 0 (SWg_0 K b t x y α _) rfl 1 (by decide) (List.mem_of_getElem? (i := 3) rfl) rfl rfl dX3_visitor_5 ?_
  refine g_get C (fun _ h => List.mem_cons_of_mem _ (List.mem_append_left _ (List.mem_append_left _ (List.mem_append_right _ h)))) 16 (SWg_16 K b t x y α _) rfl 2 (by decide) (List.mem_of_getElem? (i := 4) rfl) rfl rfl dX3_visitor_8 ?_
  refine g_iload_n C 1 dX3_visitor_11 rfl rfl ?_
  refine g_ialdG C 18 0 (SWg_18 K b t x y α _) rfl dX3_visitor_12 ?_
  refine g_iconst C (v := (1 : Int32)) dX3_visitor_13 ic_1 ?_
  refine g_icmp_ne C 21 dX3_visitor_14 (by decide) (fun _ => ?_) (fun _ => ?_)
  · refine g_iconst C (v := (1 : Int32)) dX3_visitor_17 ic_1 ?_
    refine g_goto C 22 dX3_visitor_18 (by decide) ?_
    exact h_22 σ p1 p2 (1 : Int32)
  · refine g_iconst C (v := (0 : Int32)) dX3_visitor_21 ic_0 ?_
    exact h_22 σ p1 p2 (0 : Int32)
set_option maxHeartbeats 4000000 in
set_option maxRecDepth 100000 in
theorem mX3_gate (l : Launch) (D : va_G) (K : Nat → ClassId) (b t x y : Nat → Nat) (α : Nat → Nat → Nat) (σ : ST) (p1 : Int32) (p2 : Int32) (r : ((Nat × ST) ⊕ (Int32 × ST))) (hfl : l.stackTraces = false) (hf : fX3_gate σ p1 p2 = some r) : gMx l yX3_gate wsX3_gate 7 102 D (gT K) (SW K b t x y α) [.ref (b 0), .int p1, .int p2] σ r := by
  refine mk_x (nL := 3) (cc := cX3_gate) hfl (by decide) rfl (Nat.le_of_ble_eq_true rfl) hf (fun ce sl g CX => ?_)
  have C := CX.C
  refine g_sub C (lv' := [(0, .ref (b 0)), (1, .int p1), (2, .int p2)]) [0, 1, 2] rfl ?_
  unfold fX3_gate
  refine g_iload_n C 1 dX3_gate_0 rfl rfl ?_
  refine g_callX CX (n := 1) (As := [.int p1]) (rest := []) (fun r h => mX3_requireGate l D K _ r hfl h) gX3_gate_X3_requireGate rfl (by decide +kernel) ⟨Nat.le_of_ble_eq_true rfl, Nat.le_of_ble_eq_true rfl⟩ rfl rfl (Nat.le_of_ble_eq_true rfl) dX3_gate_1 ?_
  refine g_iload_n C 2 dX3_gate_4 rfl rfl ?_
  refine g_tcase C 44 (0 : Int32) dX3_gate_5 (by decide) (by decide) rfl (by decide) (fun _ => ?_) (fun h1 => ?_)
  · refine g_aload_n C 0 dX3_gate_44 rfl rfl ?_
    refine g_get C (fun _ h => List.mem_cons_of_mem _ (List.mem_append_left _ (List.mem_append_left _ (List.mem_append_left _ (List.mem_append_left _ (List.mem_append_right _ h)))))) 0 (SWg_0 K b t x y α _) rfl 1 (by decide) (List.mem_of_getElem? (i := 3) rfl) rfl rfl dX3_gate_45 ?_
    refine g_get C (fun _ h => List.mem_cons_of_mem _ (List.mem_append_left _ (List.mem_append_left _ (List.mem_append_left _ (List.mem_append_right _ h))))) 16 (SWg_16 K b t x y α _) rfl 0 (by decide) (List.mem_of_getElem? (i := 4) rfl) rfl rfl dX3_gate_48 ?_
    refine g_get C (fun _ h => List.mem_cons_of_mem _ (List.mem_append_left _ (List.mem_append_left _ (List.mem_append_right _ h)))) 7 (SWg_7 K b t x y α _) rfl 0 (by decide) (List.mem_of_getElem? (i := 5) rfl) rfl rfl dX3_gate_51 ?_
    refine g_iload_n C 1 dX3_gate_54 rfl rfl ?_
    refine g_ialdG C 8 0 (SWg_8 K b t x y α _) rfl dX3_gate_55 ?_
    exact g_ret C ⟨_, rfl, dX3_gate_56, rfl⟩
  refine g_tcase C 57 (1 : Int32) dX3_gate_5 (by decide) (by decide) rfl (by decide) (fun _ => ?_) (fun h2 => ?_)
  · refine g_aload_n C 0 dX3_gate_57 rfl rfl ?_
    refine g_get C (fun _ h => List.mem_cons_of_mem _ (List.mem_append_left _ (List.mem_append_left _ (List.mem_append_left _ (List.mem_append_left _ (List.mem_append_right _ h)))))) 0 (SWg_0 K b t x y α _) rfl 1 (by decide) (List.mem_of_getElem? (i := 3) rfl) rfl rfl dX3_gate_58 ?_
    refine g_get C (fun _ h => List.mem_cons_of_mem _ (List.mem_append_left _ (List.mem_append_left _ (List.mem_append_left _ (List.mem_append_right _ h))))) 16 (SWg_16 K b t x y α _) rfl 0 (by decide) (List.mem_of_getElem? (i := 4) rfl) rfl rfl dX3_gate_61 ?_
    refine g_get C (fun _ h => List.mem_cons_of_mem _ (List.mem_append_left _ (List.mem_append_left _ (List.mem_append_right _ h)))) 7 (SWg_7 K b t x y α _) rfl 1 (by decide) (List.mem_of_getElem? (i := 6) rfl) rfl rfl dX3_gate_64 ?_
    refine g_iload_n C 1 dX3_gate_67 rfl rfl ?_
    refine g_ialdG C 9 0 (SWg_9 K b t x y α _) rfl dX3_gate_68 ?_
    exact g_ret C ⟨_, rfl, dX3_gate_69, rfl⟩
  refine g_tcase C 70 (2 : Int32) dX3_gate_5 (by decide) (by decide) rfl (by decide) (fun _ => ?_) (fun h3 => ?_)
  · refine g_aload_n C 0 dX3_gate_70 rfl rfl ?_
    refine g_get C (fun _ h => List.mem_cons_of_mem _ (List.mem_append_left _ (List.mem_append_left _ (List.mem_append_left _ (List.mem_append_left _ (List.mem_append_right _ h)))))) 0 (SWg_0 K b t x y α _) rfl 1 (by decide) (List.mem_of_getElem? (i := 3) rfl) rfl rfl dX3_gate_71 ?_
    refine g_get C (fun _ h => List.mem_cons_of_mem _ (List.mem_append_left _ (List.mem_append_left _ (List.mem_append_left _ (List.mem_append_right _ h))))) 16 (SWg_16 K b t x y α _) rfl 0 (by decide) (List.mem_of_getElem? (i := 4) rfl) rfl rfl dX3_gate_74 ?_
    refine g_get C (fun _ h => List.mem_cons_of_mem _ (List.mem_append_left _ (List.mem_append_left _ (List.mem_append_right _ h)))) 7 (SWg_7 K b t x y α _) rfl 3 (by decide) (List.mem_of_getElem? (i := 7) rfl) rfl rfl dX3_gate_77 ?_
    refine g_iload_n C 1 dX3_gate_80 rfl rfl ?_
    refine g_ialdG C 11 0 (SWg_11 K b t x y α _) rfl dX3_gate_81 ?_
    exact g_ret C ⟨_, rfl, dX3_gate_82, rfl⟩
  refine g_tcase C 83 (3 : Int32) dX3_gate_5 (by decide) (by decide) rfl (by decide) (fun _ => ?_) (fun h4 => ?_)
  · refine g_aload_n C 0 dX3_gate_83 rfl rfl ?_
    refine g_get C (fun _ h => List.mem_cons_of_mem _ (List.mem_append_left _ (List.mem_append_left _ (List.mem_append_left _ (List.mem_append_left _ (List.mem_append_right _ h)))))) 0 (SWg_0 K b t x y α _) rfl 1 (by decide) (List.mem_of_getElem? (i := 3) rfl) rfl rfl dX3_gate_84 ?_
    refine g_get C (fun _ h => List.mem_cons_of_mem _ (List.mem_append_left _ (List.mem_append_left _ (List.mem_append_left _ (List.mem_append_right _ h))))) 16 (SWg_16 K b t x y α _) rfl 0 (by decide) (List.mem_of_getElem? (i := 4) rfl) rfl rfl dX3_gate_87 ?_
    refine g_iload_n C 1 dX3_gate_90 rfl rfl ?_
    refine g_callVi C (n := 1) (As := [.int p1]) (rest := []) (fun r h => mX0_firstWaiting l D K x _ _ r h) (SWe_x D K b t x y α _) gX3_gate_X0_firstWaiting rfl (by decide +kernel) ⟨Nat.le_of_ble_eq_true rfl, Nat.le_of_ble_eq_true rfl, rfl, rfl⟩ 0 (LWg_0 K x _) rfl rfl rfl (Nat.le_of_ble_eq_true rfl) dX3_gate_91 (fun r5 _ => ?_)
    refine g_state (fun u6 => ?_)
    exact g_ret C ⟨_, rfl, dX3_gate_94, rfl⟩
  refine g_tcase C 95 (4 : Int32) dX3_gate_5 (by decide) (by decide) rfl (by decide) (fun _ => ?_) (fun h7 => ?_)
  · refine g_aload_n C 0 dX3_gate_95 rfl rfl ?_
    refine g_get C (fun _ h => List.mem_cons_of_mem _ (List.mem_append_left _ (List.mem_append_left _ (List.mem_append_left _ (List.mem_append_left _ (List.mem_append_right _ h)))))) 0 (SWg_0 K b t x y α _) rfl 1 (by decide) (List.mem_of_getElem? (i := 3) rfl) rfl rfl dX3_gate_96 ?_
    refine g_get C (fun _ h => List.mem_cons_of_mem _ (List.mem_append_left _ (List.mem_append_left _ (List.mem_append_left _ (List.mem_append_right _ h))))) 16 (SWg_16 K b t x y α _) rfl 0 (by decide) (List.mem_of_getElem? (i := 4) rfl) rfl rfl dX3_gate_99 ?_
    refine g_get C (fun _ h => List.mem_cons_of_mem _ (List.mem_append_left _ (List.mem_append_left _ (List.mem_append_right _ h)))) 7 (SWg_7 K b t x y α _) rfl 2 (by decide) (List.mem_of_getElem? (i := 8) rfl) rfl rfl dX3_gate_102 ?_
    refine g_iload_n C 1 dX3_gate_105 rfl rfl ?_
    refine g_ialdG C 10 0 (SWg_10 K b t x y α _) rfl dX3_gate_106 ?_
    exact g_ret C ⟨_, rfl, dX3_gate_107, rfl⟩
  refine g_tcase C 108 (5 : Int32) dX3_gate_5 (by decide) (by decide) rfl (by decide) (fun _ => ?_) (fun h8 => ?_)
  · refine g_aload_n C 0 dX3_gate_108 rfl rfl ?_
    refine g_get C (fun _ h => List.mem_cons_of_mem _ (List.mem_append_left _ (List.mem_append_left _ (List.mem_append_left _ (List.mem_append_left _ (List.mem_append_right _ h)))))) 0 (SWg_0 K b t x y α _) rfl 1 (by decide) (List.mem_of_getElem? (i := 3) rfl) rfl rfl dX3_gate_109 ?_
    refine g_iload_n C 1 dX3_gate_112 rfl rfl ?_
    refine g_iconst C (v := (0 : Int32)) dX3_gate_113 ic_0 ?_
    refine g_callVi C (n := 2) (As := [.int p1, .int (0 : Int32)]) (rest := []) (fun r h => mX1_booksRead l D K x _ _ _ r h) (SWe_x D K b t x y α _) gX3_gate_X1_booksRead rfl (by decide +kernel) ⟨Nat.le_of_ble_eq_true rfl, Nat.le_of_ble_eq_true rfl, rfl, rfl⟩ 9 (LWg_9 K x _) rfl rfl rfl (Nat.le_of_ble_eq_true rfl) dX3_gate_114 (fun r9 _ => ?_)
    refine g_state (fun u10 => ?_)
    exact g_ret C ⟨_, rfl, dX3_gate_117, rfl⟩
  refine g_tdef2 C 118 [0, 1, 2, 3, 4, 5] dX3_gate_5 (List.forall_mem_cons.mpr ⟨i32nz h1 (by decide), (List.forall_mem_cons.mpr ⟨i32nz h2 (by decide), (List.forall_mem_cons.mpr ⟨i32nz h3 (by decide), (List.forall_mem_cons.mpr ⟨i32nz h4 (by decide), (List.forall_mem_cons.mpr ⟨i32nz h7 (by decide), (List.forall_mem_cons.mpr ⟨i32nz h8 (by decide), (fun _ h9 => absurd h9 List.not_mem_nil)⟩)⟩)⟩)⟩)⟩)⟩) (by decide) (by decide) (by decide) ?_
  exact g_throwS CX rfl (by decide) (List.mem_of_getElem? (i := 1) rfl) (List.mem_of_getElem? (i := 2) rfl) (List.mem_of_getElem? (i := 3) rfl) (fun _ h => List.mem_cons_of_mem _ (List.mem_append_left _ (List.mem_append_right _ h))) nonGood1 (allOt1 _) dX3_gate_118 dX3_gate_121 dX3_gate_122 dX3_gate_124 dX3_gate_127 (Nat.le_of_ble_eq_true rfl) (Nat.le_of_ble_eq_true rfl)
set_option maxHeartbeats 4000000 in
set_option maxRecDepth 100000 in
theorem mX3_shout (l : Launch) (D : va_G) (K : Nat → ClassId) (b t x y : Nat → Nat) (α : Nat → Nat → Nat) (σ : ST) (p1 : Int32) (p2 : Int32) (r : ((Nat × ST) ⊕ (Int32 × ST))) (hfl : l.stackTraces = false) (hf : fX3_shout σ p1 p2 = some r) : gMx l yX3_shout wsX3_shout 6 82 D (gT K) (SW K b t x y α) [.ref (b 0), .int p1, .int p2] σ r := by
  refine mk_x (nL := 3) (cc := cX3_shout) hfl (by decide) rfl (Nat.le_of_ble_eq_true rfl) hf (fun ce sl g CX => ?_)
  have C := CX.C
  refine g_sub C (lv' := [(0, .ref (b 0)), (1, .int p1), (2, .int p2)]) [0, 1, 2] rfl ?_
  unfold fX3_shout
  refine g_iload_n C 1 dX3_shout_0 rfl rfl ?_
  refine g_if_lt C 10 dX3_shout_1 (by decide) (fun _ => ?_) (fun _ => ?_)
  · exact g_throwS CX rfl (by decide) (List.mem_of_getElem? (i := 1) rfl) (List.mem_of_getElem? (i := 2) rfl) (List.mem_of_getElem? (i := 4) rfl) (fun _ h => List.mem_cons_of_mem _ (List.mem_append_right _ h)) nonGood1 (allOt1 _) dX3_shout_10 dX3_shout_13 dX3_shout_14 dX3_shout_16 dX3_shout_19 (Nat.le_of_ble_eq_true rfl) (Nat.le_of_ble_eq_true rfl)
  · refine g_iload_n C 1 dX3_shout_4 rfl rfl ?_
    refine g_bipush C (v := (10 : Int32)) dX3_shout_5 (by decide) ?_
    refine g_icmp_lt C 20 dX3_shout_7 (by decide) (fun _ => ?_) (fun _ => ?_)
    · refine g_iload_n C 2 dX3_shout_20 rfl rfl ?_
      refine g_tcase C 48 (0 : Int32) dX3_shout_21 (by decide) (by decide) rfl (by decide) (fun _ => ?_) (fun h1 => ?_)
      · refine g_aload_n C 0 dX3_shout_48 rfl rfl ?_
        refine g_get C (fun _ h => List.mem_cons_of_mem _ (List.mem_append_left _ (List.mem_append_left _ (List.mem_append_left _ (List.mem_append_right _ h))))) 0 (SWg_0 K b t x y α _) rfl 1 (by decide) (List.mem_of_getElem? (i := 3) rfl) rfl rfl dX3_shout_49 ?_
        refine g_get C (fun _ h => List.mem_cons_of_mem _ (List.mem_append_left _ (List.mem_append_left _ (List.mem_append_right _ h)))) 16 (SWg_16 K b t x y α _) rfl 0 (by decide) (List.mem_of_getElem? (i := 4) rfl) rfl rfl dX3_shout_52 ?_
        refine g_get C (fun _ h => List.mem_cons_of_mem _ (List.mem_append_left _ (List.mem_append_right _ h))) 7 (SWg_7 K b t x y α _) rfl 5 (by decide) (List.mem_of_getElem? (i := 5) rfl) rfl rfl dX3_shout_55 ?_
        refine g_iload_n C 1 dX3_shout_58 rfl rfl ?_
        refine g_ialdG C 13 0 (SWg_13 K b t x y α _) rfl dX3_shout_59 ?_
        exact g_ret C ⟨_, rfl, dX3_shout_60, rfl⟩
      refine g_tcase C 61 (1 : Int32) dX3_shout_21 (by decide) (by decide) rfl (by decide) (fun _ => ?_) (fun h2 => ?_)
      · refine g_aload_n C 0 dX3_shout_61 rfl rfl ?_
        refine g_get C (fun _ h => List.mem_cons_of_mem _ (List.mem_append_left _ (List.mem_append_left _ (List.mem_append_left _ (List.mem_append_right _ h))))) 0 (SWg_0 K b t x y α _) rfl 1 (by decide) (List.mem_of_getElem? (i := 3) rfl) rfl rfl dX3_shout_62 ?_
        refine g_get C (fun _ h => List.mem_cons_of_mem _ (List.mem_append_left _ (List.mem_append_left _ (List.mem_append_right _ h)))) 16 (SWg_16 K b t x y α _) rfl 0 (by decide) (List.mem_of_getElem? (i := 4) rfl) rfl rfl dX3_shout_65 ?_
        refine g_get C (fun _ h => List.mem_cons_of_mem _ (List.mem_append_left _ (List.mem_append_right _ h))) 7 (SWg_7 K b t x y α _) rfl 6 (by decide) (List.mem_of_getElem? (i := 6) rfl) rfl rfl dX3_shout_68 ?_
        refine g_iload_n C 1 dX3_shout_71 rfl rfl ?_
        refine g_ialdG C 14 0 (SWg_14 K b t x y α _) rfl dX3_shout_72 ?_
        exact g_ret C ⟨_, rfl, dX3_shout_73, rfl⟩
      refine g_tcase C 74 (2 : Int32) dX3_shout_21 (by decide) (by decide) rfl (by decide) (fun _ => ?_) (fun h3 => ?_)
      · refine g_aload_n C 0 dX3_shout_74 rfl rfl ?_
        refine g_get C (fun _ h => List.mem_cons_of_mem _ (List.mem_append_left _ (List.mem_append_left _ (List.mem_append_left _ (List.mem_append_right _ h))))) 0 (SWg_0 K b t x y α _) rfl 1 (by decide) (List.mem_of_getElem? (i := 3) rfl) rfl rfl dX3_shout_75 ?_
        refine g_get C (fun _ h => List.mem_cons_of_mem _ (List.mem_append_left _ (List.mem_append_left _ (List.mem_append_right _ h)))) 16 (SWg_16 K b t x y α _) rfl 0 (by decide) (List.mem_of_getElem? (i := 4) rfl) rfl rfl dX3_shout_78 ?_
        refine g_get C (fun _ h => List.mem_cons_of_mem _ (List.mem_append_left _ (List.mem_append_right _ h))) 7 (SWg_7 K b t x y α _) rfl 7 (by decide) (List.mem_of_getElem? (i := 7) rfl) rfl rfl dX3_shout_81 ?_
        refine g_iload_n C 1 dX3_shout_84 rfl rfl ?_
        refine g_ialdG C 15 0 (SWg_15 K b t x y α _) rfl dX3_shout_85 ?_
        exact g_ret C ⟨_, rfl, dX3_shout_86, rfl⟩
      refine g_tdef2 C 87 [0, 1, 2] dX3_shout_21 (List.forall_mem_cons.mpr ⟨i32nz h1 (by decide), (List.forall_mem_cons.mpr ⟨i32nz h2 (by decide), (List.forall_mem_cons.mpr ⟨i32nz h3 (by decide), (fun _ h9 => absurd h9 List.not_mem_nil)⟩)⟩)⟩) (by decide) (by decide) (by decide) ?_
      exact g_throwS CX rfl (by decide) (List.mem_of_getElem? (i := 1) rfl) (List.mem_of_getElem? (i := 2) rfl) (List.mem_of_getElem? (i := 5) rfl) (fun _ h => List.mem_cons_of_mem _ (List.mem_append_right _ h)) nonGood1 (allOt1 _) dX3_shout_87 dX3_shout_90 dX3_shout_91 dX3_shout_93 dX3_shout_96 (Nat.le_of_ble_eq_true rfl) (Nat.le_of_ble_eq_true rfl)
    · exact g_throwS CX rfl (by decide) (List.mem_of_getElem? (i := 1) rfl) (List.mem_of_getElem? (i := 2) rfl) (List.mem_of_getElem? (i := 4) rfl) (fun _ h => List.mem_cons_of_mem _ (List.mem_append_right _ h)) nonGood1 (allOt1 _) dX3_shout_10 dX3_shout_13 dX3_shout_14 dX3_shout_16 dX3_shout_19 (Nat.le_of_ble_eq_true rfl) (Nat.le_of_ble_eq_true rfl)
set_option maxHeartbeats 4000000 in
set_option maxRecDepth 100000 in
theorem mX3_forgetOldest (l : Launch) (D : va_G) (K : Nat → ClassId) (b t x y : Nat → Nat) (α : Nat → Nat → Nat) (σ : ST) (r : ST) (hf : fX3_forgetOldest σ  = some r) : gMv l yX3_forgetOldest wsX3_forgetOldest { frames := 0, cells := 0, slots := 0, locals := 0 } D (gT K) (SW K b t x y α) [.ref (b 0)] σ r := by
  refine mk_v (nL := 3) (cc := cX3_forgetOldest) (by decide) rfl (Nat.le_of_ble_eq_true rfl) rfl rfl hf (fun g C => ?_)
  refine g_sub C (lv' := [(0, .ref (b 0))]) [0] rfl ?_
  unfold fX3_forgetOldest
  have h_9 : ∀ (n : Nat) (σ : ST) (v1 : Nat) (v2 : Int32), g (fX3_forgetOldest_L9 n σ v1 v2) 9 [(0, .ref (b 0)), (1, .ref (α v1 9)), (2, .int v2)] [] σ := by
    intro n
    induction n with
    | zero =>
      intro σ v1 v2
      exact g_none C
    | succ n9 ih_9 =>
      intro σ v1 v2
      unfold fX3_forgetOldest_L9
      refine g_iload_n C 2 dX3_forgetOldest_9 rfl rfl ?_
      refine g_bipush C (v := (14 : Int32)) dX3_forgetOldest_10 (by decide) ?_
      refine g_icmp_ge C 35 dX3_forgetOldest_12 (by decide) (fun _ => ?_) (fun _ => ?_)
      · refine g_aload_n C 0 dX3_forgetOldest_35 rfl rfl ?_
        refine g_get C (fun _ h => List.mem_cons_of_mem _ (List.mem_append_right _ h)) 0 (SWg_0 K b t x y α _) rfl 3 (by decide) (List.mem_of_getElem? (i := 1) rfl) rfl rfl dX3_forgetOldest_36 ?_
        refine g_bipush C (v := (13 : Int32)) dX3_forgetOldest_39 (by decide) ?_
        refine g_aload_n C 1 dX3_forgetOldest_41 rfl rfl ?_
        refine g_bool C (fun k1 => ?_)
        refine g_aastG C 1 3 (SWg_1 K b t x y α _) rfl (SW_kept K b t x y α _ k1) rfl (SWs_1 K b t x y α _ _ _) dX3_forgetOldest_42 ?_
        refine g_state (fun u2 => ?_)
        refine g_aload_n C 0 dX3_forgetOldest_43 rfl rfl ?_
        refine g_bipush C (v := (13 : Int32)) dX3_forgetOldest_44 (by decide) ?_
        refine g_put C (ty := .int) (fun _ h => List.mem_cons_of_mem _ (List.mem_append_right _ h)) tyX3 tyX3_ok nmX3 0 (SWg_0 K b t x y α _) rfl 4 (by decide) (List.mem_of_getElem? (i := 2) rfl) rfl rfl (by decide +kernel) rfl rfl (Nat.le_of_ble_eq_true rfl) (SWp_0_4 K b t x y α _ _) dX3_forgetOldest_46 ?_
        refine g_state (fun u3 => ?_)
        exact g_ret C ⟨dX3_forgetOldest_49, rfl, rfl⟩
      · refine g_aload_n C 0 dX3_forgetOldest_15 rfl rfl ?_
        refine g_get C (fun _ h => List.mem_cons_of_mem _ (List.mem_append_right _ h)) 0 (SWg_0 K b t x y α _) rfl 3 (by decide) (List.mem_of_getElem? (i := 1) rfl) rfl rfl dX3_forgetOldest_16 ?_
        refine g_iload_n C 2 dX3_forgetOldest_19 rfl rfl ?_
        refine g_iconst C (v := (1 : Int32)) dX3_forgetOldest_20 ic_1 ?_
        refine g_isub C dX3_forgetOldest_21 ?_
        refine g_aload_n C 0 dX3_forgetOldest_22 rfl rfl ?_
        refine g_get C (fun _ h => List.mem_cons_of_mem _ (List.mem_append_right _ h)) 0 (SWg_0 K b t x y α _) rfl 3 (by decide) (List.mem_of_getElem? (i := 1) rfl) rfl rfl dX3_forgetOldest_23 ?_
        refine g_iload_n C 2 dX3_forgetOldest_26 rfl rfl ?_
        refine g_aaldG C 1 3 (SWg_1 K b t x y α _) rfl rfl dX3_forgetOldest_27 ?_
        refine g_topk (fun q4 => ?_)
        refine g_bool C (fun k5 => ?_)
        refine g_aastG C 1 3 (SWg_1 K b t x y α _) rfl (SW_kept K b t x y α _ k5) rfl (SWs_1 K b t x y α _ _ _) dX3_forgetOldest_28 ?_
        refine g_state (fun u6 => ?_)
        refine g_iinc C (w := (1 : Int32)) (lv' := [(2, .int (v2 + (1 : Int32))), (0, .ref (b 0)), (1, .ref (α v1 9))]) 2 dX3_forgetOldest_29 rfl ic_1 (by decide) rfl ?_
        refine g_goto C 9 dX3_forgetOldest_32 (by decide) ?_
        refine g_sub C (lv' := [(0, .ref (b 0)), (1, .ref (α v1 9)), (2, .int (v2 + (1 : Int32)))]) [1, 2, 0] rfl ?_
        exact ih_9 u6 v1 (v2 + (1 : Int32))
  refine g_aload_n C 0 dX3_forgetOldest_0 rfl rfl ?_
  refine g_get C (fun _ h => List.mem_cons_of_mem _ (List.mem_append_right _ h)) 0 (SWg_0 K b t x y α _) rfl 3 (by decide) (List.mem_of_getElem? (i := 1) rfl) rfl rfl dX3_forgetOldest_1 ?_
  refine g_iconst C (v := (0 : Int32)) dX3_forgetOldest_4 ic_0 ?_
  refine g_aaldG C 1 3 (SWg_1 K b t x y α _) rfl rfl dX3_forgetOldest_5 ?_
  refine g_topk (fun q7 => ?_)
  refine g_astore_n C (lv' := [(1, .ref (α q7 9)), (0, .ref (b 0))]) dX3_forgetOldest_6 rfl (by decide) rfl ?_
  refine g_iconst C (v := (1 : Int32)) dX3_forgetOldest_7 ic_1 ?_
  refine g_istore_n C (lv' := [(2, .int (1 : Int32)), (1, .ref (α q7 9)), (0, .ref (b 0))]) dX3_forgetOldest_8 rfl (by decide) rfl ?_
  refine g_sub C (lv' := [(0, .ref (b 0)), (1, .ref (α q7 9)), (2, .int (1 : Int32))]) [2, 1, 0] rfl ?_
  exact h_9 gFuel σ q7 (1 : Int32)
set_option maxHeartbeats 4000000 in
set_option maxRecDepth 100000 in
theorem mX3_remember (l : Launch) (D : va_G) (K : Nat → ClassId) (b t x y : Nat → Nat) (α : Nat → Nat → Nat) (σ : ST) (r : ST) (hf : fX3_remember σ  = some r) : gMv l yX3_remember wsX3_remember { frames := 4, cells := 0, slots := 0, locals := 128 } D (gT K) (SW K b t x y α) [.ref (b 0)] σ r := by
  refine mk_v (nL := 1) (cc := cX3_remember) (by decide) rfl (Nat.le_of_ble_eq_true rfl) rfl rfl hf (fun g C => ?_)
  refine g_sub C (lv' := [(0, .ref (b 0))]) [0] rfl ?_
  unfold fX3_remember
  have h_13 : ∀ (σ : ST), g (fX3_remember_L13 σ) 13 [(0, .ref (b 0))] [] σ := by
    intro σ
    unfold fX3_remember_L13
    refine g_aload_n C 0 dX3_remember_13 rfl rfl ?_
    refine g_get C (fun _ h => List.mem_cons_of_mem _ (List.mem_append_left _ (List.mem_append_left _ (List.mem_append_right _ h)))) 0 (SWg_0 K b t x y α _) rfl 3 (by decide) (List.mem_of_getElem? (i := 2) rfl) rfl rfl dX3_remember_14 ?_
    refine g_aload_n C 0 dX3_remember_17 rfl rfl ?_
    refine g_get C (fun _ h => List.mem_cons_of_mem _ (List.mem_append_left _ (List.mem_append_left _ (List.mem_append_right _ h)))) 0 (SWg_0 K b t x y α _) rfl 4 (by decide) (List.mem_of_getElem? (i := 1) rfl) rfl rfl dX3_remember_18 ?_
    refine g_aaldG C 1 3 (SWg_1 K b t x y α _) rfl rfl dX3_remember_21 ?_
    refine g_topk (fun q1 => ?_)
    refine g_aload_n C 0 dX3_remember_22 rfl rfl ?_
    refine g_get C (fun _ h => List.mem_cons_of_mem _ (List.mem_append_left _ (List.mem_append_left _ (List.mem_append_right _ h)))) 0 (SWg_0 K b t x y α _) rfl 1 (by decide) (List.mem_of_getElem? (i := 3) rfl) rfl rfl dX3_remember_23 ?_
    refine g_bool C (fun k2 => ?_)
    refine g_callVv C (n := 1) (As := [.ref (x 9)]) (rest := []) (fun r h => mX1_copyFrom l D K (α q1) x _ r h) (SWe_kx D K b t x y α _ k2) gX3_remember_X1_copyFrom rfl (by decide +kernel) ⟨Nat.le_of_ble_eq_true rfl, Nat.le_of_ble_eq_true rfl, rfl, rfl⟩ 9 (L2g_9 K (α q1) x _) rfl rfl rfl (Nat.le_of_ble_eq_true rfl) dX3_remember_26 (fun r3 _ => ?_)
    refine g_state (fun u4 => ?_)
    refine g_aload_n C 0 dX3_remember_29 rfl rfl ?_
    refine g_dup C dX3_remember_30 rfl ?_
    refine g_get C (fun _ h => List.mem_cons_of_mem _ (List.mem_append_left _ (List.mem_append_left _ (List.mem_append_right _ h)))) 0 (SWg_0 K b t x y α _) rfl 4 (by decide) (List.mem_of_getElem? (i := 1) rfl) rfl rfl dX3_remember_31 ?_
    refine g_iconst C (v := (1 : Int32)) dX3_remember_34 ic_1 ?_
    refine g_iadd C dX3_remember_35 ?_
    refine g_topi (fun t5 => ?_)
    refine g_put C (ty := .int) (fun _ h => List.mem_cons_of_mem _ (List.mem_append_left _ (List.mem_append_left _ (List.mem_append_right _ h)))) tyX3 tyX3_ok nmX3 0 (SWg_0 K b t x y α _) rfl 4 (by decide) (List.mem_of_getElem? (i := 1) rfl) rfl rfl (by decide +kernel) rfl rfl (Nat.le_of_ble_eq_true rfl) (SWp_0_4 K b t x y α _ _) dX3_remember_36 ?_
    refine g_state (fun u6 => ?_)
    exact g_ret C ⟨dX3_remember_39, rfl, rfl⟩
  refine g_aload_n C 0 dX3_remember_0 rfl rfl ?_
  refine g_get C (fun _ h => List.mem_cons_of_mem _ (List.mem_append_left _ (List.mem_append_left _ (List.mem_append_right _ h)))) 0 (SWg_0 K b t x y α _) rfl 4 (by decide) (List.mem_of_getElem? (i := 1) rfl) rfl rfl dX3_remember_1 ?_
  refine g_bipush C (v := (14 : Int32)) dX3_remember_4 (by decide) ?_
  refine g_icmp_lt C 13 dX3_remember_6 (by decide) (fun _ => ?_) (fun _ => ?_)
  · exact h_13 σ
  · refine g_aload_n C 0 dX3_remember_9 rfl rfl ?_
    refine g_callVv C (n := 0) (As := []) (rest := []) (fun r h => mX3_forgetOldest l D K b t x y α _ r h) gE.same gX3_remember_X3_forgetOldest rfl (by decide +kernel) ⟨Nat.le_of_ble_eq_true rfl, Nat.le_of_ble_eq_true rfl, rfl, rfl⟩ 0 (SWg_0 K b t x y α _) rfl rfl rfl (Nat.le_of_ble_eq_true rfl) dX3_remember_10 (fun r7 _ => ?_)
    exact h_13 r7
set_option maxHeartbeats 4000000 in
set_option maxRecDepth 100000 in
theorem mX3_take (l : Launch) (D : va_G) (K : Nat → ClassId) (b t x y : Nat → Nat) (α : Nat → Nat → Nat) (σ : ST) (p1 : Int32) (p2 : Int32) (r : ((Nat × ST) ⊕ (Int32 × ST))) (hfl : l.stackTraces = false) (hf : fX3_take σ p1 p2 = some r) : gMx l yX3_take wsX3_take 7 148 D (gT K) (SW K b t x y α) [.ref (b 0), .int p1, .int p2] σ r := by
  refine mk_x (nL := 3) (cc := cX3_take) hfl (by decide) rfl (Nat.le_of_ble_eq_true rfl) hf (fun ce sl g CX => ?_)
  have C := CX.C
  refine g_sub C (lv' := [(0, .ref (b 0)), (1, .int p1), (2, .int p2)]) [0, 1, 2] rfl ?_
  unfold fX3_take
  refine g_iload_n C 1 dX3_take_0 rfl rfl ?_
  refine g_callX CX (n := 1) (As := [.int p1]) (rest := []) (fun r h => mX3_requireVisitor l D K _ r hfl h) gX3_take_X3_requireVisitor rfl (by decide +kernel) ⟨Nat.le_of_ble_eq_true rfl, Nat.le_of_ble_eq_true rfl⟩ rfl rfl (Nat.le_of_ble_eq_true rfl) dX3_take_1 ?_
  refine g_iload_n C 2 dX3_take_4 rfl rfl ?_
  refine g_callX CX (n := 1) (As := [.int p2]) (rest := []) (fun r h => mX3_requireBook l D K _ r hfl h) gX3_take_X3_requireBook rfl (by decide +kernel) ⟨Nat.le_of_ble_eq_true rfl, Nat.le_of_ble_eq_true rfl⟩ rfl rfl (Nat.le_of_ble_eq_true rfl) dX3_take_5 ?_
  refine g_aload_n C 0 dX3_take_8 rfl rfl ?_
  refine g_get C (fun _ h => List.mem_cons_of_mem _ (List.mem_append_left _ (List.mem_append_left _ (List.mem_append_left _ (List.mem_append_left _ (List.mem_append_right _ h)))))) 0 (SWg_0 K b t x y α _) rfl 1 (by decide) (List.mem_of_getElem? (i := 1) rfl) rfl rfl dX3_take_9 ?_
  refine g_iload_n C 1 dX3_take_12 rfl rfl ?_
  refine g_iload_n C 2 dX3_take_13 rfl rfl ?_
  refine g_callVi C (n := 2) (As := [.int p1, .int p2]) (rest := []) (fun r h => mX1_canTake l D K x _ _ _ r h) (SWe_x D K b t x y α _) gX3_take_X1_canTake rfl (by decide +kernel) ⟨Nat.le_of_ble_eq_true rfl, Nat.le_of_ble_eq_true rfl, rfl, rfl⟩ 9 (LWg_9 K x _) rfl rfl rfl (Nat.le_of_ble_eq_true rfl) dX3_take_14 (fun r1 _ => ?_)
  refine g_state (fun u2 => ?_)
  refine g_callX CX (n := 1) (As := [.int r1.1]) (rest := []) (fun r h => mX3_requireAllowed l D K _ r hfl h) gX3_take_X3_requireAllowed rfl (by decide +kernel) ⟨Nat.le_of_ble_eq_true rfl, Nat.le_of_ble_eq_true rfl⟩ rfl rfl (Nat.le_of_ble_eq_true rfl) dX3_take_17 ?_
  refine g_aload_n C 0 dX3_take_20 rfl rfl ?_
  refine g_callVv C (n := 0) (As := []) (rest := []) (fun r h => mX3_remember l D K b t x y α _ r h) gE.same gX3_take_X3_remember rfl (by decide +kernel) ⟨Nat.le_of_ble_eq_true rfl, Nat.le_of_ble_eq_true rfl, rfl, rfl⟩ 0 (SWg_0 K b t x y α _) rfl rfl rfl (Nat.le_of_ble_eq_true rfl) dX3_take_21 (fun r3 _ => ?_)
  refine g_aload_n C 0 dX3_take_24 rfl rfl ?_
  refine g_get C (fun _ h => List.mem_cons_of_mem _ (List.mem_append_left _ (List.mem_append_left _ (List.mem_append_left _ (List.mem_append_left _ (List.mem_append_right _ h)))))) 0 (SWg_0 K b t x y α _) rfl 1 (by decide) (List.mem_of_getElem? (i := 1) rfl) rfl rfl dX3_take_25 ?_
  refine g_iload_n C 1 dX3_take_28 rfl rfl ?_
  refine g_iload_n C 2 dX3_take_29 rfl rfl ?_
  refine g_callVi C (n := 2) (As := [.int p1, .int p2]) (rest := []) (fun r h => mX1_tryTake l D K x _ _ _ r h) (SWe_x D K b t x y α _) gX3_take_X1_tryTake rfl (by decide +kernel) ⟨Nat.le_of_ble_eq_true rfl, Nat.le_of_ble_eq_true rfl, rfl, rfl⟩ 9 (LWg_9 K x _) rfl rfl rfl (Nat.le_of_ble_eq_true rfl) dX3_take_30 (fun r4 _ => ?_)
  refine g_state (fun u5 => ?_)
  refine g_pop C dX3_take_33 rfl ?_
  refine g_aload_n C 0 dX3_take_34 rfl rfl ?_
  refine g_get C (fun _ h => List.mem_cons_of_mem _ (List.mem_append_left _ (List.mem_append_left _ (List.mem_append_left _ (List.mem_append_left _ (List.mem_append_right _ h)))))) 0 (SWg_0 K b t x y α _) rfl 1 (by decide) (List.mem_of_getElem? (i := 1) rfl) rfl rfl dX3_take_35 ?_
  refine g_get C (fun _ h => List.mem_cons_of_mem _ (List.mem_append_left _ (List.mem_append_left _ (List.mem_append_left _ (List.mem_append_right _ h))))) 16 (SWg_16 K b t x y α _) rfl 1 (by decide) (List.mem_of_getElem? (i := 2) rfl) rfl rfl dX3_take_38 ?_
  refine g_iload_n C 1 dX3_take_41 rfl rfl ?_
  refine g_ialdG C 17 0 (SWg_17 K b t x y α _) rfl dX3_take_42 ?_
  refine g_callSi C (n := 1) (As := [.int (u5.2.2.1 10 p1.toNatClampNeg)]) (rest := []) (fun r h => mJ6_bitCount_0f7a4 l D K _ r h) gE.nil (τ := ()) gX3_take_J6_bitCount_0f7a4 rfl (by decide +kernel) ⟨Nat.le_of_ble_eq_true rfl, Nat.le_of_ble_eq_true rfl, rfl, rfl⟩ rfl rfl (Nat.le_of_ble_eq_true rfl) dX3_take_43 (fun r6 _ => ?_)
  exact g_ret C ⟨_, rfl, dX3_take_46, rfl⟩
set_option maxHeartbeats 4000000 in
set_option maxRecDepth 100000 in
theorem mX3_putBack (l : Launch) (D : va_G) (K : Nat → ClassId) (b t x y : Nat → Nat) (α : Nat → Nat → Nat) (σ : ST) (p1 : Int32) (r : ((Nat × ST) ⊕ (Int32 × ST))) (hfl : l.stackTraces = false) (hf : fX3_putBack σ p1 = some r) : gMx l yX3_putBack wsX3_putBack 7 148 D (gT K) (SW K b t x y α) [.ref (b 0), .int p1] σ r := by
  refine mk_x (nL := 3) (cc := cX3_putBack) hfl (by decide) rfl (Nat.le_of_ble_eq_true rfl) hf (fun ce sl g CX => ?_)
  have C := CX.C
  refine g_sub C (lv' := [(0, .ref (b 0)), (1, .int p1)]) [0, 1] rfl ?_
  unfold fX3_putBack
  refine g_iload_n C 1 dX3_putBack_0 rfl rfl ?_
  refine g_callX CX (n := 1) (As := [.int p1]) (rest := []) (fun r h => mX3_requireBook l D K _ r hfl h) gX3_putBack_X3_requireBook rfl (by decide +kernel) ⟨Nat.le_of_ble_eq_true rfl, Nat.le_of_ble_eq_true rfl⟩ rfl rfl (Nat.le_of_ble_eq_true rfl) dX3_putBack_1 ?_
  refine g_aload_n C 0 dX3_putBack_4 rfl rfl ?_
  refine g_get C (fun _ h => List.mem_cons_of_mem _ (List.mem_append_left _ (List.mem_append_left _ (List.mem_append_left _ (List.mem_append_left _ (List.mem_append_right _ h)))))) 0 (SWg_0 K b t x y α _) rfl 1 (by decide) (List.mem_of_getElem? (i := 1) rfl) rfl rfl dX3_putBack_5 ?_
  refine g_iload_n C 1 dX3_putBack_8 rfl rfl ?_
  refine g_callVi C (n := 1) (As := [.int p1]) (rest := []) (fun r h => mX1_canPutBack l D K x _ _ r h) (SWe_x D K b t x y α _) gX3_putBack_X1_canPutBack rfl (by decide +kernel) ⟨Nat.le_of_ble_eq_true rfl, Nat.le_of_ble_eq_true rfl, rfl, rfl⟩ 9 (LWg_9 K x _) rfl rfl rfl (Nat.le_of_ble_eq_true rfl) dX3_putBack_9 (fun r1 _ => ?_)
  refine g_state (fun u2 => ?_)
  refine g_callX CX (n := 1) (As := [.int r1.1]) (rest := []) (fun r h => mX3_requireAllowed l D K _ r hfl h) gX3_putBack_X3_requireAllowed rfl (by decide +kernel) ⟨Nat.le_of_ble_eq_true rfl, Nat.le_of_ble_eq_true rfl⟩ rfl rfl (Nat.le_of_ble_eq_true rfl) dX3_putBack_12 ?_
  refine g_aload_n C 0 dX3_putBack_15 rfl rfl ?_
  refine g_callVv C (n := 0) (As := []) (rest := []) (fun r h => mX3_remember l D K b t x y α _ r h) gE.same gX3_putBack_X3_remember rfl (by decide +kernel) ⟨Nat.le_of_ble_eq_true rfl, Nat.le_of_ble_eq_true rfl, rfl, rfl⟩ 0 (SWg_0 K b t x y α _) rfl rfl rfl (Nat.le_of_ble_eq_true rfl) dX3_putBack_16 (fun r3 _ => ?_)
  refine g_aload_n C 0 dX3_putBack_19 rfl rfl ?_
  refine g_get C (fun _ h => List.mem_cons_of_mem _ (List.mem_append_left _ (List.mem_append_left _ (List.mem_append_left _ (List.mem_append_left _ (List.mem_append_right _ h)))))) 0 (SWg_0 K b t x y α _) rfl 1 (by decide) (List.mem_of_getElem? (i := 1) rfl) rfl rfl dX3_putBack_20 ?_
  refine g_iload_n C 1 dX3_putBack_23 rfl rfl ?_
  refine g_callVi C (n := 1) (As := [.int p1]) (rest := []) (fun r h => mX1_holderOf l D K x _ _ r h) (SWe_x D K b t x y α _) gX3_putBack_X1_holderOf rfl (by decide +kernel) ⟨Nat.le_of_ble_eq_true rfl, Nat.le_of_ble_eq_true rfl, rfl, rfl⟩ 9 (LWg_9 K x _) rfl rfl rfl (Nat.le_of_ble_eq_true rfl) dX3_putBack_24 (fun r4 _ => ?_)
  refine g_state (fun u5 => ?_)
  refine g_istore_n C (lv' := [(2, .int r4.1), (0, .ref (b 0)), (1, .int p1)]) dX3_putBack_27 rfl (by decide) rfl ?_
  refine g_aload_n C 1 dX3_putBack_28 rfl rfl ?_
  refine g_get C (fun _ h => List.mem_cons_of_mem _ (List.mem_append_left _ (List.mem_append_left _ (List.mem_append_left _ (List.mem_append_left _ (List.mem_append_right _ h)))))) 0 (SWg_0 K b t x y α _) rfl 1 (by decide) (List.mem_of_getElem? (i := 1) rfl) rfl rfl dX3_putBack_29 ?_
  refine g_iload_n C 2 dX3_putBack_32 rfl rfl ?_
  refine g_callVi C (n := 1) (As := [.int p1]) (rest := []) (fun r h => mX1_tryPutBack l D K x _ _ r h) (SWe_x D K b t x y α _) gX3_putBack_X1_tryPutBack rfl (by decide +kernel) ⟨Nat.le_of_ble_eq_true rfl, Nat.le_of_ble_eq_true rfl, rfl, rfl⟩ 9 (LWg_9 K x _) rfl rfl rfl (Nat.le_of_ble_eq_true rfl) dX3_putBack_33 (fun r6 _ => ?_)
  refine g_state (fun u7 => ?_)
  refine g_pop C dX3_putBack_36 rfl ?_
  refine g_iload_n C 0 dX3_putBack_37 rfl rfl ?_
  exact g_ret C ⟨_, rfl, dX3_putBack_38, rfl⟩
set_option maxHeartbeats 4000000 in
set_option maxRecDepth 100000 in
theorem mX3_borrow (l : Launch) (D : va_G) (K : Nat → ClassId) (b t x y : Nat → Nat) (α : Nat → Nat → Nat) (σ : ST) (p1 : Int32) (r : ((Nat × ST) ⊕ (Int32 × ST))) (hfl : l.stackTraces = false) (hf : fX3_borrow σ p1 = some r) : gMx l yX3_borrow wsX3_borrow 7 148 D (gT K) (SW K b t x y α) [.ref (b 0), .int p1] σ r := by
  refine mk_x (nL := 2) (cc := cX3_borrow) hfl (by decide) rfl (Nat.le_of_ble_eq_true rfl) hf (fun ce sl g CX => ?_)
  have C := CX.C
  refine g_sub C (lv' := [(0, .ref (b 0)), (1, .int p1)]) [0, 1] rfl ?_
  unfold fX3_borrow
  refine g_iload_n C 1 dX3_borrow_0 rfl rfl ?_
  refine g_callX CX (n := 1) (As := [.int p1]) (rest := []) (fun r h => mX3_requireBook l D K _ r hfl h) gX3_borrow_X3_requireBook rfl (by decide +kernel) ⟨Nat.le_of_ble_eq_true rfl, Nat.le_of_ble_eq_true rfl⟩ rfl rfl (Nat.le_of_ble_eq_true rfl) dX3_borrow_1 ?_
  refine g_aload_n C 0 dX3_borrow_4 rfl rfl ?_
  refine g_get C (fun _ h => List.mem_cons_of_mem _ (List.mem_append_left _ (List.mem_append_left _ (List.mem_append_left _ (List.mem_append_left _ (List.mem_append_right _ h)))))) 0 (SWg_0 K b t x y α _) rfl 1 (by decide) (List.mem_of_getElem? (i := 1) rfl) rfl rfl dX3_borrow_5 ?_
  refine g_iload_n C 1 dX3_borrow_8 rfl rfl ?_
  refine g_callVi C (n := 1) (As := [.int p1]) (rest := []) (fun r h => mX1_canBorrow l D K x _ _ r h) (SWe_x D K b t x y α _) gX3_borrow_X1_canBorrow rfl (by decide +kernel) ⟨Nat.le_of_ble_eq_true rfl, Nat.le_of_ble_eq_true rfl, rfl, rfl⟩ 9 (LWg_9 K x _) rfl rfl rfl (Nat.le_of_ble_eq_true rfl) dX3_borrow_9 (fun r1 _ => ?_)
  refine g_state (fun u2 => ?_)
  refine g_callX CX (n := 1) (As := [.int r1.1]) (rest := []) (fun r h => mX3_requireAllowed l D K _ r hfl h) gX3_borrow_X3_requireAllowed rfl (by decide +kernel) ⟨Nat.le_of_ble_eq_true rfl, Nat.le_of_ble_eq_true rfl⟩ rfl rfl (Nat.le_of_ble_eq_true rfl) dX3_borrow_12 ?_
  refine g_aload_n C 0 dX3_borrow_15 rfl rfl ?_
  refine g_callVv C (n := 0) (As := []) (rest := []) (fun r h => mX3_remember l D K b t x y α _ r h) gE.same gX3_borrow_X3_remember rfl (by decide +kernel) ⟨Nat.le_of_ble_eq_true rfl, Nat.le_of_ble_eq_true rfl, rfl, rfl⟩ 0 (SWg_0 K b t x y α _) rfl rfl rfl (Nat.le_of_ble_eq_true rfl) dX3_borrow_16 (fun r3 _ => ?_)
  refine g_aload_n C 0 dX3_borrow_19 rfl rfl ?_
  refine g_get C (fun _ h => List.mem_cons_of_mem _ (List.mem_append_left _ (List.mem_append_left _ (List.mem_append_left _ (List.mem_append_left _ (List.mem_append_right _ h)))))) 0 (SWg_0 K b t x y α _) rfl 1 (by decide) (List.mem_of_getElem? (i := 1) rfl) rfl rfl dX3_borrow_20 ?_
  refine g_iload_n C 1 dX3_borrow_23 rfl rfl ?_
  refine g_callVi C (n := 1) (As := [.int p1]) (rest := []) (fun r h => mX1_tryBorrow l D K x _ _ r h) (SWe_x D K b t x y α _) gX3_borrow_X1_tryBorrow rfl (by decide +kernel) ⟨Nat.le_of_ble_eq_true rfl, Nat.le_of_ble_eq_true rfl, rfl, rfl⟩ 9 (LWg_9 K x _) rfl rfl rfl (Nat.le_of_ble_eq_true rfl) dX3_borrow_24 (fun r4 _ => ?_)
  refine g_state (fun u5 => ?_)
  refine g_pop C dX3_borrow_27 rfl ?_
  refine g_aload_n C 0 dX3_borrow_28 rfl rfl ?_
  refine g_get C (fun _ h => List.mem_cons_of_mem _ (List.mem_append_left _ (List.mem_append_left _ (List.mem_append_left _ (List.mem_append_left _ (List.mem_append_right _ h)))))) 0 (SWg_0 K b t x y α _) rfl 1 (by decide) (List.mem_of_getElem? (i := 1) rfl) rfl rfl dX3_borrow_29 ?_
  refine g_get C (fun _ h => List.mem_cons_of_mem _ (List.mem_append_left _ (List.mem_append_left _ (List.mem_append_left _ (List.mem_append_right _ h))))) 16 (SWg_16 K b t x y α _) rfl 8 (by decide) (List.mem_of_getElem? (i := 2) rfl) rfl rfl dX3_borrow_32 ?_
  refine g_callSi C (n := 1) (As := [.int (u5.2.2.1 9 8)]) (rest := []) (fun r h => mJ6_bitCount_0f7a4 l D K _ r h) gE.nil (τ := ()) gX3_borrow_J6_bitCount_0f7a4 rfl (by decide +kernel) ⟨Nat.le_of_ble_eq_true rfl, Nat.le_of_ble_eq_true rfl, rfl, rfl⟩ rfl rfl (Nat.le_of_ble_eq_true rfl) dX3_borrow_35 (fun r6 _ => ?_)
  exact g_ret C ⟨_, rfl, dX3_borrow_38, rfl⟩
set_option maxHeartbeats 4000000 in
set_option maxRecDepth 100000 in
theorem mX3_bringBack (l : Launch) (D : va_G) (K : Nat → ClassId) (b t x y : Nat → Nat) (α : Nat → Nat → Nat) (σ : ST) (p1 : Int32) (r : ((Nat × ST) ⊕ (Int32 × ST))) (hfl : l.stackTraces = false) (hf : fX3_bringBack σ p1 = some r) : gMx l yX3_bringBack wsX3_bringBack 7 148 D (gT K) (SW K b t x y α) [.ref (b 0), .int p1] σ r := by
  refine mk_x (nL := 2) (cc := cX3_bringBack) hfl (by decide) rfl (Nat.le_of_ble_eq_true rfl) hf (fun ce sl g CX => ?_)
  have C := CX.C
  refine g_sub C (lv' := [(0, .ref (b 0)), (1, .int p1)]) [0, 1] rfl ?_
  unfold fX3_bringBack
  refine g_iload_n C 1 dX3_bringBack_0 rfl rfl ?_
  refine g_callX CX (n := 1) (As := [.int p1]) (rest := []) (fun r h => mX3_requireBook l D K _ r hfl h) gX3_bringBack_X3_requireBook rfl (by decide +kernel) ⟨Nat.le_of_ble_eq_true rfl, Nat.le_of_ble_eq_true rfl⟩ rfl rfl (Nat.le_of_ble_eq_true rfl) dX3_bringBack_1 ?_
  refine g_aload_n C 0 dX3_bringBack_4 rfl rfl ?_
  refine g_get C (fun _ h => List.mem_cons_of_mem _ (List.mem_append_left _ (List.mem_append_left _ (List.mem_append_left _ (List.mem_append_left _ (List.mem_append_right _ h)))))) 0 (SWg_0 K b t x y α _) rfl 1 (by decide) (List.mem_of_getElem? (i := 1) rfl) rfl rfl dX3_bringBack_5 ?_
  refine g_iload_n C 1 dX3_bringBack_8 rfl rfl ?_
  refine g_callVi C (n := 1) (As := [.int p1]) (rest := []) (fun r h => mX1_canBringBack l D K x _ _ r h) (SWe_x D K b t x y α _) gX3_bringBack_X1_canBringBack rfl (by decide +kernel) ⟨Nat.le_of_ble_eq_true rfl, Nat.le_of_ble_eq_true rfl, rfl, rfl⟩ 9 (LWg_9 K x _) rfl rfl rfl (Nat.le_of_ble_eq_true rfl) dX3_bringBack_9 (fun r1 _ => ?_)
  refine g_state (fun u2 => ?_)
  refine g_callX CX (n := 1) (As := [.int r1.1]) (rest := []) (fun r h => mX3_requireAllowed l D K _ r hfl h) gX3_bringBack_X3_requireAllowed rfl (by decide +kernel) ⟨Nat.le_of_ble_eq_true rfl, Nat.le_of_ble_eq_true rfl⟩ rfl rfl (Nat.le_of_ble_eq_true rfl) dX3_bringBack_12 ?_
  refine g_aload_n C 0 dX3_bringBack_15 rfl rfl ?_
  refine g_callVv C (n := 0) (As := []) (rest := []) (fun r h => mX3_remember l D K b t x y α _ r h) gE.same gX3_bringBack_X3_remember rfl (by decide +kernel) ⟨Nat.le_of_ble_eq_true rfl, Nat.le_of_ble_eq_true rfl, rfl, rfl⟩ 0 (SWg_0 K b t x y α _) rfl rfl rfl (Nat.le_of_ble_eq_true rfl) dX3_bringBack_16 (fun r3 _ => ?_)
  refine g_aload_n C 0 dX3_bringBack_19 rfl rfl ?_
  refine g_get C (fun _ h => List.mem_cons_of_mem _ (List.mem_append_left _ (List.mem_append_left _ (List.mem_append_left _ (List.mem_append_left _ (List.mem_append_right _ h)))))) 0 (SWg_0 K b t x y α _) rfl 1 (by decide) (List.mem_of_getElem? (i := 1) rfl) rfl rfl dX3_bringBack_20 ?_
  refine g_iload_n C 1 dX3_bringBack_23 rfl rfl ?_
  refine g_callVi C (n := 1) (As := [.int p1]) (rest := []) (fun r h => mX1_tryBringBack l D K x _ _ r h) (SWe_x D K b t x y α _) gX3_bringBack_X1_tryBringBack rfl (by decide +kernel) ⟨Nat.le_of_ble_eq_true rfl, Nat.le_of_ble_eq_true rfl, rfl, rfl⟩ 9 (LWg_9 K x _) rfl rfl rfl (Nat.le_of_ble_eq_true rfl) dX3_bringBack_24 (fun r4 _ => ?_)
  refine g_state (fun u5 => ?_)
  refine g_pop C dX3_bringBack_27 rfl ?_
  refine g_aload_n C 0 dX3_bringBack_28 rfl rfl ?_
  refine g_get C (fun _ h => List.mem_cons_of_mem _ (List.mem_append_left _ (List.mem_append_left _ (List.mem_append_left _ (List.mem_append_left _ (List.mem_append_right _ h)))))) 0 (SWg_0 K b t x y α _) rfl 1 (by decide) (List.mem_of_getElem? (i := 1) rfl) rfl rfl dX3_bringBack_29 ?_
  refine g_get C (fun _ h => List.mem_cons_of_mem _ (List.mem_append_left _ (List.mem_append_left _ (List.mem_append_left _ (List.mem_append_right _ h))))) 16 (SWg_16 K b t x y α _) rfl 8 (by decide) (List.mem_of_getElem? (i := 2) rfl) rfl rfl dX3_bringBack_32 ?_
  refine g_callSi C (n := 1) (As := [.int (u5.2.2.1 9 8)]) (rest := []) (fun r h => mJ6_bitCount_0f7a4 l D K _ r h) gE.nil (τ := ()) gX3_bringBack_J6_bitCount_0f7a4 rfl (by decide +kernel) ⟨Nat.le_of_ble_eq_true rfl, Nat.le_of_ble_eq_true rfl, rfl, rfl⟩ rfl rfl (Nat.le_of_ble_eq_true rfl) dX3_bringBack_35 (fun r6 _ => ?_)
  exact g_ret C ⟨_, rfl, dX3_bringBack_38, rfl⟩
set_option maxHeartbeats 4000000 in
set_option maxRecDepth 100000 in
theorem mX3_walk (l : Launch) (D : va_G) (K : Nat → ClassId) (b t x y : Nat → Nat) (α : Nat → Nat → Nat) (σ : ST) (p1 : Int32) (p2 : Int32) (p3 : Int32) (r : ((Nat × ST) ⊕ (Int32 × ST))) (hfl : l.stackTraces = false) (hf : fX3_walk σ p1 p2 p3 = some r) : gMx l yX3_walk wsX3_walk 7 148 D (gT K) (SW K b t x y α) [.ref (b 0), .int p1, .int p2, .int p3] σ r := by
  refine mk_x (nL := 4) (cc := cX3_walk) hfl (by decide) rfl (Nat.le_of_ble_eq_true rfl) hf (fun ce sl g CX => ?_)
  have C := CX.C
  refine g_sub C (lv' := [(0, .ref (b 0)), (1, .int p1), (2, .int p2), (3, .int p3)]) [0, 1, 2, 3] rfl ?_
  unfold fX3_walk
  refine g_iload_n C 1 dX3_walk_0 rfl rfl ?_
  refine g_callX CX (n := 1) (As := [.int p1]) (rest := []) (fun r h => mX3_requireVisitor l D K _ r hfl h) gX3_walk_X3_requireVisitor rfl (by decide +kernel) ⟨Nat.le_of_ble_eq_true rfl, Nat.le_of_ble_eq_true rfl⟩ rfl rfl (Nat.le_of_ble_eq_true rfl) dX3_walk_1 ?_
  refine g_iload_n C 2 dX3_walk_4 rfl rfl ?_
  refine g_callX CX (n := 1) (As := [.int p2]) (rest := []) (fun r h => mX3_requireGate l D K _ r hfl h) gX3_walk_X3_requireGate rfl (by decide +kernel) ⟨Nat.le_of_ble_eq_true rfl, Nat.le_of_ble_eq_true rfl⟩ rfl rfl (Nat.le_of_ble_eq_true rfl) dX3_walk_5 ?_
  refine g_aload_n C 0 dX3_walk_8 rfl rfl ?_
  refine g_get C (fun _ h => List.mem_cons_of_mem _ (List.mem_append_left _ (List.mem_append_left _ (List.mem_append_left _ (List.mem_append_left _ (List.mem_append_right _ h)))))) 0 (SWg_0 K b t x y α _) rfl 1 (by decide) (List.mem_of_getElem? (i := 1) rfl) rfl rfl dX3_walk_9 ?_
  refine g_iload_n C 1 dX3_walk_12 rfl rfl ?_
  refine g_iload_n C 2 dX3_walk_13 rfl rfl ?_
  refine g_iload_n C 3 dX3_walk_14 rfl rfl ?_
  refine g_callVi C (n := 3) (As := [.int p1, .int p2, .int p3]) (rest := []) (fun r h => mX1_canWalk l D K x _ _ _ _ r h) (SWe_x D K b t x y α _) gX3_walk_X1_canWalk rfl (by decide +kernel) ⟨Nat.le_of_ble_eq_true rfl, Nat.le_of_ble_eq_true rfl, rfl, rfl⟩ 9 (LWg_9 K x _) rfl rfl rfl (Nat.le_of_ble_eq_true rfl) dX3_walk_15 (fun r1 _ => ?_)
  refine g_state (fun u2 => ?_)
  refine g_callX CX (n := 1) (As := [.int r1.1]) (rest := []) (fun r h => mX3_requireAllowed l D K _ r hfl h) gX3_walk_X3_requireAllowed rfl (by decide +kernel) ⟨Nat.le_of_ble_eq_true rfl, Nat.le_of_ble_eq_true rfl⟩ rfl rfl (Nat.le_of_ble_eq_true rfl) dX3_walk_18 ?_
  refine g_aload_n C 0 dX3_walk_21 rfl rfl ?_
  refine g_callVv C (n := 0) (As := []) (rest := []) (fun r h => mX3_remember l D K b t x y α _ r h) gE.same gX3_walk_X3_remember rfl (by decide +kernel) ⟨Nat.le_of_ble_eq_true rfl, Nat.le_of_ble_eq_true rfl, rfl, rfl⟩ 0 (SWg_0 K b t x y α _) rfl rfl rfl (Nat.le_of_ble_eq_true rfl) dX3_walk_22 (fun r3 _ => ?_)
  refine g_aload_n C 0 dX3_walk_25 rfl rfl ?_
  refine g_get C (fun _ h => List.mem_cons_of_mem _ (List.mem_append_left _ (List.mem_append_left _ (List.mem_append_left _ (List.mem_append_left _ (List.mem_append_right _ h)))))) 0 (SWg_0 K b t x y α _) rfl 1 (by decide) (List.mem_of_getElem? (i := 1) rfl) rfl rfl dX3_walk_26 ?_
  refine g_iload_n C 1 dX3_walk_29 rfl rfl ?_
  refine g_iload_n C 2 dX3_walk_30 rfl rfl ?_
  refine g_iload_n C 3 dX3_walk_31 rfl rfl ?_
  refine g_callVi C (n := 3) (As := [.int p1, .int p2, .int p3]) (rest := []) (fun r h => mX1_tryWalk l D K x _ _ _ _ r h) (SWe_x D K b t x y α _) gX3_walk_X1_tryWalk rfl (by decide +kernel) ⟨Nat.le_of_ble_eq_true rfl, Nat.le_of_ble_eq_true rfl, rfl, rfl⟩ 9 (LWg_9 K x _) rfl rfl rfl (Nat.le_of_ble_eq_true rfl) dX3_walk_32 (fun r4 _ => ?_)
  refine g_state (fun u5 => ?_)
  refine g_pop C dX3_walk_35 rfl ?_
  refine g_aload_n C 0 dX3_walk_36 rfl rfl ?_
  refine g_get C (fun _ h => List.mem_cons_of_mem _ (List.mem_append_left _ (List.mem_append_left _ (List.mem_append_left _ (List.mem_append_left _ (List.mem_append_right _ h)))))) 0 (SWg_0 K b t x y α _) rfl 1 (by decide) (List.mem_of_getElem? (i := 1) rfl) rfl rfl dX3_walk_37 ?_
  refine g_iload_n C 2 dX3_walk_40 rfl rfl ?_
  refine g_callVi C (n := 1) (As := [.int p2]) (rest := []) (fun r h => mX1_visitorsAt l D K x _ _ r h) (SWe_x D K b t x y α _) gX3_walk_X1_visitorsAt rfl (by decide +kernel) ⟨Nat.le_of_ble_eq_true rfl, Nat.le_of_ble_eq_true rfl, rfl, rfl⟩ 9 (LWg_9 K x _) rfl rfl rfl (Nat.le_of_ble_eq_true rfl) dX3_walk_41 (fun r6 _ => ?_)
  refine g_state (fun u7 => ?_)
  exact g_ret C ⟨_, rfl, dX3_walk_44, rfl⟩
set_option maxHeartbeats 4000000 in
set_option maxRecDepth 100000 in
theorem mX3_turn (l : Launch) (D : va_G) (K : Nat → ClassId) (b t x y : Nat → Nat) (α : Nat → Nat → Nat) (σ : ST) (p1 : Int32) (r : ((Nat × ST) ⊕ (Int32 × ST))) (hfl : l.stackTraces = false) (hf : fX3_turn σ p1 = some r) : gMx l yX3_turn wsX3_turn 7 148 D (gT K) (SW K b t x y α) [.ref (b 0), .int p1] σ r := by
  refine mk_x (nL := 2) (cc := cX3_turn) hfl (by decide) rfl (Nat.le_of_ble_eq_true rfl) hf (fun ce sl g CX => ?_)
  have C := CX.C
  refine g_sub C (lv' := [(0, .ref (b 0)), (1, .int p1)]) [0, 1] rfl ?_
  unfold fX3_turn
  refine g_iload_n C 1 dX3_turn_0 rfl rfl ?_
  refine g_callX CX (n := 1) (As := [.int p1]) (rest := []) (fun r h => mX3_requireVisitor l D K _ r hfl h) gX3_turn_X3_requireVisitor rfl (by decide +kernel) ⟨Nat.le_of_ble_eq_true rfl, Nat.le_of_ble_eq_true rfl⟩ rfl rfl (Nat.le_of_ble_eq_true rfl) dX3_turn_1 ?_
  refine g_aload_n C 0 dX3_turn_4 rfl rfl ?_
  refine g_get C (fun _ h => List.mem_cons_of_mem _ (List.mem_append_left _ (List.mem_append_left _ (List.mem_append_left _ (List.mem_append_left _ (List.mem_append_right _ h)))))) 0 (SWg_0 K b t x y α _) rfl 1 (by decide) (List.mem_of_getElem? (i := 1) rfl) rfl rfl dX3_turn_5 ?_
  refine g_iload_n C 1 dX3_turn_8 rfl rfl ?_
  refine g_callVi C (n := 1) (As := [.int p1]) (rest := []) (fun r h => mX1_canTurn l D K x _ _ r h) (SWe_x D K b t x y α _) gX3_turn_X1_canTurn rfl (by decide +kernel) ⟨Nat.le_of_ble_eq_true rfl, Nat.le_of_ble_eq_true rfl, rfl, rfl⟩ 9 (LWg_9 K x _) rfl rfl rfl (Nat.le_of_ble_eq_true rfl) dX3_turn_9 (fun r1 _ => ?_)
  refine g_state (fun u2 => ?_)
  refine g_callX CX (n := 1) (As := [.int r1.1]) (rest := []) (fun r h => mX3_requireAllowed l D K _ r hfl h) gX3_turn_X3_requireAllowed rfl (by decide +kernel) ⟨Nat.le_of_ble_eq_true rfl, Nat.le_of_ble_eq_true rfl⟩ rfl rfl (Nat.le_of_ble_eq_true rfl) dX3_turn_12 ?_
  refine g_aload_n C 0 dX3_turn_15 rfl rfl ?_
  refine g_callVv C (n := 0) (As := []) (rest := []) (fun r h => mX3_remember l D K b t x y α _ r h) gE.same gX3_turn_X3_remember rfl (by decide +kernel) ⟨Nat.le_of_ble_eq_true rfl, Nat.le_of_ble_eq_true rfl, rfl, rfl⟩ 0 (SWg_0 K b t x y α _) rfl rfl rfl (Nat.le_of_ble_eq_true rfl) dX3_turn_16 (fun r3 _ => ?_)
  refine g_aload_n C 0 dX3_turn_19 rfl rfl ?_
  refine g_get C (fun _ h => List.mem_cons_of_mem _ (List.mem_append_left _ (List.mem_append_left _ (List.mem_append_left _ (List.mem_append_left _ (List.mem_append_right _ h)))))) 0 (SWg_0 K b t x y α _) rfl 1 (by decide) (List.mem_of_getElem? (i := 1) rfl) rfl rfl dX3_turn_20 ?_
  refine g_iload_n C 1 dX3_turn_23 rfl rfl ?_
  refine g_callVi C (n := 1) (As := [.int p1]) (rest := []) (fun r h => mX1_tryTurn l D K x _ _ r h) (SWe_x D K b t x y α _) gX3_turn_X1_tryTurn rfl (by decide +kernel) ⟨Nat.le_of_ble_eq_true rfl, Nat.le_of_ble_eq_true rfl, rfl, rfl⟩ 9 (LWg_9 K x _) rfl rfl rfl (Nat.le_of_ble_eq_true rfl) dX3_turn_24 (fun r4 _ => ?_)
  refine g_state (fun u5 => ?_)
  refine g_pop C dX3_turn_27 rfl ?_
  refine g_aload_n C 0 dX3_turn_28 rfl rfl ?_
  refine g_get C (fun _ h => List.mem_cons_of_mem _ (List.mem_append_left _ (List.mem_append_left _ (List.mem_append_left _ (List.mem_append_left _ (List.mem_append_right _ h)))))) 0 (SWg_0 K b t x y α _) rfl 1 (by decide) (List.mem_of_getElem? (i := 1) rfl) rfl rfl dX3_turn_29 ?_
  refine g_get C (fun _ h => List.mem_cons_of_mem _ (List.mem_append_left _ (List.mem_append_left _ (List.mem_append_left _ (List.mem_append_right _ h))))) 16 (SWg_16 K b t x y α _) rfl 5 (by decide) (List.mem_of_getElem? (i := 2) rfl) rfl rfl dX3_turn_32 ?_
  refine g_iload_n C 1 dX3_turn_35 rfl rfl ?_
  refine g_zaldG C 21 1 (SWg_21 K b t x y α _) rfl dX3_turn_36 ?_
  refine g_callSi C (n := 1) (As := [.int (u5.2.2.1 14 p1.toNatClampNeg)]) (rest := []) (fun r h => mX3_oneIf l D K _ r h) gE.nil (τ := ()) gX3_turn_X3_oneIf rfl (by decide +kernel) ⟨Nat.le_of_ble_eq_true rfl, Nat.le_of_ble_eq_true rfl, rfl, rfl⟩ rfl rfl (Nat.le_of_ble_eq_true rfl) dX3_turn_37 (fun r6 _ => ?_)
  exact g_ret C ⟨_, rfl, dX3_turn_40, rfl⟩
set_option maxHeartbeats 4000000 in
set_option maxRecDepth 100000 in
theorem mX3_ticks (l : Launch) (D : va_G) (K : Nat → ClassId) (b t x y : Nat → Nat) (α : Nat → Nat → Nat) (σ : ST) (p1 : Int32) (r : ((Nat × ST) ⊕ (Int32 × ST))) (hfl : l.stackTraces = false) (hf : fX3_ticks σ p1 = some r) : gMx l yX3_ticks wsX3_ticks 6 148 D (gT K) (SW K b t x y α) [.ref (b 0), .int p1] σ r := by
  refine mk_x (nL := 2) (cc := cX3_ticks) hfl (by decide) rfl (Nat.le_of_ble_eq_true rfl) hf (fun ce sl g CX => ?_)
  have C := CX.C
  refine g_sub C (lv' := [(0, .ref (b 0)), (1, .int p1)]) [0, 1] rfl ?_
  unfold fX3_ticks
  refine g_iload_n C 1 dX3_ticks_0 rfl rfl ?_
  refine g_callSi C (n := 1) (As := [.int p1]) (rest := []) (fun r h => mX3_isTickNumber l D K _ r h) gE.nil (τ := ()) gX3_ticks_X3_isTickNumber rfl (by decide +kernel) ⟨Nat.le_of_ble_eq_true rfl, Nat.le_of_ble_eq_true rfl, rfl, rfl⟩ rfl rfl (Nat.le_of_ble_eq_true rfl) dX3_ticks_1 (fun r1 _ => ?_)
  refine g_if_ne C 18 dX3_ticks_4 (by decide) (fun _ => ?_) (fun _ => ?_)
  · exact g_throwSW CX rfl (by decide) (List.mem_of_getElem? (i := 1) rfl) (List.mem_of_getElem? (i := 2) rfl) (List.mem_of_getElem? (i := 6) rfl) (fun _ h => List.mem_cons_of_mem _ (List.mem_append_right _ h)) nonGood1 (allOt1 _) dX3_ticks_7 dX3_ticks_10 dX3_ticks_11 dX3_ticks_14 dX3_ticks_17 (Nat.le_of_ble_eq_true rfl) (Nat.le_of_ble_eq_true rfl)
  · refine g_aload_n C 0 dX3_ticks_18 rfl rfl ?_
    refine g_callVv C (n := 0) (As := []) (rest := []) (fun r h => mX3_remember l D K b t x y α _ r h) gE.same gX3_ticks_X3_remember rfl (by decide +kernel) ⟨Nat.le_of_ble_eq_true rfl, Nat.le_of_ble_eq_true rfl, rfl, rfl⟩ 0 (SWg_0 K b t x y α _) rfl rfl rfl (Nat.le_of_ble_eq_true rfl) dX3_ticks_19 (fun r2 _ => ?_)
    refine g_aload_n C 0 dX3_ticks_22 rfl rfl ?_
    refine g_get C (fun _ h => List.mem_cons_of_mem _ (List.mem_append_left _ (List.mem_append_left _ (List.mem_append_left _ (List.mem_append_right _ h))))) 0 (SWg_0 K b t x y α _) rfl 1 (by decide) (List.mem_of_getElem? (i := 3) rfl) rfl rfl dX3_ticks_23 ?_
    refine g_iload_n C 1 dX3_ticks_26 rfl rfl ?_
    refine g_callVi C (n := 1) (As := [.int p1]) (rest := []) (fun r h => mX1_passTicks l D K x _ _ r h) (SWe_x D K b t x y α _) gX3_ticks_X1_passTicks rfl (by decide +kernel) ⟨Nat.le_of_ble_eq_true rfl, Nat.le_of_ble_eq_true rfl, rfl, rfl⟩ 9 (LWg_9 K x _) rfl rfl rfl (Nat.le_of_ble_eq_true rfl) dX3_ticks_27 (fun r3 _ => ?_)
    refine g_state (fun u4 => ?_)
    exact g_ret C ⟨_, rfl, dX3_ticks_30, rfl⟩
set_option maxHeartbeats 4000000 in
set_option maxRecDepth 100000 in
theorem mX3_set (l : Launch) (D : va_G) (K : Nat → ClassId) (b t x y : Nat → Nat) (α : Nat → Nat → Nat) (σ : ST) (p1 : Int32) (p2 : Int32) (r : ((Nat × ST) ⊕ (Int32 × ST))) (hfl : l.stackTraces = false) (hf : fX3_set σ p1 p2 = some r) : gMx l yX3_set wsX3_set 6 148 D (gT K) (SW K b t x y α) [.ref (b 0), .int p1, .int p2] σ r := by
  refine mk_x (nL := 3) (cc := cX3_set) hfl (by decide) rfl (Nat.le_of_ble_eq_true rfl) hf (fun ce sl g CX => ?_)
  have C := CX.C
  refine g_sub C (lv' := [(0, .ref (b 0)), (1, .int p1), (2, .int p2)]) [0, 1, 2] rfl ?_
  unfold fX3_set
  refine g_iload_n C 1 dX3_set_0 rfl rfl ?_
  refine g_iload_n C 2 dX3_set_1 rfl rfl ?_
  refine g_callSi C (n := 2) (As := [.int p1, .int p2]) (rest := []) (fun r h => mX3_isSetting l D K _ _ r h) gE.nil (τ := ()) gX3_set_X3_isSetting rfl (by decide +kernel) ⟨Nat.le_of_ble_eq_true rfl, Nat.le_of_ble_eq_true rfl, rfl, rfl⟩ rfl rfl (Nat.le_of_ble_eq_true rfl) dX3_set_2 (fun r1 _ => ?_)
  refine g_if_ne C 19 dX3_set_5 (by decide) (fun _ => ?_) (fun _ => ?_)
  · exact g_throwSW CX rfl (by decide) (List.mem_of_getElem? (i := 1) rfl) (List.mem_of_getElem? (i := 2) rfl) (List.mem_of_getElem? (i := 7) rfl) (fun _ h => List.mem_cons_of_mem _ (List.mem_append_right _ h)) nonGood1 (allOt1 _) dX3_set_8 dX3_set_11 dX3_set_12 dX3_set_15 dX3_set_18 (Nat.le_of_ble_eq_true rfl) (Nat.le_of_ble_eq_true rfl)
  · refine g_aload_n C 0 dX3_set_19 rfl rfl ?_
    refine g_callVv C (n := 0) (As := []) (rest := []) (fun r h => mX3_remember l D K b t x y α _ r h) gE.same gX3_set_X3_remember rfl (by decide +kernel) ⟨Nat.le_of_ble_eq_true rfl, Nat.le_of_ble_eq_true rfl, rfl, rfl⟩ 0 (SWg_0 K b t x y α _) rfl rfl rfl (Nat.le_of_ble_eq_true rfl) dX3_set_20 (fun r2 _ => ?_)
    refine g_aload_n C 0 dX3_set_23 rfl rfl ?_
    refine g_get C (fun _ h => List.mem_cons_of_mem _ (List.mem_append_left _ (List.mem_append_left _ (List.mem_append_left _ (List.mem_append_right _ h))))) 0 (SWg_0 K b t x y α _) rfl 1 (by decide) (List.mem_of_getElem? (i := 3) rfl) rfl rfl dX3_set_24 ?_
    refine g_iload_n C 1 dX3_set_27 rfl rfl ?_
    refine g_iload_n C 2 dX3_set_28 rfl rfl ?_
    refine g_callVi C (n := 2) (As := [.int p1, .int p2]) (rest := []) (fun r h => mX1_change l D K x _ _ _ r h) (SWe_x D K b t x y α _) gX3_set_X1_change rfl (by decide +kernel) ⟨Nat.le_of_ble_eq_true rfl, Nat.le_of_ble_eq_true rfl, rfl, rfl⟩ 9 (LWg_9 K x _) rfl rfl rfl (Nat.le_of_ble_eq_true rfl) dX3_set_29 (fun r3 _ => ?_)
    refine g_state (fun u4 => ?_)
    exact g_ret C ⟨_, rfl, dX3_set_32, rfl⟩
set_option maxHeartbeats 4000000 in
set_option maxRecDepth 100000 in
theorem mX3_undo (l : Launch) (D : va_G) (K : Nat → ClassId) (b t x y : Nat → Nat) (α : Nat → Nat → Nat) (σ : ST) (r : ((Nat × ST) ⊕ (Int32 × ST))) (hfl : l.stackTraces = false) (hf : fX3_undo σ  = some r) : gMx l yX3_undo wsX3_undo 6 128 D (gT K) (SW K b t x y α) [.ref (b 0)] σ r := by
  refine mk_x (nL := 1) (cc := cX3_undo) hfl (by decide) rfl (Nat.le_of_ble_eq_true rfl) hf (fun ce sl g CX => ?_)
  have C := CX.C
  refine g_sub C (lv' := [(0, .ref (b 0))]) [0] rfl ?_
  unfold fX3_undo
  refine g_aload_n C 0 dX3_undo_0 rfl rfl ?_
  refine g_get C (fun _ h => List.mem_cons_of_mem _ (List.mem_append_left _ (List.mem_append_left _ (List.mem_append_left _ (List.mem_append_right _ h))))) 0 (SWg_0 K b t x y α _) rfl 4 (by decide) (List.mem_of_getElem? (i := 3) rfl) rfl rfl dX3_undo_1 ?_
  refine g_if_gt C 18 dX3_undo_4 (by decide) (fun _ => ?_) (fun _ => ?_)
  · refine g_aload_n C 0 dX3_undo_18 rfl rfl ?_
    refine g_dup C dX3_undo_19 rfl ?_
    refine g_get C (fun _ h => List.mem_cons_of_mem _ (List.mem_append_left _ (List.mem_append_left _ (List.mem_append_left _ (List.mem_append_right _ h))))) 0 (SWg_0 K b t x y α _) rfl 4 (by decide) (List.mem_of_getElem? (i := 3) rfl) rfl rfl dX3_undo_20 ?_
    refine g_iconst C (v := (1 : Int32)) dX3_undo_23 ic_1 ?_
    refine g_isub C dX3_undo_24 ?_
    refine g_topi (fun t1 => ?_)
    refine g_put C (ty := .int) (fun _ h => List.mem_cons_of_mem _ (List.mem_append_left _ (List.mem_append_left _ (List.mem_append_left _ (List.mem_append_right _ h))))) tyX3 tyX3_ok nmX3 0 (SWg_0 K b t x y α _) rfl 4 (by decide) (List.mem_of_getElem? (i := 3) rfl) rfl rfl (by decide +kernel) rfl rfl (Nat.le_of_ble_eq_true rfl) (SWp_0_4 K b t x y α _ _) dX3_undo_25 ?_
    refine g_state (fun u2 => ?_)
    refine g_aload_n C 0 dX3_undo_28 rfl rfl ?_
    refine g_get C (fun _ h => List.mem_cons_of_mem _ (List.mem_append_left _ (List.mem_append_left _ (List.mem_append_left _ (List.mem_append_right _ h))))) 0 (SWg_0 K b t x y α _) rfl 1 (by decide) (List.mem_of_getElem? (i := 4) rfl) rfl rfl dX3_undo_29 ?_
    refine g_aload_n C 0 dX3_undo_32 rfl rfl ?_
    refine g_get C (fun _ h => List.mem_cons_of_mem _ (List.mem_append_left _ (List.mem_append_left _ (List.mem_append_left _ (List.mem_append_right _ h))))) 0 (SWg_0 K b t x y α _) rfl 3 (by decide) (List.mem_of_getElem? (i := 5) rfl) rfl rfl dX3_undo_33 ?_
    refine g_aload_n C 0 dX3_undo_36 rfl rfl ?_
    refine g_get C (fun _ h => List.mem_cons_of_mem _ (List.mem_append_left _ (List.mem_append_left _ (List.mem_append_left _ (List.mem_append_right _ h))))) 0 (SWg_0 K b t x y α _) rfl 4 (by decide) (List.mem_of_getElem? (i := 3) rfl) rfl rfl dX3_undo_37 ?_
    refine g_aaldG C 1 3 (SWg_1 K b t x y α _) rfl rfl dX3_undo_40 ?_
    refine g_topk (fun q3 => ?_)
    refine g_bool C (fun k4 => ?_)
    refine g_callVv C (n := 1) (As := [.ref (α q3 9)]) (rest := []) (fun r h => mX1_copyFrom l D K x (α q3) _ r h) (SWe_xk D K b t x y α _ k4) gX3_undo_X1_copyFrom rfl (by decide +kernel) ⟨Nat.le_of_ble_eq_true rfl, Nat.le_of_ble_eq_true rfl, rfl, rfl⟩ 9 (L2g_9 K x (α q3) _) rfl rfl rfl (Nat.le_of_ble_eq_true rfl) dX3_undo_41 (fun r5 _ => ?_)
    refine g_state (fun u6 => ?_)
    refine g_aload_n C 0 dX3_undo_44 rfl rfl ?_
    refine g_get C (fun _ h => List.mem_cons_of_mem _ (List.mem_append_left _ (List.mem_append_left _ (List.mem_append_left _ (List.mem_append_right _ h))))) 0 (SWg_0 K b t x y α _) rfl 4 (by decide) (List.mem_of_getElem? (i := 3) rfl) rfl rfl dX3_undo_45 ?_
    exact g_ret C ⟨_, rfl, dX3_undo_48, rfl⟩
  · exact g_throwSW CX rfl (by decide) (List.mem_of_getElem? (i := 1) rfl) (List.mem_of_getElem? (i := 2) rfl) (List.mem_of_getElem? (i := 8) rfl) (fun _ h => List.mem_cons_of_mem _ (List.mem_append_right _ h)) nonGood2 (allOt2 _) dX3_undo_7 dX3_undo_10 dX3_undo_11 dX3_undo_14 dX3_undo_17 (Nat.le_of_ble_eq_true rfl) (Nat.le_of_ble_eq_true rfl)
set_option maxHeartbeats 4000000 in
set_option maxRecDepth 100000 in
theorem mX3_shouted (l : Launch) (D : va_G) (K : Nat → ClassId) (b t x y : Nat → Nat) (α : Nat → Nat → Nat) (σ : ST) (p1 : Int32) (r : ((Nat × ST) ⊕ (Int32 × ST))) (hfl : l.stackTraces = false) (hf : fX3_shouted σ p1 = some r) : gMx l yX3_shouted wsX3_shouted 7 136 D (gT K) (SW K b t x y α) [.ref (b 0), .int p1] σ r := by
  refine mk_x (nL := 3) (cc := cX3_shouted) hfl (by decide) rfl (Nat.le_of_ble_eq_true rfl) hf (fun ce sl g CX => ?_)
  have C := CX.C
  refine g_sub C (lv' := [(0, .ref (b 0)), (1, .int p1)]) [0, 1] rfl ?_
  unfold fX3_shouted
  have h_17 : ∀ (n : Nat) (σ : ST) (v1 : Int32) (v2 : Int32), g (fX3_shouted_L17 n σ v1 v2) 17 [(0, .ref (b 0)), (1, .int v1), (2, .int v2)] [] σ := by
    intro n
    induction n with
    | zero =>
      intro σ v1 v2
      exact g_none C
    | succ n17 ih_17 =>
      intro σ v1 v2
      unfold fX3_shouted_L17
      refine g_iload_n C 2 dX3_shouted_17 rfl rfl ?_
      refine g_bipush C (v := (99 : Int32)) dX3_shouted_18 (by decide) ?_
      refine g_icmp_gt C 61 dX3_shouted_20 (by decide) (fun _ => ?_) (fun _ => ?_)
      · refine g_bipush C (v := (-9 : Int32)) dX3_shouted_61 (by decide) ?_
        exact g_ret C ⟨_, rfl, dX3_shouted_63, rfl⟩
      · refine g_aload_n C 0 dX3_shouted_23 rfl rfl ?_
        refine g_get C (fun _ h => List.mem_cons_of_mem _ (List.mem_append_left _ (List.mem_append_left _ (List.mem_append_left _ (List.mem_append_right _ h))))) 0 (SWg_0 K b t x y α _) rfl 2 (by decide) (List.mem_of_getElem? (i := 1) rfl) rfl rfl dX3_shouted_24 ?_
        refine g_iconst C (v := (1 : Int32)) dX3_shouted_27 ic_1 ?_
        refine g_callVi C (n := 1) (As := [.int (1 : Int32)]) (rest := []) (fun r h => mX1_passTicks l D K y _ _ r h) (SWe_y D K b t x y α _) gX3_shouted_X1_passTicks rfl (by decide +kernel) ⟨Nat.le_of_ble_eq_true rfl, Nat.le_of_ble_eq_true rfl, rfl, rfl⟩ 9 (LWg_9 K y _) rfl rfl rfl (Nat.le_of_ble_eq_true rfl) dX3_shouted_28 (fun r1 _ => ?_)
        refine g_state (fun u2 => ?_)
        refine g_pop C dX3_shouted_31 rfl ?_
        refine g_aload_n C 0 dX3_shouted_32 rfl rfl ?_
        refine g_get C (fun _ h => List.mem_cons_of_mem _ (List.mem_append_left _ (List.mem_append_left _ (List.mem_append_left _ (List.mem_append_right _ h))))) 0 (SWg_0 K b t x y α _) rfl 2 (by decide) (List.mem_of_getElem? (i := 1) rfl) rfl rfl dX3_shouted_33 ?_
        refine g_get C (fun _ h => List.mem_cons_of_mem _ (List.mem_append_left _ (List.mem_append_left _ (List.mem_append_right _ h)))) 33 (SWg_33 K b t x y α _) rfl 7 (by decide) (List.mem_of_getElem? (i := 3) rfl) rfl rfl dX3_shouted_36 ?_
        refine g_iload_n C 1 dX3_shouted_39 rfl rfl ?_
        refine g_ialdG C 40 0 (SWg_40 K b t x y α _) rfl dX3_shouted_40 ?_
        refine g_aload_n C 0 dX3_shouted_41 rfl rfl ?_
        refine g_get C (fun _ h => List.mem_cons_of_mem _ (List.mem_append_left _ (List.mem_append_left _ (List.mem_append_left _ (List.mem_append_right _ h))))) 0 (SWg_0 K b t x y α _) rfl 1 (by decide) (List.mem_of_getElem? (i := 2) rfl) rfl rfl dX3_shouted_42 ?_
        refine g_get C (fun _ h => List.mem_cons_of_mem _ (List.mem_append_left _ (List.mem_append_left _ (List.mem_append_right _ h)))) 16 (SWg_16 K b t x y α _) rfl 7 (by decide) (List.mem_of_getElem? (i := 3) rfl) rfl rfl dX3_shouted_45 ?_
        refine g_iload_n C 1 dX3_shouted_48 rfl rfl ?_
        refine g_ialdG C 23 0 (SWg_23 K b t x y α _) rfl dX3_shouted_49 ?_
        refine g_icmp_eq C 55 dX3_shouted_50 (by decide) (fun _ => ?_) (fun _ => ?_)
        · refine g_iinc C (w := (1 : Int32)) (lv' := [(2, .int (v2 + (1 : Int32))), (0, .ref (b 0)), (1, .int v1)]) 2 dX3_shouted_55 rfl ic_1 (by decide) rfl ?_
          refine g_goto C 17 dX3_shouted_58 (by decide) ?_
          refine g_sub C (lv' := [(0, .ref (b 0)), (1, .int v1), (2, .int (v2 + (1 : Int32)))]) [1, 2, 0] rfl ?_
          exact ih_17 u2 v1 (v2 + (1 : Int32))
        · refine g_iload_n C 2 dX3_shouted_53 rfl rfl ?_
          exact g_ret C ⟨_, rfl, dX3_shouted_54, rfl⟩
  refine g_iload_n C 1 dX3_shouted_0 rfl rfl ?_
  refine g_callX CX (n := 1) (As := [.int p1]) (rest := []) (fun r h => mX3_requireBook l D K _ r hfl h) gX3_shouted_X3_requireBook rfl (by decide +kernel) ⟨Nat.le_of_ble_eq_true rfl, Nat.le_of_ble_eq_true rfl⟩ rfl rfl (Nat.le_of_ble_eq_true rfl) dX3_shouted_1 ?_
  refine g_aload_n C 0 dX3_shouted_4 rfl rfl ?_
  refine g_get C (fun _ h => List.mem_cons_of_mem _ (List.mem_append_left _ (List.mem_append_left _ (List.mem_append_left _ (List.mem_append_right _ h))))) 0 (SWg_0 K b t x y α _) rfl 2 (by decide) (List.mem_of_getElem? (i := 1) rfl) rfl rfl dX3_shouted_5 ?_
  refine g_aload_n C 0 dX3_shouted_8 rfl rfl ?_
  refine g_get C (fun _ h => List.mem_cons_of_mem _ (List.mem_append_left _ (List.mem_append_left _ (List.mem_append_left _ (List.mem_append_right _ h))))) 0 (SWg_0 K b t x y α _) rfl 1 (by decide) (List.mem_of_getElem? (i := 2) rfl) rfl rfl dX3_shouted_9 ?_
  refine g_callVv C (n := 1) (As := [.ref (x 9)]) (rest := []) (fun r h => mX1_copyFrom l D K y x _ r h) (SWe_yx D K b t x y α _) gX3_shouted_X1_copyFrom rfl (by decide +kernel) ⟨Nat.le_of_ble_eq_true rfl, Nat.le_of_ble_eq_true rfl, rfl, rfl⟩ 9 (L2g_9 K y x _) rfl rfl rfl (Nat.le_of_ble_eq_true rfl) dX3_shouted_12 (fun r3 _ => ?_)
  refine g_state (fun u4 => ?_)
  refine g_iconst C (v := (1 : Int32)) dX3_shouted_15 ic_1 ?_
  refine g_istore_n C (lv' := [(2, .int (1 : Int32)), (0, .ref (b 0)), (1, .int p1)]) dX3_shouted_16 rfl (by decide) rfl ?_
  refine g_sub C (lv' := [(0, .ref (b 0)), (1, .int p1), (2, .int (1 : Int32))]) [1, 2, 0] rfl ?_
  exact h_17 gFuel u4 p1 (1 : Int32)
set_option maxHeartbeats 4000000 in
set_option maxRecDepth 100000 in
theorem mX3_slips (l : Launch) (D : va_G) (K : Nat → ClassId) (b t x y : Nat → Nat) (α : Nat → Nat → Nat) (σ : ST) (r : (Int32 × ST)) (hf : fX3_slips σ  = some r) : gMi l yX3_slips wsX3_slips { frames := 7, cells := 0, slots := 0, locals := 156 } D (gT K) (SW K b t x y α) [.ref (b 0)] σ r := by
  refine mk_i (nL := 1) (cc := cX3_slips) (by decide) rfl (Nat.le_of_ble_eq_true rfl) rfl rfl hf (fun g C => ?_)
  refine g_sub C (lv' := [(0, .ref (b 0))]) [0] rfl ?_
  unfold fX3_slips
  refine g_aload_n C 0 dX3_slips_0 rfl rfl ?_
  refine g_get C (fun _ h => List.mem_cons_of_mem _ (List.mem_append_left _ (List.mem_append_left _ (List.mem_append_right _ h)))) 0 (SWg_0 K b t x y α _) rfl 2 (by decide) (List.mem_of_getElem? (i := 1) rfl) rfl rfl dX3_slips_1 ?_
  refine g_aload_n C 0 dX3_slips_4 rfl rfl ?_
  refine g_get C (fun _ h => List.mem_cons_of_mem _ (List.mem_append_left _ (List.mem_append_left _ (List.mem_append_right _ h)))) 0 (SWg_0 K b t x y α _) rfl 1 (by decide) (List.mem_of_getElem? (i := 2) rfl) rfl rfl dX3_slips_5 ?_
  refine g_callVv C (n := 1) (As := [.ref (x 9)]) (rest := []) (fun r h => mX1_copyFrom l D K y x _ r h) (SWe_yx D K b t x y α _) gX3_slips_X1_copyFrom rfl (by decide +kernel) ⟨Nat.le_of_ble_eq_true rfl, Nat.le_of_ble_eq_true rfl, rfl, rfl⟩ 9 (L2g_9 K y x _) rfl rfl rfl (Nat.le_of_ble_eq_true rfl) dX3_slips_8 (fun r1 _ => ?_)
  refine g_state (fun u2 => ?_)
  refine g_aload_n C 0 dX3_slips_11 rfl rfl ?_
  refine g_get C (fun _ h => List.mem_cons_of_mem _ (List.mem_append_left _ (List.mem_append_left _ (List.mem_append_right _ h)))) 0 (SWg_0 K b t x y α _) rfl 2 (by decide) (List.mem_of_getElem? (i := 1) rfl) rfl rfl dX3_slips_12 ?_
  refine g_callVi C (n := 0) (As := []) (rest := []) (fun r h => mX1_slipsOfCrossings l D K y _ r h) (SWe_y D K b t x y α _) gX3_slips_X1_slipsOfCrossings rfl (by decide +kernel) ⟨Nat.le_of_ble_eq_true rfl, Nat.le_of_ble_eq_true rfl, rfl, rfl⟩ 9 (LWg_9 K y _) rfl rfl rfl (Nat.le_of_ble_eq_true rfl) dX3_slips_15 (fun r3 _ => ?_)
  refine g_state (fun u4 => ?_)
  exact g_ret C ⟨dX3_slips_18, rfl, rfl⟩
set_option maxHeartbeats 4000000 in
set_option maxRecDepth 100000 in
theorem mX3_leastStrength (l : Launch) (D : va_G) (K : Nat → ClassId) (b t x y : Nat → Nat) (α : Nat → Nat → Nat) (σ : ST) (p1 : Int32) (r : ((Nat × ST) ⊕ (Int32 × ST))) (hfl : l.stackTraces = false) (hf : fX3_leastStrength σ p1 = some r) : gMx l yX3_leastStrength wsX3_leastStrength 7 156 D (gT K) (SW K b t x y α) [.ref (b 0), .int p1] σ r := by
  refine mk_x (nL := 3) (cc := cX3_leastStrength) hfl (by decide) rfl (Nat.le_of_ble_eq_true rfl) hf (fun ce sl g CX => ?_)
  have C := CX.C
  refine g_sub C (lv' := [(0, .ref (b 0)), (1, .int p1)]) [0, 1] rfl ?_
  unfold fX3_leastStrength
  have h_6 : ∀ (n : Nat) (σ : ST) (v1 : Int32) (v2 : Int32), g (fX3_leastStrength_L6 n σ v1 v2) 6 [(0, .ref (b 0)), (1, .int v1), (2, .int v2)] [] σ := by
    intro n
    induction n with
    | zero =>
      intro σ v1 v2
      exact g_none C
    | succ n6 ih_6 =>
      intro σ v1 v2
      unfold fX3_leastStrength_L6
      refine g_iload_n C 2 dX3_leastStrength_6 rfl rfl ?_
      refine g_bipush C (v := (15 : Int32)) dX3_leastStrength_7 (by decide) ?_
      refine g_icmp_gt C 54 dX3_leastStrength_9 (by decide) (fun _ => ?_) (fun _ => ?_)
      · refine g_bipush C (v := (-9 : Int32)) dX3_leastStrength_54 (by decide) ?_
        exact g_ret C ⟨_, rfl, dX3_leastStrength_56, rfl⟩
      · refine g_aload_n C 0 dX3_leastStrength_12 rfl rfl ?_
        refine g_get C (fun _ h => List.mem_cons_of_mem _ (List.mem_append_left _ (List.mem_append_left _ (List.mem_append_left _ (List.mem_append_right _ h))))) 0 (SWg_0 K b t x y α _) rfl 2 (by decide) (List.mem_of_getElem? (i := 1) rfl) rfl rfl dX3_leastStrength_13 ?_
        refine g_aload_n C 0 dX3_leastStrength_16 rfl rfl ?_
        refine g_get C (fun _ h => List.mem_cons_of_mem _ (List.mem_append_left _ (List.mem_append_left _ (List.mem_append_left _ (List.mem_append_right _ h))))) 0 (SWg_0 K b t x y α _) rfl 1 (by decide) (List.mem_of_getElem? (i := 2) rfl) rfl rfl dX3_leastStrength_17 ?_
        refine g_callVv C (n := 1) (As := [.ref (x 9)]) (rest := []) (fun r h => mX1_copyFrom l D K y x _ r h) (SWe_yx D K b t x y α _) gX3_leastStrength_X1_copyFrom rfl (by decide +kernel) ⟨Nat.le_of_ble_eq_true rfl, Nat.le_of_ble_eq_true rfl, rfl, rfl⟩ 9 (L2g_9 K y x _) rfl rfl rfl (Nat.le_of_ble_eq_true rfl) dX3_leastStrength_20 (fun r1 _ => ?_)
        refine g_state (fun u2 => ?_)
        refine g_aload_n C 0 dX3_leastStrength_23 rfl rfl ?_
        refine g_get C (fun _ h => List.mem_cons_of_mem _ (List.mem_append_left _ (List.mem_append_left _ (List.mem_append_left _ (List.mem_append_right _ h))))) 0 (SWg_0 K b t x y α _) rfl 2 (by decide) (List.mem_of_getElem? (i := 1) rfl) rfl rfl dX3_leastStrength_24 ?_
        refine g_get C (fun _ h => List.mem_cons_of_mem _ (List.mem_append_left _ (List.mem_append_left _ (List.mem_append_right _ h)))) 33 (SWg_33 K b t x y α _) rfl 0 (by decide) (List.mem_of_getElem? (i := 3) rfl) rfl rfl dX3_leastStrength_27 ?_
        refine g_get C (fun _ h => List.mem_cons_of_mem _ (List.mem_append_left _ (List.mem_append_right _ h))) 24 (SWg_24 K b t x y α _) rfl 0 (by decide) (List.mem_of_getElem? (i := 4) rfl) rfl rfl dX3_leastStrength_30 ?_
        refine g_iload_n C 1 dX3_leastStrength_33 rfl rfl ?_
        refine g_iload_n C 2 dX3_leastStrength_34 rfl rfl ?_
        refine g_iastG C 25 0 (SWg_25 K b t x y α _) rfl (SWs_25 K b t x y α _ _) dX3_leastStrength_35 ?_
        refine g_state (fun u3 => ?_)
        refine g_aload_n C 0 dX3_leastStrength_36 rfl rfl ?_
        refine g_get C (fun _ h => List.mem_cons_of_mem _ (List.mem_append_left _ (List.mem_append_left _ (List.mem_append_left _ (List.mem_append_right _ h))))) 0 (SWg_0 K b t x y α _) rfl 2 (by decide) (List.mem_of_getElem? (i := 1) rfl) rfl rfl dX3_leastStrength_37 ?_
        refine g_callVi C (n := 0) (As := []) (rest := []) (fun r h => mX1_slipsOfCrossings l D K y _ r h) (SWe_y D K b t x y α _) gX3_leastStrength_X1_slipsOfCrossings rfl (by decide +kernel) ⟨Nat.le_of_ble_eq_true rfl, Nat.le_of_ble_eq_true rfl, rfl, rfl⟩ 9 (LWg_9 K y _) rfl rfl rfl (Nat.le_of_ble_eq_true rfl) dX3_leastStrength_40 (fun r4 _ => ?_)
        refine g_state (fun u5 => ?_)
        refine g_if_ne C 48 dX3_leastStrength_43 (by decide) (fun _ => ?_) (fun _ => ?_)
        · refine g_iload_n C 2 dX3_leastStrength_46 rfl rfl ?_
          exact g_ret C ⟨_, rfl, dX3_leastStrength_47, rfl⟩
        · refine g_iinc C (w := (1 : Int32)) (lv' := [(2, .int (v2 + (1 : Int32))), (0, .ref (b 0)), (1, .int v1)]) 2 dX3_leastStrength_48 rfl ic_1 (by decide) rfl ?_
          refine g_goto C 6 dX3_leastStrength_51 (by decide) ?_
          refine g_sub C (lv' := [(0, .ref (b 0)), (1, .int v1), (2, .int (v2 + (1 : Int32)))]) [1, 2, 0] rfl ?_
          exact ih_6 u5 v1 (v2 + (1 : Int32))
  refine g_iload_n C 1 dX3_leastStrength_0 rfl rfl ?_
  refine g_callX CX (n := 1) (As := [.int p1]) (rest := []) (fun r h => mX3_requireGate l D K _ r hfl h) gX3_leastStrength_X3_requireGate rfl (by decide +kernel) ⟨Nat.le_of_ble_eq_true rfl, Nat.le_of_ble_eq_true rfl⟩ rfl rfl (Nat.le_of_ble_eq_true rfl) dX3_leastStrength_1 ?_
  refine g_iconst C (v := (0 : Int32)) dX3_leastStrength_4 ic_0 ?_
  refine g_istore_n C (lv' := [(2, .int (0 : Int32)), (0, .ref (b 0)), (1, .int p1)]) dX3_leastStrength_5 rfl (by decide) rfl ?_
  refine g_sub C (lv' := [(0, .ref (b 0)), (1, .int p1), (2, .int (0 : Int32))]) [1, 2, 0] rfl ?_
  exact h_6 gFuel σ p1 (0 : Int32)
set_option maxHeartbeats 4000000 in
set_option maxRecDepth 100000 in
theorem mX3_shoutsAfterWalk (l : Launch) (D : va_G) (K : Nat → ClassId) (b t x y : Nat → Nat) (α : Nat → Nat → Nat) (σ : ST) (p1 : Int32) (p2 : Int32) (r : (Int32 × ST)) (hf : fX3_shoutsAfterWalk σ p1 p2 = some r) : gMi l yX3_shoutsAfterWalk wsX3_shoutsAfterWalk { frames := 6, cells := 0, slots := 0, locals := 136 } D (gT K) (SW K b t x y α) [.ref (b 0), .int p1, .int p2] σ r := by
  refine mk_i (nL := 3) (cc := cX3_shoutsAfterWalk) (by decide) rfl (Nat.le_of_ble_eq_true rfl) rfl rfl hf (fun g C => ?_)
  refine g_sub C (lv' := [(0, .ref (b 0)), (1, .int p1), (2, .int p2)]) [0, 1, 2] rfl ?_
  unfold fX3_shoutsAfterWalk
  refine g_aload_n C 0 dX3_shoutsAfterWalk_0 rfl rfl ?_
  refine g_get C (fun _ h => List.mem_cons_of_mem _ (List.mem_append_left _ (List.mem_append_left _ (List.mem_append_right _ h)))) 0 (SWg_0 K b t x y α _) rfl 2 (by decide) (List.mem_of_getElem? (i := 1) rfl) rfl rfl dX3_shoutsAfterWalk_1 ?_
  refine g_aload_n C 0 dX3_shoutsAfterWalk_4 rfl rfl ?_
  refine g_get C (fun _ h => List.mem_cons_of_mem _ (List.mem_append_left _ (List.mem_append_left _ (List.mem_append_right _ h)))) 0 (SWg_0 K b t x y α _) rfl 1 (by decide) (List.mem_of_getElem? (i := 2) rfl) rfl rfl dX3_shoutsAfterWalk_5 ?_
  refine g_callVv C (n := 1) (As := [.ref (x 9)]) (rest := []) (fun r h => mX1_copyFrom l D K y x _ r h) (SWe_yx D K b t x y α _) gX3_shoutsAfterWalk_X1_copyFrom rfl (by decide +kernel) ⟨Nat.le_of_ble_eq_true rfl, Nat.le_of_ble_eq_true rfl, rfl, rfl⟩ 9 (L2g_9 K y x _) rfl rfl rfl (Nat.le_of_ble_eq_true rfl) dX3_shoutsAfterWalk_8 (fun r1 _ => ?_)
  refine g_state (fun u2 => ?_)
  refine g_aload_n C 0 dX3_shoutsAfterWalk_11 rfl rfl ?_
  refine g_get C (fun _ h => List.mem_cons_of_mem _ (List.mem_append_left _ (List.mem_append_left _ (List.mem_append_right _ h)))) 0 (SWg_0 K b t x y α _) rfl 2 (by decide) (List.mem_of_getElem? (i := 1) rfl) rfl rfl dX3_shoutsAfterWalk_12 ?_
  refine g_iload_n C 1 dX3_shoutsAfterWalk_15 rfl rfl ?_
  refine g_iload_n C 2 dX3_shoutsAfterWalk_16 rfl rfl ?_
  refine g_iconst C (v := (1 : Int32)) dX3_shoutsAfterWalk_17 ic_1 ?_
  refine g_callVi C (n := 3) (As := [.int p1, .int p2, .int (1 : Int32)]) (rest := []) (fun r h => mX1_tryWalk l D K y _ _ _ _ r h) (SWe_y D K b t x y α _) gX3_shoutsAfterWalk_X1_tryWalk rfl (by decide +kernel) ⟨Nat.le_of_ble_eq_true rfl, Nat.le_of_ble_eq_true rfl, rfl, rfl⟩ 9 (LWg_9 K y _) rfl rfl rfl (Nat.le_of_ble_eq_true rfl) dX3_shoutsAfterWalk_18 (fun r3 _ => ?_)
  refine g_state (fun u4 => ?_)
  refine g_pop C dX3_shoutsAfterWalk_21 rfl ?_
  refine g_aload_n C 0 dX3_shoutsAfterWalk_22 rfl rfl ?_
  refine g_get C (fun _ h => List.mem_cons_of_mem _ (List.mem_append_left _ (List.mem_append_left _ (List.mem_append_right _ h)))) 0 (SWg_0 K b t x y α _) rfl 2 (by decide) (List.mem_of_getElem? (i := 1) rfl) rfl rfl dX3_shoutsAfterWalk_23 ?_
  refine g_bipush C (v := (99 : Int32)) dX3_shoutsAfterWalk_26 (by decide) ?_
  refine g_callVi C (n := 1) (As := [.int (99 : Int32)]) (rest := []) (fun r h => mX1_passTicks l D K y _ _ r h) (SWe_y D K b t x y α _) gX3_shoutsAfterWalk_X1_passTicks rfl (by decide +kernel) ⟨Nat.le_of_ble_eq_true rfl, Nat.le_of_ble_eq_true rfl, rfl, rfl⟩ 9 (LWg_9 K y _) rfl rfl rfl (Nat.le_of_ble_eq_true rfl) dX3_shoutsAfterWalk_28 (fun r5 _ => ?_)
  refine g_state (fun u6 => ?_)
  exact g_ret C ⟨dX3_shoutsAfterWalk_31, rfl, rfl⟩
set_option maxHeartbeats 4000000 in
set_option maxRecDepth 100000 in
theorem mX3_bestGate (l : Launch) (D : va_G) (K : Nat → ClassId) (b t x y : Nat → Nat) (α : Nat → Nat → Nat) (σ : ST) (p1 : Int32) (r : ((Nat × ST) ⊕ (Int32 × ST))) (hfl : l.stackTraces = false) (hf : fX3_bestGate σ p1 = some r) : gMx l yX3_bestGate wsX3_bestGate 7 158 D (gT K) (SW K b t x y α) [.ref (b 0), .int p1] σ r := by
  refine mk_x (nL := 6) (cc := cX3_bestGate) hfl (by decide) rfl (Nat.le_of_ble_eq_true rfl) hf (fun ce sl g CX => ?_)
  have C := CX.C
  refine g_sub C (lv' := [(0, .ref (b 0)), (1, .int p1)]) [0, 1] rfl ?_
  unfold fX3_bestGate
  have h_21 : ∀ (σ : ST) (v1 : Int32) (s0 : Int32), g (fX3_bestGate_L21 σ v1 s0) 21 [(0, .ref (b 0)), (1, .int v1)] [.int s0] σ := by
    have h_36 : ∀ (n : Nat) (σ : ST) (v1 : Int32) (v2 : Int32) (v3 : Int32) (v4 : Int32), g (fX3_bestGate_L36 n σ v1 v2 v3 v4) 36 [(0, .ref (b 0)), (1, .int v1), (2, .int v2), (3, .int v3), (4, .int v4)] [] σ := by
      intro n
      induction n with
      | zero =>
        intro σ v1 v2 v3 v4
        exact g_none C
      | succ n36 ih_36 =>
        intro σ v1 v2 v3 v4
        unfold fX3_bestGate_L36
        refine g_iload C 4 dX3_bestGate_36 rfl ?_
        refine g_iconst C (v := (3 : Int32)) dX3_bestGate_38 ic_3 ?_
        refine g_icmp_ge C 69 dX3_bestGate_39 (by decide) (fun _ => ?_) (fun _ => ?_)
        · refine g_iload_n C 2 dX3_bestGate_69 rfl rfl ?_
          exact g_ret C ⟨_, rfl, dX3_bestGate_70, rfl⟩
        · refine g_aload_n C 0 dX3_bestGate_42 rfl rfl ?_
          refine g_iload_n C 1 dX3_bestGate_43 rfl rfl ?_
          refine g_iload C 4 dX3_bestGate_44 rfl ?_
          refine g_callVi C (n := 2) (As := [.int v1, .int v4]) (rest := []) (fun r h => mX3_shoutsAfterWalk l D K b t x y α _ _ _ r h) gE.same gX3_bestGate_X3_shoutsAfterWalk rfl (by decide +kernel) ⟨Nat.le_of_ble_eq_true rfl, Nat.le_of_ble_eq_true rfl, rfl, rfl⟩ 0 (SWg_0 K b t x y α _) rfl rfl rfl (Nat.le_of_ble_eq_true rfl) dX3_bestGate_46 (fun r1 _ => ?_)
          refine g_istore C (lv' := [(5, .int r1.1), (0, .ref (b 0)), (1, .int v1), (2, .int v2), (3, .int v3), (4, .int v4)]) dX3_bestGate_49 (by decide) rfl ?_
          refine g_iload C 0 dX3_bestGate_51 rfl ?_
          refine g_iload_n C 4 dX3_bestGate_53 rfl rfl ?_
          refine g_icmp_ge C 63 dX3_bestGate_54 (by decide) (fun _ => ?_) (fun _ => ?_)
          · refine g_iinc C (w := (1 : Int32)) (lv' := [(4, .int (v4 + (1 : Int32))), (5, .int r1.1), (0, .ref (b 0)), (1, .int v1), (2, .int v2), (3, .int v3)]) 5 dX3_bestGate_63 rfl ic_1 (by decide) rfl ?_
            refine g_goto C 36 dX3_bestGate_66 (by decide) ?_
            refine g_sub C (lv' := [(0, .ref (b 0)), (1, .int v1), (2, .int v2), (3, .int v3), (4, .int (v4 + (1 : Int32)))]) [2, 3, 4, 5, 0] rfl ?_
            exact ih_36 r1.2 v1 v2 v3 (v4 + (1 : Int32))
          · refine g_iload C 5 dX3_bestGate_57 rfl ?_
            refine g_istore_n C (lv' := [(2, .int v4), (5, .int r1.1), (0, .ref (b 0)), (1, .int v1), (3, .int v3), (4, .int v4)]) dX3_bestGate_59 rfl (by decide) rfl ?_
            refine g_iload C 1 dX3_bestGate_60 rfl ?_
            refine g_istore_n C (lv' := [(3, .int r1.1), (2, .int v4), (5, .int r1.1), (0, .ref (b 0)), (1, .int v1), (4, .int v4)]) dX3_bestGate_62 rfl (by decide) rfl ?_
            refine g_iinc C (w := (1 : Int32)) (lv' := [(4, .int (v4 + (1 : Int32))), (3, .int r1.1), (2, .int v4), (5, .int r1.1), (0, .ref (b 0)), (1, .int v1)]) 5 dX3_bestGate_63 rfl ic_1 (by decide) rfl ?_
            refine g_goto C 36 dX3_bestGate_66 (by decide) ?_
            refine g_sub C (lv' := [(0, .ref (b 0)), (1, .int v1), (2, .int v4), (3, .int r1.1), (4, .int (v4 + (1 : Int32)))]) [4, 5, 2, 1, 0] rfl ?_
            exact ih_36 r1.2 v1 v4 r1.1 (v4 + (1 : Int32))
    intro σ v1 s0
    unfold fX3_bestGate_L21
    refine g_callX CX (n := 1) (As := [.int s0]) (rest := []) (fun r h => mX3_requireAllowed l D K _ r hfl h) gX3_bestGate_X3_requireAllowed rfl (by decide +kernel) ⟨Nat.le_of_ble_eq_true rfl, Nat.le_of_ble_eq_true rfl⟩ rfl rfl (Nat.le_of_ble_eq_true rfl) dX3_bestGate_21 ?_
    refine g_iconst C (v := (0 : Int32)) dX3_bestGate_24 ic_0 ?_
    refine g_istore_n C (lv' := [(2, .int (0 : Int32)), (0, .ref (b 0)), (1, .int v1)]) dX3_bestGate_25 rfl (by decide) rfl ?_
    refine g_aload_n C 1 dX3_bestGate_26 rfl rfl ?_
    refine g_iload_n C 2 dX3_bestGate_27 rfl rfl ?_
    refine g_iconst C (v := (0 : Int32)) dX3_bestGate_28 ic_0 ?_
    refine g_callVi C (n := 2) (As := [.int v1, .int (0 : Int32)]) (rest := []) (fun r h => mX3_shoutsAfterWalk l D K b t x y α _ _ _ r h) gE.same gX3_bestGate_X3_shoutsAfterWalk rfl (by decide +kernel) ⟨Nat.le_of_ble_eq_true rfl, Nat.le_of_ble_eq_true rfl, rfl, rfl⟩ 0 (SWg_0 K b t x y α _) rfl rfl rfl (Nat.le_of_ble_eq_true rfl) dX3_bestGate_29 (fun r2 _ => ?_)
    refine g_istore_n C (lv' := [(3, .int r2.1), (2, .int (0 : Int32)), (0, .ref (b 0)), (1, .int v1)]) dX3_bestGate_32 rfl (by decide) rfl ?_
    refine g_iconst C (v := (1 : Int32)) dX3_bestGate_33 ic_1 ?_
    refine g_istore C (lv' := [(4, .int (1 : Int32)), (3, .int r2.1), (2, .int (0 : Int32)), (0, .ref (b 0)), (1, .int v1)]) dX3_bestGate_34 (by decide) rfl ?_
    refine g_sub C (lv' := [(0, .ref (b 0)), (1, .int v1), (2, .int (0 : Int32)), (3, .int r2.1), (4, .int (1 : Int32))]) [3, 4, 2, 1, 0] rfl ?_
    exact h_36 gFuel r2.2 v1 (0 : Int32) r2.1 (1 : Int32)
  refine g_iload_n C 1 dX3_bestGate_0 rfl rfl ?_
  refine g_callX CX (n := 1) (As := [.int p1]) (rest := []) (fun r h => mX3_requireVisitor l D K _ r hfl h) gX3_bestGate_X3_requireVisitor rfl (by decide +kernel) ⟨Nat.le_of_ble_eq_true rfl, Nat.le_of_ble_eq_true rfl⟩ rfl rfl (Nat.le_of_ble_eq_true rfl) dX3_bestGate_1 ?_
  refine g_aload_n C 0 dX3_bestGate_4 rfl rfl ?_
  refine g_get C (fun _ h => List.mem_cons_of_mem _ (List.mem_append_left _ (List.mem_append_left _ (List.mem_append_left _ (List.mem_append_left _ (List.mem_append_right _ h)))))) 0 (SWg_0 K b t x y α _) rfl 1 (by decide) (List.mem_of_getElem? (i := 1) rfl) rfl rfl dX3_bestGate_5 ?_
  refine g_get C (fun _ h => List.mem_cons_of_mem _ (List.mem_append_left _ (List.mem_append_left _ (List.mem_append_left _ (List.mem_append_right _ h))))) 16 (SWg_16 K b t x y α _) rfl 2 (by decide) (List.mem_of_getElem? (i := 2) rfl) rfl rfl dX3_bestGate_8 ?_
  refine g_iload_n C 1 dX3_bestGate_11 rfl rfl ?_
  refine g_ialdG C 18 0 (SWg_18 K b t x y α _) rfl dX3_bestGate_12 ?_
  refine g_if_ne C 20 dX3_bestGate_13 (by decide) (fun _ => ?_) (fun _ => ?_)
  · refine g_iconst C (v := (1 : Int32)) dX3_bestGate_16 ic_1 ?_
    refine g_goto C 21 dX3_bestGate_17 (by decide) ?_
    exact h_21 σ p1 (1 : Int32)
  · refine g_iconst C (v := (0 : Int32)) dX3_bestGate_20 ic_0 ?_
    exact h_21 σ p1 (0 : Int32)
set_option maxHeartbeats 4000000 in
set_option maxRecDepth 100000 in
theorem mX3_doBookCommand (l : Launch) (D : va_G) (K : Nat → ClassId) (b t x y : Nat → Nat) (α : Nat → Nat → Nat) (σ : ST) (p1 : Int32) (p2 : Int32) (r : (Int32 × ST)) (hf : fX3_doBookCommand σ p1 p2 = some r) : gMi l yX3_doBookCommand wsX3_doBookCommand { frames := 4, cells := 0, slots := 0, locals := 86 } D (gT K) (SW K b t x y α) [.ref (b 0), .int p1, .int p2] σ r := by
  refine mk_z (nL := 3) (cc := cX3_doBookCommand) (by decide) rfl (Nat.le_of_ble_eq_true rfl) rfl rfl hf (fun g C => ?_)
  refine g_sub C (lv' := [(0, .ref (b 0)), (1, .int p1), (2, .int p2)]) [0, 1, 2] rfl ?_
  unfold fX3_doBookCommand
  refine g_iload_n C 2 dX3_doBookCommand_0 rfl rfl ?_
  refine g_tcase C 28 (0 : Int32) dX3_doBookCommand_1 (by decide) (by decide) rfl (by decide) (fun _ => ?_) (fun h1 => ?_)
  · refine g_aload_n C 0 dX3_doBookCommand_28 rfl rfl ?_
    refine g_get C (fun _ h => List.mem_cons_of_mem _ (List.mem_append_left _ (List.mem_append_right _ h))) 0 (SWg_0 K b t x y α _) rfl 2 (by decide) (List.mem_of_getElem? (i := 1) rfl) rfl rfl dX3_doBookCommand_29 ?_
    refine g_iload_n C 1 dX3_doBookCommand_32 rfl rfl ?_
    refine g_callVi C (n := 1) (As := [.int p1]) (rest := []) (fun r h => mX1_tryPutBack l D K y _ _ r h) (SWe_y D K b t x y α _) gX3_doBookCommand_X1_tryPutBack rfl (by decide +kernel) ⟨Nat.le_of_ble_eq_true rfl, Nat.le_of_ble_eq_true rfl, rfl, rfl⟩ 9 (LWg_9 K y _) rfl rfl rfl (Nat.le_of_ble_eq_true rfl) dX3_doBookCommand_33 (fun r2 _ => ?_)
    refine g_state (fun u3 => ?_)
    refine g_bool C (fun h9 => ?_)
    exact g_ret C ⟨dX3_doBookCommand_36, rfl, rfl, h9⟩
  refine g_tcase C 37 (1 : Int32) dX3_doBookCommand_1 (by decide) (by decide) rfl (by decide) (fun _ => ?_) (fun h4 => ?_)
  · refine g_aload_n C 0 dX3_doBookCommand_37 rfl rfl ?_
    refine g_get C (fun _ h => List.mem_cons_of_mem _ (List.mem_append_left _ (List.mem_append_right _ h))) 0 (SWg_0 K b t x y α _) rfl 2 (by decide) (List.mem_of_getElem? (i := 1) rfl) rfl rfl dX3_doBookCommand_38 ?_
    refine g_iload_n C 1 dX3_doBookCommand_41 rfl rfl ?_
    refine g_callVi C (n := 1) (As := [.int p1]) (rest := []) (fun r h => mX1_tryBorrow l D K y _ _ r h) (SWe_y D K b t x y α _) gX3_doBookCommand_X1_tryBorrow rfl (by decide +kernel) ⟨Nat.le_of_ble_eq_true rfl, Nat.le_of_ble_eq_true rfl, rfl, rfl⟩ 9 (LWg_9 K y _) rfl rfl rfl (Nat.le_of_ble_eq_true rfl) dX3_doBookCommand_42 (fun r5 _ => ?_)
    refine g_state (fun u6 => ?_)
    refine g_bool C (fun h9 => ?_)
    exact g_ret C ⟨dX3_doBookCommand_45, rfl, rfl, h9⟩
  refine g_tcase C 46 (2 : Int32) dX3_doBookCommand_1 (by decide) (by decide) rfl (by decide) (fun _ => ?_) (fun h7 => ?_)
  · refine g_aload_n C 0 dX3_doBookCommand_46 rfl rfl ?_
    refine g_get C (fun _ h => List.mem_cons_of_mem _ (List.mem_append_left _ (List.mem_append_right _ h))) 0 (SWg_0 K b t x y α _) rfl 2 (by decide) (List.mem_of_getElem? (i := 1) rfl) rfl rfl dX3_doBookCommand_47 ?_
    refine g_iload_n C 1 dX3_doBookCommand_50 rfl rfl ?_
    refine g_callVi C (n := 1) (As := [.int p1]) (rest := []) (fun r h => mX1_tryBringBack l D K y _ _ r h) (SWe_y D K b t x y α _) gX3_doBookCommand_X1_tryBringBack rfl (by decide +kernel) ⟨Nat.le_of_ble_eq_true rfl, Nat.le_of_ble_eq_true rfl, rfl, rfl⟩ 9 (LWg_9 K y _) rfl rfl rfl (Nat.le_of_ble_eq_true rfl) dX3_doBookCommand_51 (fun r8 _ => ?_)
    refine g_state (fun u9 => ?_)
    refine g_bool C (fun h9 => ?_)
    exact g_ret C ⟨dX3_doBookCommand_54, rfl, rfl, h9⟩
  refine g_tdef2 C 55 [0, 1, 2] dX3_doBookCommand_1 (List.forall_mem_cons.mpr ⟨i32nz h1 (by decide), (List.forall_mem_cons.mpr ⟨i32nz h4 (by decide), (List.forall_mem_cons.mpr ⟨i32nz h7 (by decide), (fun _ h9 => absurd h9 List.not_mem_nil)⟩)⟩)⟩) (by decide) (by decide) (by decide) ?_
  refine g_iconst C (v := (0 : Int32)) dX3_doBookCommand_55 ic_0 ?_
  exact g_ret C ⟨dX3_doBookCommand_56, rfl, rfl, Or.inl rfl⟩
set_option maxHeartbeats 4000000 in
set_option maxRecDepth 100000 in
theorem mX3_doScriptCommand (l : Launch) (D : va_G) (K : Nat → ClassId) (b t x y : Nat → Nat) (α : Nat → Nat → Nat) (σ : ST) (p1 : Int32) (r : (Int32 × ST)) (hf : fX3_doScriptCommand σ p1 = some r) : gMi l yX3_doScriptCommand wsX3_doScriptCommand { frames := 6, cells := 0, slots := 0, locals := 136 } D (gT K) (SW K b t x y α) [.ref (b 0), .int p1] σ r := by
  refine mk_z (nL := 8) (cc := cX3_doScriptCommand) (by decide) rfl (Nat.le_of_ble_eq_true rfl) rfl rfl hf (fun g C => ?_)
  refine g_sub C (lv' := [(0, .ref (b 0)), (1, .int p1)]) [0, 1] rfl ?_
  unfold fX3_doScriptCommand
  have h_181 : ∀ (σ : ST) (s1 : Int32) (s2 : Int32) (s3 : Int32), g (fX3_doScriptCommand_L181 σ s1 s2 s3) 181 [] [.int s3, .int s2, .int s1, .ref (y 9)] σ := by
    intro σ s1 s2 s3
    unfold fX3_doScriptCommand_L181
    refine g_callVi C (n := 3) (As := [.int s1, .int s2, .int s3]) (rest := []) (fun r h => mX1_tryWalk l D K y _ _ _ _ r h) (SWe_y D K b t x y α _) gX3_doScriptCommand_X1_tryWalk rfl (by decide +kernel) ⟨Nat.le_of_ble_eq_true rfl, Nat.le_of_ble_eq_true rfl, rfl, rfl⟩ 9 (LWg_9 K y _) rfl rfl rfl (Nat.le_of_ble_eq_true rfl) dX3_doScriptCommand_181 (fun r1 _ => ?_)
    refine g_state (fun u2 => ?_)
    refine g_if_eq C 191 dX3_doScriptCommand_184 (by decide) (fun _ => ?_) (fun _ => ?_)
    · refine g_iconst C (v := (0 : Int32)) dX3_doScriptCommand_191 ic_0 ?_
      exact g_ret C ⟨dX3_doScriptCommand_192, rfl, rfl, Or.inl rfl⟩
    · refine g_iconst C (v := (1 : Int32)) dX3_doScriptCommand_187 ic_1 ?_
      refine g_goto C 192 dX3_doScriptCommand_188 (by decide) ?_
      exact g_ret C ⟨dX3_doScriptCommand_192, rfl, rfl, Or.inr rfl⟩
  refine g_iload_n C 1 dX3_doScriptCommand_0 rfl rfl ?_
  refine g_sipush C (v := (1000 : Int32)) dX3_doScriptCommand_1 (by decide) ?_
  refine g_idiv C dX3_doScriptCommand_4 (by decide) ?_
  refine g_bipush C (v := (10 : Int32)) dX3_doScriptCommand_5 (by decide) ?_
  refine g_irem C dX3_doScriptCommand_7 (by decide) ?_
  refine g_topi (fun t3 => ?_)
  refine g_istore_n C (lv' := [(2, .int t3), (0, .ref (b 0)), (1, .int p1)]) dX3_doScriptCommand_8 rfl (by decide) rfl ?_
  refine g_iload_n C 2 dX3_doScriptCommand_9 rfl rfl ?_
  refine g_bipush C (v := (100 : Int32)) dX3_doScriptCommand_10 (by decide) ?_
  refine g_idiv C dX3_doScriptCommand_12 (by decide) ?_
  refine g_bipush C (v := (10 : Int32)) dX3_doScriptCommand_13 (by decide) ?_
  refine g_irem C dX3_doScriptCommand_15 (by decide) ?_
  refine g_topi (fun t4 => ?_)
  refine g_istore_n C (lv' := [(3, .int t4), (2, .int t3), (0, .ref (b 0)), (1, .int p1)]) dX3_doScriptCommand_16 rfl (by decide) rfl ?_
  refine g_iload_n C 3 dX3_doScriptCommand_17 rfl rfl ?_
  refine g_bipush C (v := (10 : Int32)) dX3_doScriptCommand_18 (by decide) ?_
  refine g_idiv C dX3_doScriptCommand_20 (by decide) ?_
  refine g_bipush C (v := (10 : Int32)) dX3_doScriptCommand_21 (by decide) ?_
  refine g_irem C dX3_doScriptCommand_23 (by decide) ?_
  refine g_topi (fun t5 => ?_)
  refine g_istore C (lv' := [(4, .int t5), (3, .int t4), (2, .int t3), (0, .ref (b 0)), (1, .int p1)]) dX3_doScriptCommand_24 (by decide) rfl ?_
  refine g_iload_n C 4 dX3_doScriptCommand_26 rfl rfl ?_
  refine g_bipush C (v := (10 : Int32)) dX3_doScriptCommand_27 (by decide) ?_
  refine g_irem C dX3_doScriptCommand_29 (by decide) ?_
  refine g_topi (fun t6 => ?_)
  refine g_istore C (lv' := [(5, .int t6), (4, .int t5), (3, .int t4), (2, .int t3), (0, .ref (b 0)), (1, .int p1)]) dX3_doScriptCommand_30 (by decide) rfl ?_
  refine g_bipush C (v := (10 : Int32)) dX3_doScriptCommand_32 (by decide) ?_
  refine g_iload_n C 2 dX3_doScriptCommand_34 rfl rfl ?_
  refine g_imul C dX3_doScriptCommand_35 ?_
  refine g_iload C 1 dX3_doScriptCommand_36 rfl ?_
  refine g_iadd C dX3_doScriptCommand_38 ?_
  refine g_topi (fun t7 => ?_)
  refine g_istore C (lv' := [(6, .int t7), (5, .int t6), (4, .int t5), (3, .int t4), (2, .int t3), (0, .ref (b 0)), (1, .int p1)]) dX3_doScriptCommand_39 (by decide) rfl ?_
  refine g_bipush C (v := (10 : Int32)) dX3_doScriptCommand_41 (by decide) ?_
  refine g_iload C 2 dX3_doScriptCommand_43 rfl ?_
  refine g_imul C dX3_doScriptCommand_45 ?_
  refine g_iload C 1 dX3_doScriptCommand_46 rfl ?_
  refine g_iadd C dX3_doScriptCommand_48 ?_
  refine g_topi (fun t8 => ?_)
  refine g_istore C (lv' := [(7, .int t8), (6, .int t7), (5, .int t6), (4, .int t5), (3, .int t4), (2, .int t3), (0, .ref (b 0)), (1, .int p1)]) dX3_doScriptCommand_49 (by decide) rfl ?_
  refine g_iload_n C 7 dX3_doScriptCommand_51 rfl rfl ?_
  refine g_sipush C (v := (10000 : Int32)) dX3_doScriptCommand_52 (by decide) ?_
  refine g_idiv C dX3_doScriptCommand_55 (by decide) ?_
  refine g_topi (fun t9 => ?_)
  refine g_tcase C 108 (1 : Int32) dX3_doScriptCommand_56 (by decide) (by decide) rfl (by decide) (fun _ => ?_) (fun h10 => ?_)
  · refine g_iload C 2 dX3_doScriptCommand_108 rfl ?_
    refine g_if_ne C 130 dX3_doScriptCommand_110 (by decide) (fun _ => ?_) (fun _ => ?_)
    · refine g_aload_n C 6 dX3_doScriptCommand_113 rfl rfl ?_
      refine g_get C (fun _ h => List.mem_cons_of_mem _ (List.mem_append_left _ (List.mem_append_left _ (List.mem_append_right _ h)))) 0 (SWg_0 K b t x y α _) rfl 2 (by decide) (List.mem_of_getElem? (i := 1) rfl) rfl rfl dX3_doScriptCommand_114 ?_
      refine g_iload_n C 5 dX3_doScriptCommand_117 rfl rfl ?_
      refine g_iload C 1 dX3_doScriptCommand_118 rfl ?_
      refine g_callVi C (n := 2) (As := [.int t3, .int t7]) (rest := []) (fun r h => mX1_tryTake l D K y _ _ _ r h) (SWe_y D K b t x y α _) gX3_doScriptCommand_X1_tryTake rfl (by decide +kernel) ⟨Nat.le_of_ble_eq_true rfl, Nat.le_of_ble_eq_true rfl, rfl, rfl⟩ 9 (LWg_9 K y _) rfl rfl rfl (Nat.le_of_ble_eq_true rfl) dX3_doScriptCommand_120 (fun r11 _ => ?_)
      refine g_state (fun u12 => ?_)
      refine g_if_eq C 130 dX3_doScriptCommand_123 (by decide) (fun _ => ?_) (fun _ => ?_)
      · refine g_iconst C (v := (0 : Int32)) dX3_doScriptCommand_130 ic_0 ?_
        exact g_ret C ⟨dX3_doScriptCommand_131, rfl, rfl, Or.inl rfl⟩
      · refine g_iconst C (v := (1 : Int32)) dX3_doScriptCommand_126 ic_1 ?_
        refine g_goto C 131 dX3_doScriptCommand_127 (by decide) ?_
        exact g_ret C ⟨dX3_doScriptCommand_131, rfl, rfl, Or.inr rfl⟩
    · refine g_iconst C (v := (0 : Int32)) dX3_doScriptCommand_130 ic_0 ?_
      exact g_ret C ⟨dX3_doScriptCommand_131, rfl, rfl, Or.inl rfl⟩
  refine g_tcase C 132 (2 : Int32) dX3_doScriptCommand_56 (by decide) (by decide) rfl (by decide) (fun _ => ?_) (fun h13 => ?_)
  · refine g_iload_n C 5 dX3_doScriptCommand_132 rfl rfl ?_
    refine g_if_ne C 151 dX3_doScriptCommand_133 (by decide) (fun _ => ?_) (fun _ => ?_)
    · refine g_aload_n C 6 dX3_doScriptCommand_136 rfl rfl ?_
      refine g_iload C 1 dX3_doScriptCommand_137 rfl ?_
      refine g_iload C 2 dX3_doScriptCommand_139 rfl ?_
      refine g_callVi C (n := 2) (As := [.int t7, .int t6]) (rest := []) (fun r h => mX3_doBookCommand l D K b t x y α _ _ _ r h) gE.same gX3_doScriptCommand_X3_doBookCommand rfl (by decide +kernel) ⟨Nat.le_of_ble_eq_true rfl, Nat.le_of_ble_eq_true rfl, rfl, rfl⟩ 0 (SWg_0 K b t x y α _) rfl rfl rfl (Nat.le_of_ble_eq_true rfl) dX3_doScriptCommand_141 (fun r14 _ => ?_)
      refine g_if_eq C 151 dX3_doScriptCommand_144 (by decide) (fun _ => ?_) (fun _ => ?_)
      · refine g_iconst C (v := (0 : Int32)) dX3_doScriptCommand_151 ic_0 ?_
        exact g_ret C ⟨dX3_doScriptCommand_152, rfl, rfl, Or.inl rfl⟩
      · refine g_iconst C (v := (1 : Int32)) dX3_doScriptCommand_147 ic_1 ?_
        refine g_goto C 152 dX3_doScriptCommand_148 (by decide) ?_
        exact g_ret C ⟨dX3_doScriptCommand_152, rfl, rfl, Or.inr rfl⟩
    · refine g_iconst C (v := (0 : Int32)) dX3_doScriptCommand_151 ic_0 ?_
      exact g_ret C ⟨dX3_doScriptCommand_152, rfl, rfl, Or.inl rfl⟩
  refine g_tcase C 153 (3 : Int32) dX3_doScriptCommand_56 (by decide) (by decide) rfl (by decide) (fun _ => ?_) (fun h15 => ?_)
  · refine g_iload C 3 dX3_doScriptCommand_153 rfl ?_
    refine g_iconst C (v := (1 : Int32)) dX3_doScriptCommand_155 ic_1 ?_
    refine g_icmp_gt C 191 dX3_doScriptCommand_156 (by decide) (fun _ => ?_) (fun _ => ?_)
    · refine g_iconst C (v := (0 : Int32)) dX3_doScriptCommand_191 ic_0 ?_
      exact g_ret C ⟨dX3_doScriptCommand_192, rfl, rfl, Or.inl rfl⟩
    · refine g_iload C 2 dX3_doScriptCommand_159 rfl ?_
      refine g_if_ne C 191 dX3_doScriptCommand_161 (by decide) (fun _ => ?_) (fun _ => ?_)
      · refine g_aload_n C 6 dX3_doScriptCommand_164 rfl rfl ?_
        refine g_get C (fun _ h => List.mem_cons_of_mem _ (List.mem_append_left _ (List.mem_append_left _ (List.mem_append_right _ h)))) 0 (SWg_0 K b t x y α _) rfl 2 (by decide) (List.mem_of_getElem? (i := 1) rfl) rfl rfl dX3_doScriptCommand_165 ?_
        refine g_iload_n C 5 dX3_doScriptCommand_168 rfl rfl ?_
        refine g_iload_n C 4 dX3_doScriptCommand_169 rfl rfl ?_
        refine g_iload C 3 dX3_doScriptCommand_170 rfl ?_
        refine g_iconst C (v := (1 : Int32)) dX3_doScriptCommand_172 ic_1 ?_
        refine g_icmp_ne C 180 dX3_doScriptCommand_173 (by decide) (fun _ => ?_) (fun _ => ?_)
        · refine g_iconst C (v := (1 : Int32)) dX3_doScriptCommand_176 ic_1 ?_
          refine g_goto C 181 dX3_doScriptCommand_177 (by decide) ?_
          refine g_sub C (lv' := []) [] rfl ?_
          exact h_181 σ t3 t4 (1 : Int32)
        · refine g_iconst C (v := (0 : Int32)) dX3_doScriptCommand_180 ic_0 ?_
          refine g_sub C (lv' := []) [] rfl ?_
          exact h_181 σ t3 t4 (0 : Int32)
      · refine g_iconst C (v := (0 : Int32)) dX3_doScriptCommand_191 ic_0 ?_
        exact g_ret C ⟨dX3_doScriptCommand_192, rfl, rfl, Or.inl rfl⟩
  refine g_tcase C 193 (4 : Int32) dX3_doScriptCommand_56 (by decide) (by decide) rfl (by decide) (fun _ => ?_) (fun h16 => ?_)
  · refine g_iload_n C 4 dX3_doScriptCommand_193 rfl rfl ?_
    refine g_if_ne C 217 dX3_doScriptCommand_194 (by decide) (fun _ => ?_) (fun _ => ?_)
    · refine g_iload C 0 dX3_doScriptCommand_197 rfl ?_
      refine g_if_ne C 217 dX3_doScriptCommand_199 (by decide) (fun _ => ?_) (fun _ => ?_)
      · refine g_aload_n C 6 dX3_doScriptCommand_202 rfl rfl ?_
        refine g_get C (fun _ h => List.mem_cons_of_mem _ (List.mem_append_left _ (List.mem_append_left _ (List.mem_append_right _ h)))) 0 (SWg_0 K b t x y α _) rfl 2 (by decide) (List.mem_of_getElem? (i := 1) rfl) rfl rfl dX3_doScriptCommand_203 ?_
        refine g_iload_n C 5 dX3_doScriptCommand_206 rfl rfl ?_
        refine g_callVi C (n := 1) (As := [.int t3]) (rest := []) (fun r h => mX1_tryTurn l D K y _ _ r h) (SWe_y D K b t x y α _) gX3_doScriptCommand_X1_tryTurn rfl (by decide +kernel) ⟨Nat.le_of_ble_eq_true rfl, Nat.le_of_ble_eq_true rfl, rfl, rfl⟩ 9 (LWg_9 K y _) rfl rfl rfl (Nat.le_of_ble_eq_true rfl) dX3_doScriptCommand_207 (fun r17 _ => ?_)
        refine g_state (fun u18 => ?_)
        refine g_if_eq C 217 dX3_doScriptCommand_210 (by decide) (fun _ => ?_) (fun _ => ?_)
        · refine g_iconst C (v := (0 : Int32)) dX3_doScriptCommand_217 ic_0 ?_
          exact g_ret C ⟨dX3_doScriptCommand_218, rfl, rfl, Or.inl rfl⟩
        · refine g_iconst C (v := (1 : Int32)) dX3_doScriptCommand_213 ic_1 ?_
          refine g_goto C 218 dX3_doScriptCommand_214 (by decide) ?_
          exact g_ret C ⟨dX3_doScriptCommand_218, rfl, rfl, Or.inr rfl⟩
      · refine g_iconst C (v := (0 : Int32)) dX3_doScriptCommand_217 ic_0 ?_
        exact g_ret C ⟨dX3_doScriptCommand_218, rfl, rfl, Or.inl rfl⟩
    · refine g_iconst C (v := (0 : Int32)) dX3_doScriptCommand_217 ic_0 ?_
      exact g_ret C ⟨dX3_doScriptCommand_218, rfl, rfl, Or.inl rfl⟩
  refine g_tcase C 219 (5 : Int32) dX3_doScriptCommand_56 (by decide) (by decide) rfl (by decide) (fun _ => ?_) (fun h19 => ?_)
  · refine g_iload_n C 5 dX3_doScriptCommand_219 rfl rfl ?_
    refine g_if_ne C 235 dX3_doScriptCommand_220 (by decide) (fun _ => ?_) (fun _ => ?_)
    · refine g_iload_n C 4 dX3_doScriptCommand_223 rfl rfl ?_
      refine g_if_ne C 235 dX3_doScriptCommand_224 (by decide) (fun _ => ?_) (fun _ => ?_)
      · refine g_iload C 0 dX3_doScriptCommand_227 rfl ?_
        refine g_callSi C (n := 1) (As := [.int t8]) (rest := []) (fun r h => mX3_isTickNumber l D K _ r h) gE.nil (τ := ()) gX3_doScriptCommand_X3_isTickNumber rfl (by decide +kernel) ⟨Nat.le_of_ble_eq_true rfl, Nat.le_of_ble_eq_true rfl, rfl, rfl⟩ rfl rfl (Nat.le_of_ble_eq_true rfl) dX3_doScriptCommand_229 (fun r20 _ => ?_)
        refine g_if_ne C 237 dX3_doScriptCommand_232 (by decide) (fun _ => ?_) (fun _ => ?_)
        · refine g_iconst C (v := (0 : Int32)) dX3_doScriptCommand_235 ic_0 ?_
          exact g_ret C ⟨dX3_doScriptCommand_236, rfl, rfl, Or.inl rfl⟩
        · refine g_aload_n C 6 dX3_doScriptCommand_237 rfl rfl ?_
          refine g_get C (fun _ h => List.mem_cons_of_mem _ (List.mem_append_left _ (List.mem_append_left _ (List.mem_append_right _ h)))) 0 (SWg_0 K b t x y α _) rfl 2 (by decide) (List.mem_of_getElem? (i := 1) rfl) rfl rfl dX3_doScriptCommand_238 ?_
          refine g_iload C 0 dX3_doScriptCommand_241 rfl ?_
          refine g_callVi C (n := 1) (As := [.int t8]) (rest := []) (fun r h => mX1_passTicks l D K y _ _ r h) (SWe_y D K b t x y α _) gX3_doScriptCommand_X1_passTicks rfl (by decide +kernel) ⟨Nat.le_of_ble_eq_true rfl, Nat.le_of_ble_eq_true rfl, rfl, rfl⟩ 9 (LWg_9 K y _) rfl rfl rfl (Nat.le_of_ble_eq_true rfl) dX3_doScriptCommand_243 (fun r21 _ => ?_)
          refine g_state (fun u22 => ?_)
          refine g_pop C dX3_doScriptCommand_246 rfl ?_
          refine g_iconst C (v := (1 : Int32)) dX3_doScriptCommand_247 ic_1 ?_
          exact g_ret C ⟨dX3_doScriptCommand_248, rfl, rfl, Or.inr rfl⟩
      · refine g_iconst C (v := (0 : Int32)) dX3_doScriptCommand_235 ic_0 ?_
        exact g_ret C ⟨dX3_doScriptCommand_236, rfl, rfl, Or.inl rfl⟩
    · refine g_iconst C (v := (0 : Int32)) dX3_doScriptCommand_235 ic_0 ?_
      exact g_ret C ⟨dX3_doScriptCommand_236, rfl, rfl, Or.inl rfl⟩
  refine g_tcase C 249 (6 : Int32) dX3_doScriptCommand_56 (by decide) (by decide) rfl (by decide) (fun _ => ?_) (fun h23 => ?_)
  · refine g_iload_n C 5 dX3_doScriptCommand_249 rfl rfl ?_
    refine g_if_ne C 285 dX3_doScriptCommand_250 (by decide) (fun _ => ?_) (fun _ => ?_)
    · refine g_iload C 1 dX3_doScriptCommand_253 rfl ?_
      refine g_callSi C (n := 1) (As := [.int t7]) (rest := []) (fun r h => mX3_isBook l D K _ r h) gE.nil (τ := ()) gX3_doScriptCommand_X3_isBook rfl (by decide +kernel) ⟨Nat.le_of_ble_eq_true rfl, Nat.le_of_ble_eq_true rfl, rfl, rfl⟩ rfl rfl (Nat.le_of_ble_eq_true rfl) dX3_doScriptCommand_255 (fun r24 _ => ?_)
      refine g_if_eq C 285 dX3_doScriptCommand_258 (by decide) (fun _ => ?_) (fun _ => ?_)
      · refine g_iconst C (v := (0 : Int32)) dX3_doScriptCommand_285 ic_0 ?_
        exact g_ret C ⟨dX3_doScriptCommand_286, rfl, rfl, Or.inl rfl⟩
      · refine g_aload_n C 6 dX3_doScriptCommand_261 rfl rfl ?_
        refine g_get C (fun _ h => List.mem_cons_of_mem _ (List.mem_append_left _ (List.mem_append_left _ (List.mem_append_right _ h)))) 0 (SWg_0 K b t x y α _) rfl 2 (by decide) (List.mem_of_getElem? (i := 1) rfl) rfl rfl dX3_doScriptCommand_262 ?_
        refine g_get C (fun _ h => List.mem_cons_of_mem _ (List.mem_append_left _ (List.mem_append_right _ h))) 33 (SWg_33 K b t x y α _) rfl 9 (by decide) (List.mem_of_getElem? (i := 2) rfl) rfl rfl dX3_doScriptCommand_265 ?_
        refine g_iload C 1 dX3_doScriptCommand_268 rfl ?_
        refine g_callSi C (n := 2) (As := [.int (σ.2.2.2.1 9 9), .int t7]) (rest := []) (fun r h => mX3_has l D K _ _ r h) gE.nil (τ := ()) gX3_doScriptCommand_X3_has rfl (by decide +kernel) ⟨Nat.le_of_ble_eq_true rfl, Nat.le_of_ble_eq_true rfl, rfl, rfl⟩ rfl rfl (Nat.le_of_ble_eq_true rfl) dX3_doScriptCommand_270 (fun r25 _ => ?_)
        refine g_callSi C (n := 1) (As := [.int r25.1]) (rest := []) (fun r h => mX3_oneIf l D K _ r h) gE.nil (τ := ()) gX3_doScriptCommand_X3_oneIf rfl (by decide +kernel) ⟨Nat.le_of_ble_eq_true rfl, Nat.le_of_ble_eq_true rfl, rfl, rfl⟩ rfl rfl (Nat.le_of_ble_eq_true rfl) dX3_doScriptCommand_273 (fun r26 _ => ?_)
        refine g_iload C 2 dX3_doScriptCommand_276 rfl ?_
        refine g_icmp_ne C 285 dX3_doScriptCommand_278 (by decide) (fun _ => ?_) (fun _ => ?_)
        · refine g_iconst C (v := (1 : Int32)) dX3_doScriptCommand_281 ic_1 ?_
          refine g_goto C 286 dX3_doScriptCommand_282 (by decide) ?_
          exact g_ret C ⟨dX3_doScriptCommand_286, rfl, rfl, Or.inr rfl⟩
        · refine g_iconst C (v := (0 : Int32)) dX3_doScriptCommand_285 ic_0 ?_
          exact g_ret C ⟨dX3_doScriptCommand_286, rfl, rfl, Or.inl rfl⟩
    · refine g_iconst C (v := (0 : Int32)) dX3_doScriptCommand_285 ic_0 ?_
      exact g_ret C ⟨dX3_doScriptCommand_286, rfl, rfl, Or.inl rfl⟩
  refine g_tcase C 287 (7 : Int32) dX3_doScriptCommand_56 (by decide) (by decide) rfl (by decide) (fun _ => ?_) (fun h27 => ?_)
  · refine g_iload_n C 4 dX3_doScriptCommand_287 rfl rfl ?_
    refine g_if_ne C 321 dX3_doScriptCommand_288 (by decide) (fun _ => ?_) (fun _ => ?_)
    · refine g_iload C 3 dX3_doScriptCommand_291 rfl ?_
      refine g_if_ne C 321 dX3_doScriptCommand_293 (by decide) (fun _ => ?_) (fun _ => ?_)
      · refine g_iload_n C 5 dX3_doScriptCommand_296 rfl rfl ?_
        refine g_callSi C (n := 1) (As := [.int t3]) (rest := []) (fun r h => mX3_isVisitor l D K _ r h) gE.nil (τ := ()) gX3_doScriptCommand_X3_isVisitor rfl (by decide +kernel) ⟨Nat.le_of_ble_eq_true rfl, Nat.le_of_ble_eq_true rfl, rfl, rfl⟩ rfl rfl (Nat.le_of_ble_eq_true rfl) dX3_doScriptCommand_297 (fun r28 _ => ?_)
        refine g_if_eq C 321 dX3_doScriptCommand_300 (by decide) (fun _ => ?_) (fun _ => ?_)
        · refine g_iconst C (v := (0 : Int32)) dX3_doScriptCommand_321 ic_0 ?_
          exact g_ret C ⟨dX3_doScriptCommand_322, rfl, rfl, Or.inl rfl⟩
        · refine g_aload_n C 6 dX3_doScriptCommand_303 rfl rfl ?_
          refine g_get C (fun _ h => List.mem_cons_of_mem _ (List.mem_append_left _ (List.mem_append_left _ (List.mem_append_right _ h)))) 0 (SWg_0 K b t x y α _) rfl 2 (by decide) (List.mem_of_getElem? (i := 1) rfl) rfl rfl dX3_doScriptCommand_304 ?_
          refine g_get C (fun _ h => List.mem_cons_of_mem _ (List.mem_append_left _ (List.mem_append_right _ h))) 33 (SWg_33 K b t x y α _) rfl 2 (by decide) (List.mem_of_getElem? (i := 3) rfl) rfl rfl dX3_doScriptCommand_307 ?_
          refine g_iload_n C 5 dX3_doScriptCommand_310 rfl rfl ?_
          refine g_ialdG C 35 0 (SWg_35 K b t x y α _) rfl dX3_doScriptCommand_311 ?_
          refine g_iload C 2 dX3_doScriptCommand_312 rfl ?_
          refine g_icmp_ne C 321 dX3_doScriptCommand_314 (by decide) (fun _ => ?_) (fun _ => ?_)
          · refine g_iconst C (v := (1 : Int32)) dX3_doScriptCommand_317 ic_1 ?_
            refine g_goto C 322 dX3_doScriptCommand_318 (by decide) ?_
            exact g_ret C ⟨dX3_doScriptCommand_322, rfl, rfl, Or.inr rfl⟩
          · refine g_iconst C (v := (0 : Int32)) dX3_doScriptCommand_321 ic_0 ?_
            exact g_ret C ⟨dX3_doScriptCommand_322, rfl, rfl, Or.inl rfl⟩
      · refine g_iconst C (v := (0 : Int32)) dX3_doScriptCommand_321 ic_0 ?_
        exact g_ret C ⟨dX3_doScriptCommand_322, rfl, rfl, Or.inl rfl⟩
    · refine g_iconst C (v := (0 : Int32)) dX3_doScriptCommand_321 ic_0 ?_
      exact g_ret C ⟨dX3_doScriptCommand_322, rfl, rfl, Or.inl rfl⟩
  refine g_tcase C 323 (8 : Int32) dX3_doScriptCommand_56 (by decide) (by decide) rfl (by decide) (fun _ => ?_) (fun h29 => ?_)
  · refine g_iload_n C 5 dX3_doScriptCommand_323 rfl rfl ?_
    refine g_if_ne C 347 dX3_doScriptCommand_324 (by decide) (fun _ => ?_) (fun _ => ?_)
    · refine g_iload_n C 4 dX3_doScriptCommand_327 rfl rfl ?_
      refine g_if_ne C 347 dX3_doScriptCommand_328 (by decide) (fun _ => ?_) (fun _ => ?_)
      · refine g_aload_n C 6 dX3_doScriptCommand_331 rfl rfl ?_
        refine g_get C (fun _ h => List.mem_cons_of_mem _ (List.mem_append_left _ (List.mem_append_left _ (List.mem_append_right _ h)))) 0 (SWg_0 K b t x y α _) rfl 2 (by decide) (List.mem_of_getElem? (i := 1) rfl) rfl rfl dX3_doScriptCommand_332 ?_
        refine g_get C (fun _ h => List.mem_cons_of_mem _ (List.mem_append_left _ (List.mem_append_right _ h))) 33 (SWg_33 K b t x y α _) rfl 13 (by decide) (List.mem_of_getElem? (i := 4) rfl) rfl rfl dX3_doScriptCommand_335 ?_
        refine g_iload C 0 dX3_doScriptCommand_338 rfl ?_
        refine g_icmp_gt C 347 dX3_doScriptCommand_340 (by decide) (fun _ => ?_) (fun _ => ?_)
        · refine g_iconst C (v := (0 : Int32)) dX3_doScriptCommand_347 ic_0 ?_
          exact g_ret C ⟨dX3_doScriptCommand_348, rfl, rfl, Or.inl rfl⟩
        · refine g_iconst C (v := (1 : Int32)) dX3_doScriptCommand_343 ic_1 ?_
          refine g_goto C 348 dX3_doScriptCommand_344 (by decide) ?_
          exact g_ret C ⟨dX3_doScriptCommand_348, rfl, rfl, Or.inr rfl⟩
      · refine g_iconst C (v := (0 : Int32)) dX3_doScriptCommand_347 ic_0 ?_
        exact g_ret C ⟨dX3_doScriptCommand_348, rfl, rfl, Or.inl rfl⟩
    · refine g_iconst C (v := (0 : Int32)) dX3_doScriptCommand_347 ic_0 ?_
      exact g_ret C ⟨dX3_doScriptCommand_348, rfl, rfl, Or.inl rfl⟩
  refine g_tcase C 349 (9 : Int32) dX3_doScriptCommand_56 (by decide) (by decide) rfl (by decide) (fun _ => ?_) (fun h30 => ?_)
  · refine g_iload_n C 5 dX3_doScriptCommand_349 rfl rfl ?_
    refine g_if_ne C 376 dX3_doScriptCommand_350 (by decide) (fun _ => ?_) (fun _ => ?_)
    · refine g_iload_n C 4 dX3_doScriptCommand_353 rfl rfl ?_
      refine g_if_ne C 376 dX3_doScriptCommand_354 (by decide) (fun _ => ?_) (fun _ => ?_)
      · refine g_aload_n C 6 dX3_doScriptCommand_357 rfl rfl ?_
        refine g_get C (fun _ h => List.mem_cons_of_mem _ (List.mem_append_left _ (List.mem_append_left _ (List.mem_append_right _ h)))) 0 (SWg_0 K b t x y α _) rfl 2 (by decide) (List.mem_of_getElem? (i := 1) rfl) rfl rfl dX3_doScriptCommand_358 ?_
        refine g_get C (fun _ h => List.mem_cons_of_mem _ (List.mem_append_left _ (List.mem_append_right _ h))) 33 (SWg_33 K b t x y α _) rfl 0 (by decide) (List.mem_of_getElem? (i := 5) rfl) rfl rfl dX3_doScriptCommand_361 ?_
        refine g_callVi C (n := 0) (As := []) (rest := []) (fun r h => mX0_shoutCount l D K y _ r h) (SWe_y D K b t x y α _) gX3_doScriptCommand_X0_shoutCount rfl (by decide +kernel) ⟨Nat.le_of_ble_eq_true rfl, Nat.le_of_ble_eq_true rfl, rfl, rfl⟩ 0 (LWg_0 K y _) rfl rfl rfl (Nat.le_of_ble_eq_true rfl) dX3_doScriptCommand_364 (fun r31 _ => ?_)
        refine g_state (fun u32 => ?_)
        refine g_iload C 0 dX3_doScriptCommand_367 rfl ?_
        refine g_icmp_lt C 376 dX3_doScriptCommand_369 (by decide) (fun _ => ?_) (fun _ => ?_)
        · refine g_iconst C (v := (0 : Int32)) dX3_doScriptCommand_376 ic_0 ?_
          exact g_ret C ⟨dX3_doScriptCommand_377, rfl, rfl, Or.inl rfl⟩
        · refine g_iconst C (v := (1 : Int32)) dX3_doScriptCommand_372 ic_1 ?_
          refine g_goto C 377 dX3_doScriptCommand_373 (by decide) ?_
          exact g_ret C ⟨dX3_doScriptCommand_377, rfl, rfl, Or.inr rfl⟩
      · refine g_iconst C (v := (0 : Int32)) dX3_doScriptCommand_376 ic_0 ?_
        exact g_ret C ⟨dX3_doScriptCommand_377, rfl, rfl, Or.inl rfl⟩
    · refine g_iconst C (v := (0 : Int32)) dX3_doScriptCommand_376 ic_0 ?_
      exact g_ret C ⟨dX3_doScriptCommand_377, rfl, rfl, Or.inl rfl⟩
  refine g_tdef2 C 378 [1, 2, 3, 4, 5, 6, 7, 8, 9] dX3_doScriptCommand_56 (List.forall_mem_cons.mpr ⟨i32nz h10 (by decide), (List.forall_mem_cons.mpr ⟨i32nz h13 (by decide), (List.forall_mem_cons.mpr ⟨i32nz h15 (by decide), (List.forall_mem_cons.mpr ⟨i32nz h16 (by decide), (List.forall_mem_cons.mpr ⟨i32nz h19 (by decide), (List.forall_mem_cons.mpr ⟨i32nz h23 (by decide), (List.forall_mem_cons.mpr ⟨i32nz h27 (by decide), (List.forall_mem_cons.mpr ⟨i32nz h29 (by decide), (List.forall_mem_cons.mpr ⟨i32nz h30 (by decide), (fun _ h9 => absurd h9 List.not_mem_nil)⟩)⟩)⟩)⟩)⟩)⟩)⟩)⟩)⟩) (by decide) (by decide) (by decide) ?_
  refine g_iconst C (v := (0 : Int32)) dX3_doScriptCommand_378 ic_0 ?_
  exact g_ret C ⟨dX3_doScriptCommand_379, rfl, rfl, Or.inl rfl⟩
set_option maxHeartbeats 4000000 in
set_option maxRecDepth 100000 in
theorem mX3_runScript (l : Launch) (D : va_G) (K : Nat → ClassId) (b t x y : Nat → Nat) (α : Nat → Nat → Nat) (σ : ST) (p1 : Int32) (p2 : Int64) (r : ((Nat × ST) ⊕ (Int32 × ST))) (hfl : l.stackTraces = false) (hf : fX3_runScript σ p1 p2 = some r) : gMx l yX3_runScript wsX3_runScript 7 163 D (gT K) (SW K b t x y α) [.ref (b 0), .int p1, .long p2] σ r := by
  refine mk_x (nL := 6) (cc := cX3_runScript) hfl (by decide) rfl (Nat.le_of_ble_eq_true rfl) hf (fun ce sl g CX => ?_)
  have C := CX.C
  refine g_sub C (lv' := [(0, .ref (b 0)), (1, .int p1), (2, .long p2)]) [0, 1, 2] rfl ?_
  unfold fX3_runScript
  have h_51 : ∀ (n : Nat) (σ : ST) (v1 : Int32) (v2 : Int64) (v4 : Int32), g (fX3_runScript_L51 n σ v1 v2 v4) 51 [(0, .ref (b 0)), (1, .int v1), (2, .long v2), (4, .int v4)] [] σ := by
    intro n
    induction n with
    | zero =>
      intro σ v1 v2 v4
      exact g_none C
    | succ n51 ih_51 =>
      intro σ v1 v2 v4
      unfold fX3_runScript_L51
      refine g_iload C 3 dX3_runScript_51 rfl ?_
      refine g_iload_n C 1 dX3_runScript_53 rfl rfl ?_
      refine g_icmp_ge C 92 dX3_runScript_54 (by decide) (fun _ => ?_) (fun _ => ?_)
      · refine g_bipush C (v := (-9 : Int32)) dX3_runScript_92 (by decide) ?_
        exact g_ret C ⟨_, rfl, dX3_runScript_94, rfl⟩
      · refine g_lload_n C 2 dX3_runScript_57 rfl rfl ?_
        refine g_iload_n C 1 dX3_runScript_58 rfl rfl ?_
        refine g_iconst C (v := (1 : Int32)) dX3_runScript_59 ic_1 ?_
        refine g_isub C dX3_runScript_60 ?_
        refine g_iload C 3 dX3_runScript_61 rfl ?_
        refine g_isub C dX3_runScript_63 ?_
        refine g_callSl C (n := 2) (As := [.long v2, .int ((v1 - (1 : Int32)) - v4)]) (rest := []) (fun r h => mX3_withoutLastGroups l D K _ _ r h) gE.nil (τ := ()) gX3_runScript_X3_withoutLastGroups rfl (by decide +kernel) ⟨Nat.le_of_ble_eq_true rfl, Nat.le_of_ble_eq_true rfl, rfl, rfl⟩ rfl rfl (Nat.le_of_ble_eq_true rfl) dX3_runScript_64 (fun r1 _ => ?_)
        refine g_ldc2 C (v := (100000 : Int64)) (List.mem_of_getElem? (i := 5) rfl) dX3_runScript_67 ?_
        refine g_lrem C dX3_runScript_70 (by decide) ?_
        refine g_topl (fun t2 => ?_)
        refine g_l2i C dX3_runScript_71 ?_
        refine g_topi (fun t3 => ?_)
        refine g_istore C (lv' := [(5, .int t3), (0, .ref (b 0)), (1, .int v1), (2, .long v2), (4, .int v4)]) dX3_runScript_72 (by decide) rfl ?_
        refine g_aload_n C 1 dX3_runScript_74 rfl rfl ?_
        refine g_iload C 0 dX3_runScript_75 rfl ?_
        refine g_callVi C (n := 1) (As := [.int t3]) (rest := []) (fun r h => mX3_doScriptCommand l D K b t x y α _ _ r h) gE.same gX3_runScript_X3_doScriptCommand rfl (by decide +kernel) ⟨Nat.le_of_ble_eq_true rfl, Nat.le_of_ble_eq_true rfl, rfl, rfl⟩ 0 (SWg_0 K b t x y α _) rfl rfl rfl (Nat.le_of_ble_eq_true rfl) dX3_runScript_77 (fun r4 _ => ?_)
        refine g_if_ne C 86 dX3_runScript_80 (by decide) (fun _ => ?_) (fun _ => ?_)
        · refine g_iload C 4 dX3_runScript_83 rfl ?_
          exact g_ret C ⟨_, rfl, dX3_runScript_85, rfl⟩
        · refine g_iinc C (w := (1 : Int32)) (lv' := [(4, .int (v4 + (1 : Int32))), (5, .int t3), (0, .ref (b 0)), (1, .int v1), (2, .long v2)]) 4 dX3_runScript_86 rfl ic_1 (by decide) rfl ?_
          refine g_goto C 51 dX3_runScript_89 (by decide) ?_
          refine g_sub C (lv' := [(0, .ref (b 0)), (1, .int v1), (2, .long v2), (4, .int (v4 + (1 : Int32)))]) [2, 3, 4, 0] rfl ?_
          exact ih_51 r4.2 v1 v2 (v4 + (1 : Int32))
  refine g_iload_n C 1 dX3_runScript_0 rfl rfl ?_
  refine g_iconst C (v := (1 : Int32)) dX3_runScript_1 ic_1 ?_
  refine g_icmp_lt C 26 dX3_runScript_2 (by decide) (fun _ => ?_) (fun _ => ?_)
  · exact g_throwSW CX rfl (by decide) (List.mem_of_getElem? (i := 1) rfl) (List.mem_of_getElem? (i := 2) rfl) (List.mem_of_getElem? (i := 9) rfl) (fun _ h => List.mem_cons_of_mem _ (List.mem_append_right _ h)) nonGood1 (allOt1 _) dX3_runScript_26 dX3_runScript_29 dX3_runScript_30 dX3_runScript_33 dX3_runScript_36 (Nat.le_of_ble_eq_true rfl) (Nat.le_of_ble_eq_true rfl)
  · refine g_iload_n C 1 dX3_runScript_5 rfl rfl ?_
    refine g_iconst C (v := (3 : Int32)) dX3_runScript_6 ic_3 ?_
    refine g_icmp_gt C 26 dX3_runScript_7 (by decide) (fun _ => ?_) (fun _ => ?_)
    · exact g_throwSW CX rfl (by decide) (List.mem_of_getElem? (i := 1) rfl) (List.mem_of_getElem? (i := 2) rfl) (List.mem_of_getElem? (i := 9) rfl) (fun _ h => List.mem_cons_of_mem _ (List.mem_append_right _ h)) nonGood1 (allOt1 _) dX3_runScript_26 dX3_runScript_29 dX3_runScript_30 dX3_runScript_33 dX3_runScript_36 (Nat.le_of_ble_eq_true rfl) (Nat.le_of_ble_eq_true rfl)
    · refine g_lload_n C 2 dX3_runScript_10 rfl rfl ?_
      refine g_lconst C (v := (0 : Int64)) dX3_runScript_11 (by decide) ?_
      refine g_lcmp C dX3_runScript_12 ?_
      refine g_if_lt C 26 dX3_runScript_13 (by decide) (fun _ => ?_) (fun _ => ?_)
      · exact g_throwSW CX rfl (by decide) (List.mem_of_getElem? (i := 1) rfl) (List.mem_of_getElem? (i := 2) rfl) (List.mem_of_getElem? (i := 9) rfl) (fun _ h => List.mem_cons_of_mem _ (List.mem_append_right _ h)) nonGood1 (allOt1 _) dX3_runScript_26 dX3_runScript_29 dX3_runScript_30 dX3_runScript_33 dX3_runScript_36 (Nat.le_of_ble_eq_true rfl) (Nat.le_of_ble_eq_true rfl)
      · refine g_lload_n C 2 dX3_runScript_16 rfl rfl ?_
        refine g_iload_n C 1 dX3_runScript_17 rfl rfl ?_
        refine g_callSl C (n := 2) (As := [.long p2, .int p1]) (rest := []) (fun r h => mX3_withoutLastGroups l D K _ _ r h) gE.nil (τ := ()) gX3_runScript_X3_withoutLastGroups rfl (by decide +kernel) ⟨Nat.le_of_ble_eq_true rfl, Nat.le_of_ble_eq_true rfl, rfl, rfl⟩ rfl rfl (Nat.le_of_ble_eq_true rfl) dX3_runScript_18 (fun r5 _ => ?_)
        refine g_lconst C (v := (0 : Int64)) dX3_runScript_21 (by decide) ?_
        refine g_lcmp C dX3_runScript_22 ?_
        refine g_if_eq C 37 dX3_runScript_23 (by decide) (fun _ => ?_) (fun _ => ?_)
        · refine g_aload_n C 0 dX3_runScript_37 rfl rfl ?_
          refine g_get C (fun _ h => List.mem_cons_of_mem _ (List.mem_append_left _ (List.mem_append_left _ (List.mem_append_left _ (List.mem_append_right _ h))))) 0 (SWg_0 K b t x y α _) rfl 2 (by decide) (List.mem_of_getElem? (i := 3) rfl) rfl rfl dX3_runScript_38 ?_
          refine g_aload_n C 0 dX3_runScript_41 rfl rfl ?_
          refine g_get C (fun _ h => List.mem_cons_of_mem _ (List.mem_append_left _ (List.mem_append_left _ (List.mem_append_left _ (List.mem_append_right _ h))))) 0 (SWg_0 K b t x y α _) rfl 1 (by decide) (List.mem_of_getElem? (i := 4) rfl) rfl rfl dX3_runScript_42 ?_
          refine g_callVv C (n := 1) (As := [.ref (x 9)]) (rest := []) (fun r h => mX1_copyFrom l D K y x _ r h) (SWe_yx D K b t x y α _) gX3_runScript_X1_copyFrom rfl (by decide +kernel) ⟨Nat.le_of_ble_eq_true rfl, Nat.le_of_ble_eq_true rfl, rfl, rfl⟩ 9 (L2g_9 K y x _) rfl rfl rfl (Nat.le_of_ble_eq_true rfl) dX3_runScript_45 (fun r6 _ => ?_)
          refine g_state (fun u7 => ?_)
          refine g_iconst C (v := (0 : Int32)) dX3_runScript_48 ic_0 ?_
          refine g_istore C (lv' := [(4, .int (0 : Int32)), (0, .ref (b 0)), (1, .int p1), (2, .long p2)]) dX3_runScript_49 (by decide) rfl ?_
          refine g_sub C (lv' := [(0, .ref (b 0)), (1, .int p1), (2, .long p2), (4, .int (0 : Int32))]) [1, 2, 3, 0] rfl ?_
          exact h_51 gFuel u7 p1 p2 (0 : Int32)
        · exact g_throwSW CX rfl (by decide) (List.mem_of_getElem? (i := 1) rfl) (List.mem_of_getElem? (i := 2) rfl) (List.mem_of_getElem? (i := 9) rfl) (fun _ h => List.mem_cons_of_mem _ (List.mem_append_right _ h)) nonGood1 (allOt1 _) dX3_runScript_26 dX3_runScript_29 dX3_runScript_30 dX3_runScript_33 dX3_runScript_36 (Nat.le_of_ble_eq_true rfl) (Nat.le_of_ble_eq_true rfl)
set_option maxHeartbeats 4000000 in
set_option maxRecDepth 100000 in
theorem mX3_doSimulatedTurn (l : Launch) (D : va_G) (K : Nat → ClassId) (b t x y : Nat → Nat) (α : Nat → Nat → Nat) (σ : ST) (p1 : Int32) (r : ST) (hf : fX3_doSimulatedTurn σ p1 = some r) : gMv l yX3_doSimulatedTurn wsX3_doSimulatedTurn { frames := 5, cells := 0, slots := 0, locals := 106 } D (gT K) (SW K b t x y α) [.ref (b 0), .int p1] σ r := by
  refine mk_v (nL := 5) (cc := cX3_doSimulatedTurn) (by decide) rfl (Nat.le_of_ble_eq_true rfl) rfl rfl hf (fun g C => ?_)
  refine g_sub C (lv' := [(0, .ref (b 0)), (1, .int p1)]) [0, 1] rfl ?_
  unfold fX3_doSimulatedTurn
  refine g_iload_n C 1 dX3_doSimulatedTurn_0 rfl rfl ?_
  refine g_bipush C (v := (8 : Int32)) dX3_doSimulatedTurn_1 (by decide) ?_
  refine g_idiv C dX3_doSimulatedTurn_3 (by decide) ?_
  refine g_bipush C (v := (6 : Int32)) dX3_doSimulatedTurn_4 (by decide) ?_
  refine g_irem C dX3_doSimulatedTurn_6 (by decide) ?_
  refine g_topi (fun t1 => ?_)
  refine g_istore_n C (lv' := [(2, .int t1), (0, .ref (b 0)), (1, .int p1)]) dX3_doSimulatedTurn_7 rfl (by decide) rfl ?_
  refine g_iload_n C 2 dX3_doSimulatedTurn_8 rfl rfl ?_
  refine g_bipush C (v := (64 : Int32)) dX3_doSimulatedTurn_9 (by decide) ?_
  refine g_idiv C dX3_doSimulatedTurn_11 (by decide) ?_
  refine g_bipush C (v := (20 : Int32)) dX3_doSimulatedTurn_12 (by decide) ?_
  refine g_irem C dX3_doSimulatedTurn_14 (by decide) ?_
  refine g_topi (fun t2 => ?_)
  refine g_istore_n C (lv' := [(3, .int t2), (2, .int t1), (0, .ref (b 0)), (1, .int p1)]) dX3_doSimulatedTurn_15 rfl (by decide) rfl ?_
  refine g_iload_n C 3 dX3_doSimulatedTurn_16 rfl rfl ?_
  refine g_sipush C (v := (2048 : Int32)) dX3_doSimulatedTurn_17 (by decide) ?_
  refine g_idiv C dX3_doSimulatedTurn_20 (by decide) ?_
  refine g_iconst C (v := (3 : Int32)) dX3_doSimulatedTurn_21 ic_3 ?_
  refine g_irem C dX3_doSimulatedTurn_22 (by decide) ?_
  refine g_topi (fun t3 => ?_)
  refine g_istore C (lv' := [(4, .int t3), (3, .int t2), (2, .int t1), (0, .ref (b 0)), (1, .int p1)]) dX3_doSimulatedTurn_23 (by decide) rfl ?_
  refine g_iload_n C 4 dX3_doSimulatedTurn_25 rfl rfl ?_
  refine g_bipush C (v := (8 : Int32)) dX3_doSimulatedTurn_26 (by decide) ?_
  refine g_irem C dX3_doSimulatedTurn_28 (by decide) ?_
  refine g_topi (fun t4 => ?_)
  refine g_tcase C 68 (0 : Int32) dX3_doSimulatedTurn_29 (by decide) (by decide) rfl (by decide) (fun _ => ?_) (fun h5 => ?_)
  · refine g_aload_n C 3 dX3_doSimulatedTurn_68 rfl rfl ?_
    refine g_get C (fun _ h => List.mem_cons_of_mem _ (List.mem_append_left _ (List.mem_append_right _ h))) 0 (SWg_0 K b t x y α _) rfl 2 (by decide) (List.mem_of_getElem? (i := 1) rfl) rfl rfl dX3_doSimulatedTurn_69 ?_
    refine g_iload_n C 2 dX3_doSimulatedTurn_72 rfl rfl ?_
    refine g_iload_n C 1 dX3_doSimulatedTurn_73 rfl rfl ?_
    refine g_callVi C (n := 2) (As := [.int t1, .int t2]) (rest := []) (fun r h => mX1_tryTake l D K y _ _ _ r h) (SWe_y D K b t x y α _) gX3_doSimulatedTurn_X1_tryTake rfl (by decide +kernel) ⟨Nat.le_of_ble_eq_true rfl, Nat.le_of_ble_eq_true rfl, rfl, rfl⟩ 9 (LWg_9 K y _) rfl rfl rfl (Nat.le_of_ble_eq_true rfl) dX3_doSimulatedTurn_74 (fun r6 _ => ?_)
    refine g_state (fun u7 => ?_)
    refine g_pop C dX3_doSimulatedTurn_77 rfl ?_
    refine g_goto C 119 dX3_doSimulatedTurn_78 (by decide) ?_
    exact g_ret C ⟨dX3_doSimulatedTurn_119, rfl, rfl⟩
  refine g_tcase C 68 (1 : Int32) dX3_doSimulatedTurn_29 (by decide) (by decide) rfl (by decide) (fun _ => ?_) (fun h8 => ?_)
  · refine g_aload_n C 3 dX3_doSimulatedTurn_68 rfl rfl ?_
    refine g_get C (fun _ h => List.mem_cons_of_mem _ (List.mem_append_left _ (List.mem_append_right _ h))) 0 (SWg_0 K b t x y α _) rfl 2 (by decide) (List.mem_of_getElem? (i := 1) rfl) rfl rfl dX3_doSimulatedTurn_69 ?_
    refine g_iload_n C 2 dX3_doSimulatedTurn_72 rfl rfl ?_
    refine g_iload_n C 1 dX3_doSimulatedTurn_73 rfl rfl ?_
    refine g_callVi C (n := 2) (As := [.int t1, .int t2]) (rest := []) (fun r h => mX1_tryTake l D K y _ _ _ r h) (SWe_y D K b t x y α _) gX3_doSimulatedTurn_X1_tryTake rfl (by decide +kernel) ⟨Nat.le_of_ble_eq_true rfl, Nat.le_of_ble_eq_true rfl, rfl, rfl⟩ 9 (LWg_9 K y _) rfl rfl rfl (Nat.le_of_ble_eq_true rfl) dX3_doSimulatedTurn_74 (fun r9 _ => ?_)
    refine g_state (fun u10 => ?_)
    refine g_pop C dX3_doSimulatedTurn_77 rfl ?_
    refine g_goto C 119 dX3_doSimulatedTurn_78 (by decide) ?_
    exact g_ret C ⟨dX3_doSimulatedTurn_119, rfl, rfl⟩
  refine g_tcase C 81 (2 : Int32) dX3_doSimulatedTurn_29 (by decide) (by decide) rfl (by decide) (fun _ => ?_) (fun h11 => ?_)
  · refine g_aload_n C 3 dX3_doSimulatedTurn_81 rfl rfl ?_
    refine g_get C (fun _ h => List.mem_cons_of_mem _ (List.mem_append_left _ (List.mem_append_right _ h))) 0 (SWg_0 K b t x y α _) rfl 2 (by decide) (List.mem_of_getElem? (i := 1) rfl) rfl rfl dX3_doSimulatedTurn_82 ?_
    refine g_iload_n C 1 dX3_doSimulatedTurn_85 rfl rfl ?_
    refine g_callVi C (n := 1) (As := [.int t2]) (rest := []) (fun r h => mX1_tryBorrowOrBringBack l D K y _ _ r h) (SWe_y D K b t x y α _) gX3_doSimulatedTurn_X1_tryBorrowOrBringBack rfl (by decide +kernel) ⟨Nat.le_of_ble_eq_true rfl, Nat.le_of_ble_eq_true rfl, rfl, rfl⟩ 9 (LWg_9 K y _) rfl rfl rfl (Nat.le_of_ble_eq_true rfl) dX3_doSimulatedTurn_86 (fun r12 _ => ?_)
    refine g_state (fun u13 => ?_)
    refine g_pop C dX3_doSimulatedTurn_89 rfl ?_
    refine g_goto C 119 dX3_doSimulatedTurn_90 (by decide) ?_
    exact g_ret C ⟨dX3_doSimulatedTurn_119, rfl, rfl⟩
  refine g_tcase C 93 (3 : Int32) dX3_doSimulatedTurn_29 (by decide) (by decide) rfl (by decide) (fun _ => ?_) (fun h14 => ?_)
  · refine g_aload_n C 3 dX3_doSimulatedTurn_93 rfl rfl ?_
    refine g_get C (fun _ h => List.mem_cons_of_mem _ (List.mem_append_left _ (List.mem_append_right _ h))) 0 (SWg_0 K b t x y α _) rfl 2 (by decide) (List.mem_of_getElem? (i := 1) rfl) rfl rfl dX3_doSimulatedTurn_94 ?_
    refine g_iload_n C 2 dX3_doSimulatedTurn_97 rfl rfl ?_
    refine g_iload C 0 dX3_doSimulatedTurn_98 rfl ?_
    refine g_callVi C (n := 2) (As := [.int t1, .int t3]) (rest := []) (fun r h => mX1_tryWalkEitherWay l D K y _ _ _ r h) (SWe_y D K b t x y α _) gX3_doSimulatedTurn_X1_tryWalkEitherWay rfl (by decide +kernel) ⟨Nat.le_of_ble_eq_true rfl, Nat.le_of_ble_eq_true rfl, rfl, rfl⟩ 9 (LWg_9 K y _) rfl rfl rfl (Nat.le_of_ble_eq_true rfl) dX3_doSimulatedTurn_100 (fun r15 _ => ?_)
    refine g_state (fun u16 => ?_)
    refine g_pop C dX3_doSimulatedTurn_103 rfl ?_
    refine g_goto C 119 dX3_doSimulatedTurn_104 (by decide) ?_
    exact g_ret C ⟨dX3_doSimulatedTurn_119, rfl, rfl⟩
  refine g_tcase C 93 (4 : Int32) dX3_doSimulatedTurn_29 (by decide) (by decide) rfl (by decide) (fun _ => ?_) (fun h17 => ?_)
  · refine g_aload_n C 3 dX3_doSimulatedTurn_93 rfl rfl ?_
    refine g_get C (fun _ h => List.mem_cons_of_mem _ (List.mem_append_left _ (List.mem_append_right _ h))) 0 (SWg_0 K b t x y α _) rfl 2 (by decide) (List.mem_of_getElem? (i := 1) rfl) rfl rfl dX3_doSimulatedTurn_94 ?_
    refine g_iload_n C 2 dX3_doSimulatedTurn_97 rfl rfl ?_
    refine g_iload C 0 dX3_doSimulatedTurn_98 rfl ?_
    refine g_callVi C (n := 2) (As := [.int t1, .int t3]) (rest := []) (fun r h => mX1_tryWalkEitherWay l D K y _ _ _ r h) (SWe_y D K b t x y α _) gX3_doSimulatedTurn_X1_tryWalkEitherWay rfl (by decide +kernel) ⟨Nat.le_of_ble_eq_true rfl, Nat.le_of_ble_eq_true rfl, rfl, rfl⟩ 9 (LWg_9 K y _) rfl rfl rfl (Nat.le_of_ble_eq_true rfl) dX3_doSimulatedTurn_100 (fun r18 _ => ?_)
    refine g_state (fun u19 => ?_)
    refine g_pop C dX3_doSimulatedTurn_103 rfl ?_
    refine g_goto C 119 dX3_doSimulatedTurn_104 (by decide) ?_
    exact g_ret C ⟨dX3_doSimulatedTurn_119, rfl, rfl⟩
  refine g_tcase C 107 (5 : Int32) dX3_doSimulatedTurn_29 (by decide) (by decide) rfl (by decide) (fun _ => ?_) (fun h20 => ?_)
  · refine g_aload_n C 3 dX3_doSimulatedTurn_107 rfl rfl ?_
    refine g_get C (fun _ h => List.mem_cons_of_mem _ (List.mem_append_left _ (List.mem_append_right _ h))) 0 (SWg_0 K b t x y α _) rfl 2 (by decide) (List.mem_of_getElem? (i := 1) rfl) rfl rfl dX3_doSimulatedTurn_108 ?_
    refine g_iload_n C 2 dX3_doSimulatedTurn_111 rfl rfl ?_
    refine g_callVi C (n := 1) (As := [.int t1]) (rest := []) (fun r h => mX1_tryTurn l D K y _ _ r h) (SWe_y D K b t x y α _) gX3_doSimulatedTurn_X1_tryTurn rfl (by decide +kernel) ⟨Nat.le_of_ble_eq_true rfl, Nat.le_of_ble_eq_true rfl, rfl, rfl⟩ 9 (LWg_9 K y _) rfl rfl rfl (Nat.le_of_ble_eq_true rfl) dX3_doSimulatedTurn_112 (fun r21 _ => ?_)
    refine g_state (fun u22 => ?_)
    refine g_pop C dX3_doSimulatedTurn_115 rfl ?_
    refine g_goto C 119 dX3_doSimulatedTurn_116 (by decide) ?_
    exact g_ret C ⟨dX3_doSimulatedTurn_119, rfl, rfl⟩
  refine g_tdef2 C 119 [0, 1, 2, 3, 4, 5] dX3_doSimulatedTurn_29 (List.forall_mem_cons.mpr ⟨i32nz h5 (by decide), (List.forall_mem_cons.mpr ⟨i32nz h8 (by decide), (List.forall_mem_cons.mpr ⟨i32nz h11 (by decide), (List.forall_mem_cons.mpr ⟨i32nz h14 (by decide), (List.forall_mem_cons.mpr ⟨i32nz h17 (by decide), (List.forall_mem_cons.mpr ⟨i32nz h20 (by decide), (fun _ h9 => absurd h9 List.not_mem_nil)⟩)⟩)⟩)⟩)⟩)⟩) (by decide) (by decide) (by decide) ?_
  exact g_ret C ⟨dX3_doSimulatedTurn_119, rfl, rfl⟩
set_option maxHeartbeats 4000000 in
set_option maxRecDepth 100000 in
theorem mX3_simulate (l : Launch) (D : va_G) (K : Nat → ClassId) (b t x y : Nat → Nat) (α : Nat → Nat → Nat) (σ : ST) (p1 : Int64) (p3 : Int32) (r : ((Nat × ST) ⊕ (Int32 × ST))) (hfl : l.stackTraces = false) (hf : fX3_simulate σ p1 p3 = some r) : gMx l yX3_simulate wsX3_simulate 6 136 D (gT K) (SW K b t x y α) [.ref (b 0), .long p1, .int p3] σ r := by
  refine mk_x (nL := 9) (cc := cX3_simulate) hfl (by decide) rfl (Nat.le_of_ble_eq_true rfl) hf (fun ce sl g CX => ?_)
  have C := CX.C
  refine g_sub C (lv' := [(0, .ref (b 0)), (1, .long p1), (3, .int p3)]) [0, 1, 2] rfl ?_
  unfold fX3_simulate
  have h_42 : ∀ (n : Nat) (σ : ST) (v3 : Int32) (v4 : Int32) (v5 : Int64) (v7 : Int32), g (fX3_simulate_L42 n σ v3 v4 v5 v7) 42 [(0, .ref (b 0)), (3, .int v3), (4, .int v4), (5, .long v5), (7, .int v7)] [] σ := by
    intro n
    induction n with
    | zero =>
      intro σ v3 v4 v5 v7
      exact g_none C
    | succ n42 ih_42 =>
      intro σ v3 v4 v5 v7
      unfold fX3_simulate_L42
      refine g_iload C 4 dX3_simulate_42 rfl ?_
      refine g_iload_n C 1 dX3_simulate_44 rfl rfl ?_
      refine g_icmp_ge C 89 dX3_simulate_45 (by decide) (fun _ => ?_) (fun _ => ?_)
      · refine g_aload_n C 0 dX3_simulate_89 rfl rfl ?_
        refine g_get C (fun _ h => List.mem_cons_of_mem _ (List.mem_append_left _ (List.mem_append_left _ (List.mem_append_left _ (List.mem_append_right _ h))))) 0 (SWg_0 K b t x y α _) rfl 2 (by decide) (List.mem_of_getElem? (i := 3) rfl) rfl rfl dX3_simulate_90 ?_
        refine g_get C (fun _ h => List.mem_cons_of_mem _ (List.mem_append_left _ (List.mem_append_left _ (List.mem_append_right _ h)))) 33 (SWg_33 K b t x y α _) rfl 12 (by decide) (List.mem_of_getElem? (i := 7) rfl) rfl rfl dX3_simulate_93 ?_
        refine g_aload_n C 0 dX3_simulate_96 rfl rfl ?_
        refine g_get C (fun _ h => List.mem_cons_of_mem _ (List.mem_append_left _ (List.mem_append_left _ (List.mem_append_left _ (List.mem_append_right _ h))))) 0 (SWg_0 K b t x y α _) rfl 1 (by decide) (List.mem_of_getElem? (i := 4) rfl) rfl rfl dX3_simulate_97 ?_
        refine g_get C (fun _ h => List.mem_cons_of_mem _ (List.mem_append_left _ (List.mem_append_left _ (List.mem_append_right _ h)))) 16 (SWg_16 K b t x y α _) rfl 12 (by decide) (List.mem_of_getElem? (i := 7) rfl) rfl rfl dX3_simulate_100 ?_
        refine g_isub C dX3_simulate_103 ?_
        refine g_topi (fun t1 => ?_)
        refine g_istore C (lv' := [(7, .int t1), (0, .ref (b 0)), (3, .int v3), (4, .int v4), (5, .long v5)]) dX3_simulate_104 (by decide) rfl ?_
        refine g_aload_n C 1 dX3_simulate_106 rfl rfl ?_
        refine g_get C (fun _ h => List.mem_cons_of_mem _ (List.mem_append_left _ (List.mem_append_left _ (List.mem_append_left _ (List.mem_append_right _ h))))) 0 (SWg_0 K b t x y α _) rfl 2 (by decide) (List.mem_of_getElem? (i := 3) rfl) rfl rfl dX3_simulate_107 ?_
        refine g_get C (fun _ h => List.mem_cons_of_mem _ (List.mem_append_left _ (List.mem_append_left _ (List.mem_append_right _ h)))) 33 (SWg_33 K b t x y α _) rfl 13 (by decide) (List.mem_of_getElem? (i := 8) rfl) rfl rfl dX3_simulate_110 ?_
        refine g_aload_n C 1 dX3_simulate_113 rfl rfl ?_
        refine g_get C (fun _ h => List.mem_cons_of_mem _ (List.mem_append_left _ (List.mem_append_left _ (List.mem_append_left _ (List.mem_append_right _ h))))) 0 (SWg_0 K b t x y α _) rfl 1 (by decide) (List.mem_of_getElem? (i := 4) rfl) rfl rfl dX3_simulate_114 ?_
        refine g_get C (fun _ h => List.mem_cons_of_mem _ (List.mem_append_left _ (List.mem_append_left _ (List.mem_append_right _ h)))) 16 (SWg_16 K b t x y α _) rfl 13 (by decide) (List.mem_of_getElem? (i := 8) rfl) rfl rfl dX3_simulate_117 ?_
        refine g_isub C dX3_simulate_120 ?_
        refine g_topi (fun t2 => ?_)
        refine g_istore C (lv' := [(8, .int t2), (7, .int t1), (0, .ref (b 0)), (3, .int v3), (4, .int v4), (5, .long v5)]) dX3_simulate_121 (by decide) rfl ?_
        refine g_sipush C (v := (10000 : Int32)) dX3_simulate_123 (by decide) ?_
        refine g_iload C 4 dX3_simulate_126 rfl ?_
        refine g_imul C dX3_simulate_128 ?_
        refine g_bipush C (v := (100 : Int32)) dX3_simulate_129 (by decide) ?_
        refine g_iload C 1 dX3_simulate_131 rfl ?_
        refine g_imul C dX3_simulate_133 ?_
        refine g_iadd C dX3_simulate_134 ?_
        refine g_iload C 0 dX3_simulate_135 rfl ?_
        refine g_iadd C dX3_simulate_137 ?_
        exact g_ret C ⟨_, rfl, dX3_simulate_138, rfl⟩
      · refine g_lload C 3 dX3_simulate_48 rfl ?_
        refine g_ldc2 C (v := (6364136223846793005 : Int64)) (List.mem_of_getElem? (i := 5) rfl) dX3_simulate_50 ?_
        refine g_lmul C dX3_simulate_53 ?_
        refine g_ldc2 C (v := (1442695040888963407 : Int64)) (List.mem_of_getElem? (i := 6) rfl) dX3_simulate_54 ?_
        refine g_ladd C dX3_simulate_57 ?_
        refine g_topl (fun t3 => ?_)
        refine g_lstore C (lv' := [(5, .long t3), (0, .ref (b 0)), (3, .int v3), (4, .int v4), (7, .int v7)]) dX3_simulate_58 (by decide) rfl ?_
        refine g_aload_n C 1 dX3_simulate_60 rfl rfl ?_
        refine g_lload C 0 dX3_simulate_61 rfl ?_
        refine g_bipush C (v := (33 : Int32)) dX3_simulate_63 (by decide) ?_
        refine g_lushr C dX3_simulate_65 ?_
        refine g_l2i C dX3_simulate_66 ?_
        refine g_topi (fun t4 => ?_)
        refine g_callVv C (n := 1) (As := [.int t4]) (rest := []) (fun r h => mX3_doSimulatedTurn l D K b t x y α _ _ r h) gE.same gX3_simulate_X3_doSimulatedTurn rfl (by decide +kernel) ⟨Nat.le_of_ble_eq_true rfl, Nat.le_of_ble_eq_true rfl, rfl, rfl⟩ 0 (SWg_0 K b t x y α _) rfl rfl rfl (Nat.le_of_ble_eq_true rfl) dX3_simulate_67 (fun r5 _ => ?_)
        refine g_iload C 3 dX3_simulate_70 rfl ?_
        refine g_aload_n C 1 dX3_simulate_72 rfl rfl ?_
        refine g_get C (fun _ h => List.mem_cons_of_mem _ (List.mem_append_left _ (List.mem_append_left _ (List.mem_append_left _ (List.mem_append_right _ h))))) 0 (SWg_0 K b t x y α _) rfl 2 (by decide) (List.mem_of_getElem? (i := 3) rfl) rfl rfl dX3_simulate_73 ?_
        refine g_iconst C (v := (1 : Int32)) dX3_simulate_76 ic_1 ?_
        refine g_callVi C (n := 1) (As := [.int (1 : Int32)]) (rest := [.int v4]) (fun r h => mX1_passTicks l D K y _ _ r h) (SWe_y D K b t x y α _) gX3_simulate_X1_passTicks rfl (by decide +kernel) ⟨Nat.le_of_ble_eq_true rfl, Nat.le_of_ble_eq_true rfl, rfl, rfl⟩ 9 (LWg_9 K y _) rfl rfl rfl (Nat.le_of_ble_eq_true rfl) dX3_simulate_77 (fun r6 _ => ?_)
        refine g_state (fun u7 => ?_)
        refine g_iadd C dX3_simulate_80 ?_
        refine g_topi (fun t8 => ?_)
        refine g_istore C (lv' := [(4, .int t8), (5, .long t3), (0, .ref (b 0)), (3, .int v3), (7, .int v7)]) dX3_simulate_81 (by decide) rfl ?_
        refine g_iinc C (w := (1 : Int32)) (lv' := [(7, .int (v7 + (1 : Int32))), (4, .int t8), (5, .long t3), (0, .ref (b 0)), (3, .int v3)]) 4 dX3_simulate_83 rfl ic_1 (by decide) rfl ?_
        refine g_goto C 42 dX3_simulate_86 (by decide) ?_
        refine g_sub C (lv' := [(0, .ref (b 0)), (3, .int v3), (4, .int t8), (5, .long t3), (7, .int (v7 + (1 : Int32)))]) [3, 4, 1, 2, 0] rfl ?_
        exact ih_42 u7 v3 t8 t3 (v7 + (1 : Int32))
  refine g_iload_n C 2 dX3_simulate_0 rfl rfl ?_
  refine g_iconst C (v := (1 : Int32)) dX3_simulate_1 ic_1 ?_
  refine g_icmp_lt C 11 dX3_simulate_2 (by decide) (fun _ => ?_) (fun _ => ?_)
  · exact g_throwSW CX rfl (by decide) (List.mem_of_getElem? (i := 1) rfl) (List.mem_of_getElem? (i := 2) rfl) (List.mem_of_getElem? (i := 10) rfl) (fun _ h => List.mem_cons_of_mem _ (List.mem_append_right _ h)) nonGood1 (allOt1 _) dX3_simulate_11 dX3_simulate_14 dX3_simulate_15 dX3_simulate_18 dX3_simulate_21 (Nat.le_of_ble_eq_true rfl) (Nat.le_of_ble_eq_true rfl)
  · refine g_iload_n C 2 dX3_simulate_5 rfl rfl ?_
    refine g_bipush C (v := (99 : Int32)) dX3_simulate_6 (by decide) ?_
    refine g_icmp_le C 22 dX3_simulate_8 (by decide) (fun _ => ?_) (fun _ => ?_)
    · refine g_aload_n C 0 dX3_simulate_22 rfl rfl ?_
      refine g_get C (fun _ h => List.mem_cons_of_mem _ (List.mem_append_left _ (List.mem_append_left _ (List.mem_append_left _ (List.mem_append_right _ h))))) 0 (SWg_0 K b t x y α _) rfl 2 (by decide) (List.mem_of_getElem? (i := 3) rfl) rfl rfl dX3_simulate_23 ?_
      refine g_aload_n C 0 dX3_simulate_26 rfl rfl ?_
      refine g_get C (fun _ h => List.mem_cons_of_mem _ (List.mem_append_left _ (List.mem_append_left _ (List.mem_append_left _ (List.mem_append_right _ h))))) 0 (SWg_0 K b t x y α _) rfl 1 (by decide) (List.mem_of_getElem? (i := 4) rfl) rfl rfl dX3_simulate_27 ?_
      refine g_callVv C (n := 1) (As := [.ref (x 9)]) (rest := []) (fun r h => mX1_copyFrom l D K y x _ r h) (SWe_yx D K b t x y α _) gX3_simulate_X1_copyFrom rfl (by decide +kernel) ⟨Nat.le_of_ble_eq_true rfl, Nat.le_of_ble_eq_true rfl, rfl, rfl⟩ 9 (L2g_9 K y x _) rfl rfl rfl (Nat.le_of_ble_eq_true rfl) dX3_simulate_30 (fun r9 _ => ?_)
      refine g_state (fun u10 => ?_)
      refine g_iconst C (v := (0 : Int32)) dX3_simulate_33 ic_0 ?_
      refine g_istore C (lv' := [(4, .int (0 : Int32)), (0, .ref (b 0)), (1, .long p1), (3, .int p3)]) dX3_simulate_34 (by decide) rfl ?_
      refine g_lload_n C 2 dX3_simulate_36 rfl rfl ?_
      refine g_lstore C (lv' := [(5, .long p1), (4, .int (0 : Int32)), (0, .ref (b 0)), (1, .long p1), (3, .int p3)]) dX3_simulate_37 (by decide) rfl ?_
      refine g_iconst C (v := (0 : Int32)) dX3_simulate_39 ic_0 ?_
      refine g_istore C (lv' := [(7, .int (0 : Int32)), (5, .long p1), (4, .int (0 : Int32)), (0, .ref (b 0)), (1, .long p1), (3, .int p3)]) dX3_simulate_40 (by decide) rfl ?_
      refine g_sub C (lv' := [(0, .ref (b 0)), (3, .int p3), (4, .int (0 : Int32)), (5, .long p1), (7, .int (0 : Int32))]) [3, 5, 2, 1, 0] rfl ?_
      exact h_42 gFuel u10 p3 (0 : Int32) p1 (0 : Int32)
    · exact g_throwSW CX rfl (by decide) (List.mem_of_getElem? (i := 1) rfl) (List.mem_of_getElem? (i := 2) rfl) (List.mem_of_getElem? (i := 10) rfl) (fun _ h => List.mem_cons_of_mem _ (List.mem_append_right _ h)) nonGood1 (allOt1 _) dX3_simulate_11 dX3_simulate_14 dX3_simulate_15 dX3_simulate_18 dX3_simulate_21 (Nat.le_of_ble_eq_true rfl) (Nat.le_of_ble_eq_true rfl)
set_option maxHeartbeats 4000000 in
set_option maxRecDepth 100000 in
theorem mX3_save (l : Launch) (D : va_G) (K : Nat → ClassId) (b t x y : Nat → Nat) (α : Nat → Nat → Nat) (σ : ST) (p1 : Int32) (r : ((Nat × ST) ⊕ (Int32 × ST))) (hfl : l.stackTraces = false) (hf : fX3_save σ p1 = some r) : gMx l yX3_save wsX3_save 7 128 D (gT K) (SW K b t x y α) [.ref (b 0), .int p1] σ r := by
  refine mk_x (nL := 2) (cc := cX3_save) hfl (by decide) rfl (Nat.le_of_ble_eq_true rfl) hf (fun ce sl g CX => ?_)
  have C := CX.C
  refine g_sub C (lv' := [(0, .ref (b 0)), (1, .int p1)]) [0, 1] rfl ?_
  unfold fX3_save
  refine g_iload_n C 1 dX3_save_0 rfl rfl ?_
  refine g_callX CX (n := 1) (As := [.int p1]) (rest := []) (fun r h => mX3_requireSlot l D K _ r hfl h) gX3_save_X3_requireSlot rfl (by decide +kernel) ⟨Nat.le_of_ble_eq_true rfl, Nat.le_of_ble_eq_true rfl⟩ rfl rfl (Nat.le_of_ble_eq_true rfl) dX3_save_1 ?_
  refine g_aload_n C 0 dX3_save_4 rfl rfl ?_
  refine g_get C (fun _ h => List.mem_cons_of_mem _ (List.mem_append_left _ (List.mem_append_left _ (List.mem_append_left _ (List.mem_append_right _ h))))) 0 (SWg_0 K b t x y α _) rfl 5 (by decide) (List.mem_of_getElem? (i := 1) rfl) rfl rfl dX3_save_5 ?_
  refine g_iload_n C 1 dX3_save_8 rfl rfl ?_
  refine g_aaldG C 2 3 (SWg_2 K b t x y α _) rfl rfl dX3_save_9 ?_
  refine g_topk (fun q1 => ?_)
  refine g_aload_n C 0 dX3_save_10 rfl rfl ?_
  refine g_get C (fun _ h => List.mem_cons_of_mem _ (List.mem_append_left _ (List.mem_append_left _ (List.mem_append_left _ (List.mem_append_right _ h))))) 0 (SWg_0 K b t x y α _) rfl 1 (by decide) (List.mem_of_getElem? (i := 2) rfl) rfl rfl dX3_save_11 ?_
  refine g_bool C (fun k2 => ?_)
  refine g_callVv C (n := 1) (As := [.ref (x 9)]) (rest := []) (fun r h => mX1_copyFrom l D K (α q1) x _ r h) (SWe_kx D K b t x y α _ k2) gX3_save_X1_copyFrom rfl (by decide +kernel) ⟨Nat.le_of_ble_eq_true rfl, Nat.le_of_ble_eq_true rfl, rfl, rfl⟩ 9 (L2g_9 K (α q1) x _) rfl rfl rfl (Nat.le_of_ble_eq_true rfl) dX3_save_14 (fun r3 _ => ?_)
  refine g_state (fun u4 => ?_)
  refine g_aload_n C 0 dX3_save_17 rfl rfl ?_
  refine g_get C (fun _ h => List.mem_cons_of_mem _ (List.mem_append_left _ (List.mem_append_left _ (List.mem_append_left _ (List.mem_append_right _ h))))) 0 (SWg_0 K b t x y α _) rfl 6 (by decide) (List.mem_of_getElem? (i := 3) rfl) rfl rfl dX3_save_18 ?_
  refine g_iload_n C 1 dX3_save_21 rfl rfl ?_
  refine g_iconst C (v := (1 : Int32)) dX3_save_22 ic_1 ?_
  refine g_zastG C 3 1 (SWg_3 K b t x y α _) rfl (Or.inr rfl) (SWs_3 K b t x y α _ _) dX3_save_23 ?_
  refine g_state (fun u5 => ?_)
  refine g_aload_n C 0 dX3_save_24 rfl rfl ?_
  refine g_get C (fun _ h => List.mem_cons_of_mem _ (List.mem_append_left _ (List.mem_append_left _ (List.mem_append_left _ (List.mem_append_right _ h))))) 0 (SWg_0 K b t x y α _) rfl 1 (by decide) (List.mem_of_getElem? (i := 2) rfl) rfl rfl dX3_save_25 ?_
  refine g_get C (fun _ h => List.mem_cons_of_mem _ (List.mem_append_left _ (List.mem_append_left _ (List.mem_append_right _ h)))) 16 (SWg_16 K b t x y α _) rfl 11 (by decide) (List.mem_of_getElem? (i := 4) rfl) rfl rfl dX3_save_28 ?_
  exact g_ret C ⟨_, rfl, dX3_save_31, rfl⟩
set_option maxHeartbeats 4000000 in
set_option maxRecDepth 100000 in
theorem mX3_restore (l : Launch) (D : va_G) (K : Nat → ClassId) (b t x y : Nat → Nat) (α : Nat → Nat → Nat) (σ : ST) (p1 : Int32) (r : ((Nat × ST) ⊕ (Int32 × ST))) (hfl : l.stackTraces = false) (hf : fX3_restore σ p1 = some r) : gMx l yX3_restore wsX3_restore 7 128 D (gT K) (SW K b t x y α) [.ref (b 0), .int p1] σ r := by
  refine mk_x (nL := 2) (cc := cX3_restore) hfl (by decide) rfl (Nat.le_of_ble_eq_true rfl) hf (fun ce sl g CX => ?_)
  have C := CX.C
  refine g_sub C (lv' := [(0, .ref (b 0)), (1, .int p1)]) [0, 1] rfl ?_
  unfold fX3_restore
  refine g_iload_n C 1 dX3_restore_0 rfl rfl ?_
  refine g_callX CX (n := 1) (As := [.int p1]) (rest := []) (fun r h => mX3_requireSlot l D K _ r hfl h) gX3_restore_X3_requireSlot rfl (by decide +kernel) ⟨Nat.le_of_ble_eq_true rfl, Nat.le_of_ble_eq_true rfl⟩ rfl rfl (Nat.le_of_ble_eq_true rfl) dX3_restore_1 ?_
  refine g_aload_n C 0 dX3_restore_4 rfl rfl ?_
  refine g_get C (fun _ h => List.mem_cons_of_mem _ (List.mem_append_left _ (List.mem_append_left _ (List.mem_append_left _ (List.mem_append_left _ (List.mem_append_right _ h)))))) 0 (SWg_0 K b t x y α _) rfl 6 (by decide) (List.mem_of_getElem? (i := 1) rfl) rfl rfl dX3_restore_5 ?_
  refine g_iload_n C 1 dX3_restore_8 rfl rfl ?_
  refine g_zaldG C 3 1 (SWg_3 K b t x y α _) rfl dX3_restore_9 ?_
  refine g_callX CX (n := 1) (As := [.int (σ.1 1 p1.toNatClampNeg)]) (rest := []) (fun r h => mX3_requireAllowed l D K _ r hfl h) gX3_restore_X3_requireAllowed rfl (by decide +kernel) ⟨Nat.le_of_ble_eq_true rfl, Nat.le_of_ble_eq_true rfl⟩ rfl rfl (Nat.le_of_ble_eq_true rfl) dX3_restore_10 ?_
  refine g_aload_n C 0 dX3_restore_13 rfl rfl ?_
  refine g_get C (fun _ h => List.mem_cons_of_mem _ (List.mem_append_left _ (List.mem_append_left _ (List.mem_append_left _ (List.mem_append_left _ (List.mem_append_right _ h)))))) 0 (SWg_0 K b t x y α _) rfl 1 (by decide) (List.mem_of_getElem? (i := 2) rfl) rfl rfl dX3_restore_14 ?_
  refine g_aload_n C 0 dX3_restore_17 rfl rfl ?_
  refine g_get C (fun _ h => List.mem_cons_of_mem _ (List.mem_append_left _ (List.mem_append_left _ (List.mem_append_left _ (List.mem_append_left _ (List.mem_append_right _ h)))))) 0 (SWg_0 K b t x y α _) rfl 5 (by decide) (List.mem_of_getElem? (i := 3) rfl) rfl rfl dX3_restore_18 ?_
  refine g_iload_n C 1 dX3_restore_21 rfl rfl ?_
  refine g_aaldG C 2 3 (SWg_2 K b t x y α _) rfl rfl dX3_restore_22 ?_
  refine g_topk (fun q1 => ?_)
  refine g_bool C (fun k2 => ?_)
  refine g_callVv C (n := 1) (As := [.ref (α q1 9)]) (rest := []) (fun r h => mX1_copyFrom l D K x (α q1) _ r h) (SWe_xk D K b t x y α _ k2) gX3_restore_X1_copyFrom rfl (by decide +kernel) ⟨Nat.le_of_ble_eq_true rfl, Nat.le_of_ble_eq_true rfl, rfl, rfl⟩ 9 (L2g_9 K x (α q1) _) rfl rfl rfl (Nat.le_of_ble_eq_true rfl) dX3_restore_23 (fun r3 _ => ?_)
  refine g_state (fun u4 => ?_)
  refine g_aload_n C 0 dX3_restore_26 rfl rfl ?_
  refine g_iconst C (v := (0 : Int32)) dX3_restore_27 ic_0 ?_
  refine g_put C (ty := .int) (fun _ h => List.mem_cons_of_mem _ (List.mem_append_left _ (List.mem_append_left _ (List.mem_append_left _ (List.mem_append_left _ (List.mem_append_right _ h)))))) tyX3 tyX3_ok nmX3 0 (SWg_0 K b t x y α _) rfl 4 (by decide) (List.mem_of_getElem? (i := 4) rfl) rfl rfl (by decide +kernel) rfl rfl (Nat.le_of_ble_eq_true rfl) (SWp_0_4 K b t x y α _ _) dX3_restore_28 ?_
  refine g_state (fun u5 => ?_)
  refine g_aload_n C 0 dX3_restore_31 rfl rfl ?_
  refine g_get C (fun _ h => List.mem_cons_of_mem _ (List.mem_append_left _ (List.mem_append_left _ (List.mem_append_left _ (List.mem_append_left _ (List.mem_append_right _ h)))))) 0 (SWg_0 K b t x y α _) rfl 1 (by decide) (List.mem_of_getElem? (i := 2) rfl) rfl rfl dX3_restore_32 ?_
  refine g_get C (fun _ h => List.mem_cons_of_mem _ (List.mem_append_left _ (List.mem_append_left _ (List.mem_append_left _ (List.mem_append_right _ h))))) 16 (SWg_16 K b t x y α _) rfl 11 (by decide) (List.mem_of_getElem? (i := 5) rfl) rfl rfl dX3_restore_35 ?_
  exact g_ret C ⟨_, rfl, dX3_restore_38, rfl⟩
