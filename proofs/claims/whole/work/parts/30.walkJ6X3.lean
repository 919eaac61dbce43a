set_option maxHeartbeats 4000000 in
set_option maxRecDepth 100000 in
theorem mX3_has (l : Launch) (D : va_G) (K : Nat → ClassId) (p0 : Int32) (p1 : Int32) (r : (Int32 × Unit)) (hf : fX3_has p0 p1 = some r) : gMi l yX3_has wsX3_has { frames := 0, cells := 0, slots := 0, locals := 0 } D (gT K) (fun _ : Unit => []) [.int p0, .int p1] () r := by
  refine mk_z (nL := 2) (cc := cX3_has) (by decide) rfl (Nat.le_of_ble_eq_true rfl) rfl rfl hf (fun g C => ?_)
  refine g_sub C (lv' := [(0, .int p0), (1, .int p1)]) [0, 1] rfl ?_
  unfold fX3_has
  refine g_iload_n C 0 dX3_has_0 rfl rfl ?_
  refine g_iload_n C 1 dX3_has_1 rfl rfl ?_
  refine g_ishr C dX3_has_2 ?_
  refine g_iconst C (v := (1 : Int32)) dX3_has_3 ic_1 ?_
  refine g_iand C dX3_has_4 ?_
  refine g_if_eq C 12 dX3_has_5 (by decide) (fun _ => ?_) (fun _ => ?_)
  · refine g_iconst C (v := (0 : Int32)) dX3_has_12 ic_0 ?_
    exact g_ret C ⟨dX3_has_13, rfl, rfl, Or.inl rfl⟩
  · refine g_iconst C (v := (1 : Int32)) dX3_has_8 ic_1 ?_
    refine g_goto C 13 dX3_has_9 (by decide) ?_
    exact g_ret C ⟨dX3_has_13, rfl, rfl, Or.inr rfl⟩
set_option maxHeartbeats 4000000 in
set_option maxRecDepth 100000 in
theorem mX3_bit (l : Launch) (D : va_G) (K : Nat → ClassId) (p0 : Int32) (r : (Int32 × Unit)) (hf : fX3_bit p0 = some r) : gMi l yX3_bit wsX3_bit { frames := 0, cells := 0, slots := 0, locals := 0 } D (gT K) (fun _ : Unit => []) [.int p0] () r := by
  refine mk_i (nL := 1) (cc := cX3_bit) (by decide) rfl (Nat.le_of_ble_eq_true rfl) rfl rfl hf (fun g C => ?_)
  refine g_sub C (lv' := [(0, .int p0)]) [0] rfl ?_
  unfold fX3_bit
  refine g_iconst C (v := (1 : Int32)) dX3_bit_0 ic_1 ?_
  refine g_iload_n C 0 dX3_bit_1 rfl rfl ?_
  refine g_ishl C dX3_bit_2 ?_
  exact g_ret C ⟨dX3_bit_3, rfl, rfl⟩
set_option maxHeartbeats 4000000 in
set_option maxRecDepth 100000 in
theorem mX3_oneIf (l : Launch) (D : va_G) (K : Nat → ClassId) (p0 : Int32) (r : (Int32 × Unit)) (hf : fX3_oneIf p0 = some r) : gMi l yX3_oneIf wsX3_oneIf { frames := 0, cells := 0, slots := 0, locals := 0 } D (gT K) (fun _ : Unit => []) [.int p0] () r := by
  refine mk_i (nL := 1) (cc := cX3_oneIf) (by decide) rfl (Nat.le_of_ble_eq_true rfl) rfl rfl hf (fun g C => ?_)
  refine g_sub C (lv' := [(0, .int p0)]) [0] rfl ?_
  unfold fX3_oneIf
  refine g_iload_n C 0 dX3_oneIf_0 rfl rfl ?_
  refine g_if_eq C 8 dX3_oneIf_1 (by decide) (fun _ => ?_) (fun _ => ?_)
  · refine g_iconst C (v := (0 : Int32)) dX3_oneIf_8 ic_0 ?_
    exact g_ret C ⟨dX3_oneIf_9, rfl, rfl⟩
  · refine g_iconst C (v := (1 : Int32)) dX3_oneIf_4 ic_1 ?_
    refine g_goto C 9 dX3_oneIf_5 (by decide) ?_
    exact g_ret C ⟨dX3_oneIf_9, rfl, rfl⟩
set_option maxHeartbeats 4000000 in
set_option maxRecDepth 100000 in
theorem mX3_isVisitor (l : Launch) (D : va_G) (K : Nat → ClassId) (p0 : Int32) (r : (Int32 × Unit)) (hf : fX3_isVisitor p0 = some r) : gMi l yX3_isVisitor wsX3_isVisitor { frames := 0, cells := 0, slots := 0, locals := 0 } D (gT K) (fun _ : Unit => []) [.int p0] () r := by
  refine mk_z (nL := 1) (cc := cX3_isVisitor) (by decide) rfl (Nat.le_of_ble_eq_true rfl) rfl rfl hf (fun g C => ?_)
  refine g_sub C (lv' := [(0, .int p0)]) [0] rfl ?_
  unfold fX3_isVisitor
  refine g_iload_n C 0 dX3_isVisitor_0 rfl rfl ?_
  refine g_if_lt C 14 dX3_isVisitor_1 (by decide) (fun _ => ?_) (fun _ => ?_)
  · refine g_iconst C (v := (0 : Int32)) dX3_isVisitor_14 ic_0 ?_
    exact g_ret C ⟨dX3_isVisitor_15, rfl, rfl, Or.inl rfl⟩
  · refine g_iload_n C 0 dX3_isVisitor_4 rfl rfl ?_
    refine g_bipush C (v := (6 : Int32)) dX3_isVisitor_5 (by decide) ?_
    refine g_icmp_ge C 14 dX3_isVisitor_7 (by decide) (fun _ => ?_) (fun _ => ?_)
    · refine g_iconst C (v := (0 : Int32)) dX3_isVisitor_14 ic_0 ?_
      exact g_ret C ⟨dX3_isVisitor_15, rfl, rfl, Or.inl rfl⟩
    · refine g_iconst C (v := (1 : Int32)) dX3_isVisitor_10 ic_1 ?_
      refine g_goto C 15 dX3_isVisitor_11 (by decide) ?_
      exact g_ret C ⟨dX3_isVisitor_15, rfl, rfl, Or.inr rfl⟩
set_option maxHeartbeats 4000000 in
set_option maxRecDepth 100000 in
theorem mX3_isBook (l : Launch) (D : va_G) (K : Nat → ClassId) (p0 : Int32) (r : (Int32 × Unit)) (hf : fX3_isBook p0 = some r) : gMi l yX3_isBook wsX3_isBook { frames := 0, cells := 0, slots := 0, locals := 0 } D (gT K) (fun _ : Unit => []) [.int p0] () r := by
  refine mk_z (nL := 1) (cc := cX3_isBook) (by decide) rfl (Nat.le_of_ble_eq_true rfl) rfl rfl hf (fun g C => ?_)
  refine g_sub C (lv' := [(0, .int p0)]) [0] rfl ?_
  unfold fX3_isBook
  refine g_iload_n C 0 dX3_isBook_0 rfl rfl ?_
  refine g_if_lt C 14 dX3_isBook_1 (by decide) (fun _ => ?_) (fun _ => ?_)
  · refine g_iconst C (v := (0 : Int32)) dX3_isBook_14 ic_0 ?_
    exact g_ret C ⟨dX3_isBook_15, rfl, rfl, Or.inl rfl⟩
  · refine g_iload_n C 0 dX3_isBook_4 rfl rfl ?_
    refine g_bipush C (v := (20 : Int32)) dX3_isBook_5 (by decide) ?_
    refine g_icmp_ge C 14 dX3_isBook_7 (by decide) (fun _ => ?_) (fun _ => ?_)
    · refine g_iconst C (v := (0 : Int32)) dX3_isBook_14 ic_0 ?_
      exact g_ret C ⟨dX3_isBook_15, rfl, rfl, Or.inl rfl⟩
    · refine g_iconst C (v := (1 : Int32)) dX3_isBook_10 ic_1 ?_
      refine g_goto C 15 dX3_isBook_11 (by decide) ?_
      exact g_ret C ⟨dX3_isBook_15, rfl, rfl, Or.inr rfl⟩
set_option maxHeartbeats 4000000 in
set_option maxRecDepth 100000 in
theorem mJ6_bitCount_0f7a4 (l : Launch) (D : va_G) (K : Nat → ClassId) (p0 : Int32) (r : (Int32 × Unit)) (hf : fJ6_bitCount_0f7a4 p0 = some r) : gMi l yJ6_bitCount_0f7a4 wsJ6_bitCount_0f7a4 { frames := 0, cells := 0, slots := 0, locals := 0 } D (gT K) (fun _ : Unit => []) [.int p0] () r := by
  refine mk_i (nL := 1) (cc := cJ6_bitCount_0f7a4) (by decide) rfl (Nat.le_of_ble_eq_true rfl) rfl rfl hf (fun g C => ?_)
  refine g_sub C (lv' := [(0, .int p0)]) [0] rfl ?_
  unfold fJ6_bitCount_0f7a4
  refine g_iload_n C 0 dJ6_bitCount_0f7a4_0 rfl rfl ?_
  refine g_iload_n C 0 dJ6_bitCount_0f7a4_1 rfl rfl ?_
  refine g_iconst C (v := (1 : Int32)) dJ6_bitCount_0f7a4_2 ic_1 ?_
  refine g_iushr C dJ6_bitCount_0f7a4_3 ?_
  refine g_topi (fun t1 => ?_)
  refine ldcw_g C (v := (1431655765 : Int32)) (List.mem_of_getElem? (i := 1) rfl) dJ6_bitCount_0f7a4_4 ?_
  refine g_iand C dJ6_bitCount_0f7a4_7 ?_
  refine g_isub C dJ6_bitCount_0f7a4_8 ?_
  refine g_topi (fun t2 => ?_)
  refine g_istore_n C (lv' := [(0, .int t2)]) dJ6_bitCount_0f7a4_9 rfl (by decide) rfl ?_
  refine g_iload_n C 0 dJ6_bitCount_0f7a4_10 rfl rfl ?_
  refine ldcw_g C (v := (858993459 : Int32)) (List.mem_of_getElem? (i := 2) rfl) dJ6_bitCount_0f7a4_11 ?_
  refine g_iand C dJ6_bitCount_0f7a4_14 ?_
  refine g_iload_n C 0 dJ6_bitCount_0f7a4_15 rfl rfl ?_
  refine g_iconst C (v := (2 : Int32)) dJ6_bitCount_0f7a4_16 ic_2 ?_
  refine g_iushr C dJ6_bitCount_0f7a4_17 ?_
  refine g_topi (fun t3 => ?_)
  refine ldcw_g C (v := (858993459 : Int32)) (List.mem_of_getElem? (i := 2) rfl) dJ6_bitCount_0f7a4_18 ?_
  refine g_iand C dJ6_bitCount_0f7a4_21 ?_
  refine g_iadd C dJ6_bitCount_0f7a4_22 ?_
  refine g_topi (fun t4 => ?_)
  refine g_istore_n C (lv' := [(0, .int t4)]) dJ6_bitCount_0f7a4_23 rfl (by decide) rfl ?_
  refine g_iload_n C 0 dJ6_bitCount_0f7a4_24 rfl rfl ?_
  refine g_iload_n C 0 dJ6_bitCount_0f7a4_25 rfl rfl ?_
  refine g_iconst C (v := (4 : Int32)) dJ6_bitCount_0f7a4_26 ic_4 ?_
  refine g_iushr C dJ6_bitCount_0f7a4_27 ?_
  refine g_topi (fun t5 => ?_)
  refine g_iadd C dJ6_bitCount_0f7a4_28 ?_
  refine ldcw_g C (v := (252645135 : Int32)) (List.mem_of_getElem? (i := 3) rfl) dJ6_bitCount_0f7a4_29 ?_
  refine g_iand C dJ6_bitCount_0f7a4_32 ?_
  refine g_topi (fun t6 => ?_)
  refine g_istore_n C (lv' := [(0, .int t6)]) dJ6_bitCount_0f7a4_33 rfl (by decide) rfl ?_
  refine g_iload_n C 0 dJ6_bitCount_0f7a4_34 rfl rfl ?_
  refine g_iload_n C 0 dJ6_bitCount_0f7a4_35 rfl rfl ?_
  refine g_bipush C (v := (8 : Int32)) dJ6_bitCount_0f7a4_36 (by decide) ?_
  refine g_iushr C dJ6_bitCount_0f7a4_38 ?_
  refine g_topi (fun t7 => ?_)
  refine g_iadd C dJ6_bitCount_0f7a4_39 ?_
  refine g_topi (fun t8 => ?_)
  refine g_istore_n C (lv' := [(0, .int t8)]) dJ6_bitCount_0f7a4_40 rfl (by decide) rfl ?_
  refine g_iload_n C 0 dJ6_bitCount_0f7a4_41 rfl rfl ?_
  refine g_iload_n C 0 dJ6_bitCount_0f7a4_42 rfl rfl ?_
  refine g_bipush C (v := (16 : Int32)) dJ6_bitCount_0f7a4_43 (by decide) ?_
  refine g_iushr C dJ6_bitCount_0f7a4_45 ?_
  refine g_topi (fun t9 => ?_)
  refine g_iadd C dJ6_bitCount_0f7a4_46 ?_
  refine g_topi (fun t10 => ?_)
  refine g_istore_n C (lv' := [(0, .int t10)]) dJ6_bitCount_0f7a4_47 rfl (by decide) rfl ?_
  refine g_iload_n C 0 dJ6_bitCount_0f7a4_48 rfl rfl ?_
  refine g_bipush C (v := (63 : Int32)) dJ6_bitCount_0f7a4_49 (by decide) ?_
  refine g_iand C dJ6_bitCount_0f7a4_51 ?_
  exact g_ret C ⟨dJ6_bitCount_0f7a4_52, rfl, rfl⟩
set_option maxHeartbeats 4000000 in
set_option maxRecDepth 100000 in
theorem mX3_isGate (l : Launch) (D : va_G) (K : Nat → ClassId) (p0 : Int32) (r : (Int32 × Unit)) (hf : fX3_isGate p0 = some r) : gMi l yX3_isGate wsX3_isGate { frames := 0, cells := 0, slots := 0, locals := 0 } D (gT K) (fun _ : Unit => []) [.int p0] () r := by
  refine mk_z (nL := 1) (cc := cX3_isGate) (by decide) rfl (Nat.le_of_ble_eq_true rfl) rfl rfl hf (fun g C => ?_)
  refine g_sub C (lv' := [(0, .int p0)]) [0] rfl ?_
  unfold fX3_isGate
  refine g_iload_n C 0 dX3_isGate_0 rfl rfl ?_
  refine g_if_lt C 13 dX3_isGate_1 (by decide) (fun _ => ?_) (fun _ => ?_)
  · refine g_iconst C (v := (0 : Int32)) dX3_isGate_13 ic_0 ?_
    exact g_ret C ⟨dX3_isGate_14, rfl, rfl, Or.inl rfl⟩
  · refine g_iload_n C 0 dX3_isGate_4 rfl rfl ?_
    refine g_iconst C (v := (3 : Int32)) dX3_isGate_5 ic_3 ?_
    refine g_icmp_ge C 13 dX3_isGate_6 (by decide) (fun _ => ?_) (fun _ => ?_)
    · refine g_iconst C (v := (0 : Int32)) dX3_isGate_13 ic_0 ?_
      exact g_ret C ⟨dX3_isGate_14, rfl, rfl, Or.inl rfl⟩
    · refine g_iconst C (v := (1 : Int32)) dX3_isGate_9 ic_1 ?_
      refine g_goto C 14 dX3_isGate_10 (by decide) ?_
      exact g_ret C ⟨dX3_isGate_14, rfl, rfl, Or.inr rfl⟩
set_option maxHeartbeats 4000000 in
set_option maxRecDepth 100000 in
theorem mX3_withoutLastGroups (l : Launch) (D : va_G) (K : Nat → ClassId) (p0 : Int64) (p2 : Int32) (r : (Int64 × Unit)) (hf : fX3_withoutLastGroups p0 p2 = some r) : gMl l yX3_withoutLastGroups wsX3_withoutLastGroups { frames := 0, cells := 0, slots := 0, locals := 0 } D (gT K) (fun _ : Unit => []) [.long p0, .int p2] () r := by
  refine mk_l (nL := 6) (cc := cX3_withoutLastGroups) (by decide) rfl (Nat.le_of_ble_eq_true rfl) rfl rfl hf (fun g C => ?_)
  refine g_sub C (lv' := [(0, .long p0), (2, .int p2)]) [0, 1] rfl ?_
  unfold fX3_withoutLastGroups
  have h_5 : ∀ (n : Nat) (σ : Unit) (v2 : Int32) (v3 : Int64) (v5 : Int32), g (fX3_withoutLastGroups_L5 n σ v2 v3 v5) 5 [(2, .int v2), (3, .long v3), (5, .int v5)] [] σ := by
    intro n
    induction n with
    | zero =>
      intro σ v2 v3 v5
      exact g_none C
    | succ n5 ih_5 =>
      intro σ v2 v3 v5
      unfold fX3_withoutLastGroups_L5
      refine g_iload C 2 dX3_withoutLastGroups_5 rfl ?_
      refine g_iload_n C 0 dX3_withoutLastGroups_7 rfl rfl ?_
      refine g_icmp_ge C 23 dX3_withoutLastGroups_8 (by decide) (fun _ => ?_) (fun _ => ?_)
      · refine g_lload_n C 1 dX3_withoutLastGroups_23 rfl rfl ?_
        exact g_ret C ⟨dX3_withoutLastGroups_24, rfl, rfl⟩
      · refine g_lload_n C 1 dX3_withoutLastGroups_11 rfl rfl ?_
        refine g_ldc2 C (v := (100000 : Int64)) (List.mem_of_getElem? (i := 1) rfl) dX3_withoutLastGroups_12 ?_
        refine g_ldiv C dX3_withoutLastGroups_15 (by decide) ?_
        refine g_topl (fun t1 => ?_)
        refine g_lstore_n C (lv' := [(3, .long t1), (2, .int v2), (5, .int v5)]) dX3_withoutLastGroups_16 rfl (by decide) rfl ?_
        refine g_iinc C (w := (1 : Int32)) (lv' := [(5, .int (v5 + (1 : Int32))), (3, .long t1), (2, .int v2)]) 2 dX3_withoutLastGroups_17 rfl ic_1 (by decide) rfl ?_
        refine g_goto C 5 dX3_withoutLastGroups_20 (by decide) ?_
        refine g_sub C (lv' := [(2, .int v2), (3, .long t1), (5, .int (v5 + (1 : Int32)))]) [2, 1, 0] rfl ?_
        exact ih_5 σ v2 t1 (v5 + (1 : Int32))
  refine g_lload_n C 0 dX3_withoutLastGroups_0 rfl rfl ?_
  refine g_lstore_n C (lv' := [(3, .long p0), (0, .long p0), (2, .int p2)]) dX3_withoutLastGroups_1 rfl (by decide) rfl ?_
  refine g_iconst C (v := (0 : Int32)) dX3_withoutLastGroups_2 ic_0 ?_
  refine g_istore C (lv' := [(5, .int (0 : Int32)), (3, .long p0), (0, .long p0), (2, .int p2)]) dX3_withoutLastGroups_3 (by decide) rfl ?_
  refine g_sub C (lv' := [(2, .int p2), (3, .long p0), (5, .int (0 : Int32))]) [3, 1, 0] rfl ?_
  exact h_5 gFuel () p2 p0 (0 : Int32)
set_option maxHeartbeats 4000000 in
set_option maxRecDepth 100000 in
theorem mX3_isTickNumber (l : Launch) (D : va_G) (K : Nat → ClassId) (p0 : Int32) (r : (Int32 × Unit)) (hf : fX3_isTickNumber p0 = some r) : gMi l yX3_isTickNumber wsX3_isTickNumber { frames := 0, cells := 0, slots := 0, locals := 0 } D (gT K) (fun _ : Unit => []) [.int p0] () r := by
  refine mk_z (nL := 1) (cc := cX3_isTickNumber) (by decide) rfl (Nat.le_of_ble_eq_true rfl) rfl rfl hf (fun g C => ?_)
  refine g_sub C (lv' := [(0, .int p0)]) [0] rfl ?_
  unfold fX3_isTickNumber
  refine g_iload_n C 0 dX3_isTickNumber_0 rfl rfl ?_
  refine g_iconst C (v := (1 : Int32)) dX3_isTickNumber_1 ic_1 ?_
  refine g_icmp_lt C 15 dX3_isTickNumber_2 (by decide) (fun _ => ?_) (fun _ => ?_)
  · refine g_iconst C (v := (0 : Int32)) dX3_isTickNumber_15 ic_0 ?_
    exact g_ret C ⟨dX3_isTickNumber_16, rfl, rfl, Or.inl rfl⟩
  · refine g_iload_n C 0 dX3_isTickNumber_5 rfl rfl ?_
    refine g_bipush C (v := (50 : Int32)) dX3_isTickNumber_6 (by decide) ?_
    refine g_icmp_gt C 15 dX3_isTickNumber_8 (by decide) (fun _ => ?_) (fun _ => ?_)
    · refine g_iconst C (v := (0 : Int32)) dX3_isTickNumber_15 ic_0 ?_
      exact g_ret C ⟨dX3_isTickNumber_16, rfl, rfl, Or.inl rfl⟩
    · refine g_iconst C (v := (1 : Int32)) dX3_isTickNumber_11 ic_1 ?_
      refine g_goto C 16 dX3_isTickNumber_12 (by decide) ?_
      exact g_ret C ⟨dX3_isTickNumber_16, rfl, rfl, Or.inr rfl⟩
set_option maxHeartbeats 4000000 in
set_option maxRecDepth 100000 in
theorem mX3_isSetting (l : Launch) (D : va_G) (K : Nat → ClassId) (p0 : Int32) (p1 : Int32) (r : (Int32 × Unit)) (hf : fX3_isSetting p0 p1 = some r) : gMi l yX3_isSetting wsX3_isSetting { frames := 1, cells := 0, slots := 0, locals := 20 } D (gT K) (fun _ : Unit => []) [.int p0, .int p1] () r := by
  refine mk_z (nL := 2) (cc := cX3_isSetting) (by decide) rfl (Nat.le_of_ble_eq_true rfl) rfl rfl hf (fun g C => ?_)
  refine g_sub C (lv' := [(0, .int p0), (1, .int p1)]) [0, 1] rfl ?_
  unfold fX3_isSetting
  refine g_iload_n C 0 dX3_isSetting_0 rfl rfl ?_
  refine g_callSi C (n := 1) (As := [.int p0]) (rest := []) (fun r h => mX3_isGate l D K _ r h) gE.nil (τ := ()) gX3_isSetting_X3_isGate rfl (by decide +kernel) ⟨Nat.le_of_ble_eq_true rfl, Nat.le_of_ble_eq_true rfl, rfl, rfl⟩ rfl rfl (Nat.le_of_ble_eq_true rfl) dX3_isSetting_1 (fun r1 _ => ?_)
  refine g_if_eq C 23 dX3_isSetting_4 (by decide) (fun _ => ?_) (fun _ => ?_)
  · refine g_iload_n C 0 dX3_isSetting_23 rfl rfl ?_
    refine g_iconst C (v := (3 : Int32)) dX3_isSetting_24 ic_3 ?_
    refine g_icmp_ne C 44 dX3_isSetting_25 (by decide) (fun _ => ?_) (fun _ => ?_)
    · refine g_iload_n C 1 dX3_isSetting_28 rfl rfl ?_
      refine g_iconst C (v := (1 : Int32)) dX3_isSetting_29 ic_1 ?_
      refine g_icmp_lt C 42 dX3_isSetting_30 (by decide) (fun _ => ?_) (fun _ => ?_)
      · refine g_iconst C (v := (0 : Int32)) dX3_isSetting_42 ic_0 ?_
        exact g_ret C ⟨dX3_isSetting_43, rfl, rfl, Or.inl rfl⟩
      · refine g_iload_n C 1 dX3_isSetting_33 rfl rfl ?_
        refine g_iconst C (v := (3 : Int32)) dX3_isSetting_34 ic_3 ?_
        refine g_icmp_gt C 42 dX3_isSetting_35 (by decide) (fun _ => ?_) (fun _ => ?_)
        · refine g_iconst C (v := (0 : Int32)) dX3_isSetting_42 ic_0 ?_
          exact g_ret C ⟨dX3_isSetting_43, rfl, rfl, Or.inl rfl⟩
        · refine g_iconst C (v := (1 : Int32)) dX3_isSetting_38 ic_1 ?_
          refine g_goto C 43 dX3_isSetting_39 (by decide) ?_
          exact g_ret C ⟨dX3_isSetting_43, rfl, rfl, Or.inr rfl⟩
    · refine g_iload_n C 0 dX3_isSetting_44 rfl rfl ?_
      refine g_iconst C (v := (4 : Int32)) dX3_isSetting_45 ic_4 ?_
      refine g_icmp_ne C 63 dX3_isSetting_46 (by decide) (fun _ => ?_) (fun _ => ?_)
      · refine g_iload_n C 1 dX3_isSetting_49 rfl rfl ?_
        refine g_if_lt C 63 dX3_isSetting_50 (by decide) (fun _ => ?_) (fun _ => ?_)
        · refine g_iconst C (v := (0 : Int32)) dX3_isSetting_63 ic_0 ?_
          exact g_ret C ⟨dX3_isSetting_64, rfl, rfl, Or.inl rfl⟩
        · refine g_iload_n C 1 dX3_isSetting_53 rfl rfl ?_
          refine g_bipush C (v := (9 : Int32)) dX3_isSetting_54 (by decide) ?_
          refine g_icmp_gt C 63 dX3_isSetting_56 (by decide) (fun _ => ?_) (fun _ => ?_)
          · refine g_iconst C (v := (0 : Int32)) dX3_isSetting_63 ic_0 ?_
            exact g_ret C ⟨dX3_isSetting_64, rfl, rfl, Or.inl rfl⟩
          · refine g_iconst C (v := (1 : Int32)) dX3_isSetting_59 ic_1 ?_
            refine g_goto C 64 dX3_isSetting_60 (by decide) ?_
            exact g_ret C ⟨dX3_isSetting_64, rfl, rfl, Or.inr rfl⟩
      · refine g_iconst C (v := (0 : Int32)) dX3_isSetting_63 ic_0 ?_
        exact g_ret C ⟨dX3_isSetting_64, rfl, rfl, Or.inl rfl⟩
  · refine g_iload_n C 1 dX3_isSetting_7 rfl rfl ?_
    refine g_if_lt C 21 dX3_isSetting_8 (by decide) (fun _ => ?_) (fun _ => ?_)
    · refine g_iconst C (v := (0 : Int32)) dX3_isSetting_21 ic_0 ?_
      exact g_ret C ⟨dX3_isSetting_22, rfl, rfl, Or.inl rfl⟩
    · refine g_iload_n C 1 dX3_isSetting_11 rfl rfl ?_
      refine g_bipush C (v := (15 : Int32)) dX3_isSetting_12 (by decide) ?_
      refine g_icmp_gt C 21 dX3_isSetting_14 (by decide) (fun _ => ?_) (fun _ => ?_)
      · refine g_iconst C (v := (0 : Int32)) dX3_isSetting_21 ic_0 ?_
        exact g_ret C ⟨dX3_isSetting_22, rfl, rfl, Or.inl rfl⟩
      · refine g_iconst C (v := (1 : Int32)) dX3_isSetting_17 ic_1 ?_
        refine g_goto C 22 dX3_isSetting_18 (by decide) ?_
        exact g_ret C ⟨dX3_isSetting_22, rfl, rfl, Or.inr rfl⟩
