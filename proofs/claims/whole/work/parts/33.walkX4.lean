set_option maxHeartbeats 4000000 in
set_option maxRecDepth 100000 in
theorem mX4_copy_s (l : Launch) (D : va_G) (K : Nat → ClassId) (b : Nat) (σ : (Nat → Int32)) (p1 : Int32) (p3 : Int32) (p4 : Int32) (r : (Nat → Int32)) (hf : fX4_copy_s σ p1 p3 p4 = some r) : gMv l yX4_copy wsX4_copy { frames := 0, cells := 0, slots := 0, locals := 0 } D (gT K) (RW K b 233) [.ref b, .int p1, .ref b, .int p3, .int p4] σ r := by
  refine mk_v (nL := 6) (cc := cX4_copy) (by decide) rfl (Nat.le_of_ble_eq_true rfl) rfl rfl hf (fun g C => ?_)
  refine g_sub C (lv' := [(0, .ref b), (1, .int p1), (2, .ref b), (3, .int p3), (4, .int p4)]) [0, 1, 2, 3, 4] rfl ?_
  unfold fX4_copy_s
  have h_3 : ∀ (n : Nat) (σ : (Nat → Int32)) (v1 : Int32) (v3 : Int32) (v4 : Int32) (v5 : Int32), g (fX4_copy_s_L3 n σ v1 v3 v4 v5) 3 [(0, .ref b), (1, .int v1), (2, .ref b), (3, .int v3), (4, .int v4), (5, .int v5)] [] σ := by
    intro n
    induction n with
    | zero =>
      intro σ v1 v3 v4 v5
      exact g_none C
    | succ n3 ih_3 =>
      intro σ v1 v3 v4 v5
      unfold fX4_copy_s_L3
      refine g_iload C 5 dX4_copy_3 rfl ?_
      refine g_iload C 4 dX4_copy_5 rfl ?_
      refine g_icmp_ge C 28 dX4_copy_7 (by decide) (fun _ => ?_) (fun _ => ?_)
      · exact g_ret C ⟨dX4_copy_28, rfl, rfl⟩
      · refine g_aload_n C 2 dX4_copy_10 rfl rfl ?_
        refine g_iload_n C 3 dX4_copy_11 rfl rfl ?_
        refine g_iload C 5 dX4_copy_12 rfl ?_
        refine g_iadd C dX4_copy_14 ?_
        refine g_aload_n C 0 dX4_copy_15 rfl rfl ?_
        refine g_iload_n C 1 dX4_copy_16 rfl rfl ?_
        refine g_iload C 5 dX4_copy_17 rfl ?_
        refine g_iadd C dX4_copy_19 ?_
        refine g_ialdG C 0 0 (RWg_0 K b 233 _) rfl dX4_copy_20 ?_
        refine g_topi (fun t1 => ?_)
        refine g_iastG C 0 0 (RWg_0 K b 233 _) rfl (RWs_0 K b 233 _ _) dX4_copy_21 ?_
        refine g_state (fun u2 => ?_)
        refine g_iinc C (w := (1 : Int32)) (lv' := [(5, .int (v5 + (1 : Int32))), (0, .ref b), (1, .int v1), (2, .ref b), (3, .int v3), (4, .int v4)]) 5 dX4_copy_22 rfl ic_1 (by decide) rfl ?_
        refine g_goto C 3 dX4_copy_25 (by decide) ?_
        refine g_sub C (lv' := [(0, .ref b), (1, .int v1), (2, .ref b), (3, .int v3), (4, .int v4), (5, .int (v5 + (1 : Int32)))]) [1, 2, 3, 4, 5, 0] rfl ?_
        exact ih_3 u2 v1 v3 v4 (v5 + (1 : Int32))
  refine g_iconst C (v := (0 : Int32)) dX4_copy_0 ic_0 ?_
  refine g_istore C (lv' := [(5, .int (0 : Int32)), (0, .ref b), (1, .int p1), (2, .ref b), (3, .int p3), (4, .int p4)]) dX4_copy_1 (by decide) rfl ?_
  refine g_sub C (lv' := [(0, .ref b), (1, .int p1), (2, .ref b), (3, .int p3), (4, .int p4), (5, .int (0 : Int32))]) [1, 2, 3, 4, 5, 0] rfl ?_
  exact h_3 gFuel σ p1 p3 p4 (0 : Int32)
set_option maxHeartbeats 4000000 in
set_option maxRecDepth 100000 in
theorem mX4_copy_s3262 (l : Launch) (D : va_G) (K : Nat → ClassId) (b : Nat) (σ : (Nat → Int32)) (p1 : Int32) (p3 : Int32) (p4 : Int32) (r : (Nat → Int32)) (hf : fX4_copy_s3262 σ p1 p3 p4 = some r) : gMv l yX4_copy wsX4_copy { frames := 0, cells := 0, slots := 0, locals := 0 } D (gT K) (RW K b 3262) [.ref b, .int p1, .ref b, .int p3, .int p4] σ r := by
  refine mk_v (nL := 6) (cc := cX4_copy) (by decide) rfl (Nat.le_of_ble_eq_true rfl) rfl rfl hf (fun g C => ?_)
  refine g_sub C (lv' := [(0, .ref b), (1, .int p1), (2, .ref b), (3, .int p3), (4, .int p4)]) [0, 1, 2, 3, 4] rfl ?_
  unfold fX4_copy_s3262
  have h_3 : ∀ (n : Nat) (σ : (Nat → Int32)) (v1 : Int32) (v3 : Int32) (v4 : Int32) (v5 : Int32), g (fX4_copy_s3262_L3 n σ v1 v3 v4 v5) 3 [(0, .ref b), (1, .int v1), (2, .ref b), (3, .int v3), (4, .int v4), (5, .int v5)] [] σ := by
    intro n
    induction n with
    | zero =>
      intro σ v1 v3 v4 v5
      exact g_none C
    | succ n3 ih_3 =>
      intro σ v1 v3 v4 v5
      unfold fX4_copy_s3262_L3
      refine g_iload C 5 dX4_copy_3 rfl ?_
      refine g_iload C 4 dX4_copy_5 rfl ?_
      refine g_icmp_ge C 28 dX4_copy_7 (by decide) (fun _ => ?_) (fun _ => ?_)
      · exact g_ret C ⟨dX4_copy_28, rfl, rfl⟩
      · refine g_aload_n C 2 dX4_copy_10 rfl rfl ?_
        refine g_iload_n C 3 dX4_copy_11 rfl rfl ?_
        refine g_iload C 5 dX4_copy_12 rfl ?_
        refine g_iadd C dX4_copy_14 ?_
        refine g_aload_n C 0 dX4_copy_15 rfl rfl ?_
        refine g_iload_n C 1 dX4_copy_16 rfl rfl ?_
        refine g_iload C 5 dX4_copy_17 rfl ?_
        refine g_iadd C dX4_copy_19 ?_
        refine g_ialdG C 0 0 (RWg_0 K b 3262 _) rfl dX4_copy_20 ?_
        refine g_topi (fun t1 => ?_)
        refine g_iastG C 0 0 (RWg_0 K b 3262 _) rfl (RWs_0 K b 3262 _ _) dX4_copy_21 ?_
        refine g_state (fun u2 => ?_)
        refine g_iinc C (w := (1 : Int32)) (lv' := [(5, .int (v5 + (1 : Int32))), (0, .ref b), (1, .int v1), (2, .ref b), (3, .int v3), (4, .int v4)]) 5 dX4_copy_22 rfl ic_1 (by decide) rfl ?_
        refine g_goto C 3 dX4_copy_25 (by decide) ?_
        refine g_sub C (lv' := [(0, .ref b), (1, .int v1), (2, .ref b), (3, .int v3), (4, .int v4), (5, .int (v5 + (1 : Int32)))]) [1, 2, 3, 4, 5, 0] rfl ?_
        exact ih_3 u2 v1 v3 v4 (v5 + (1 : Int32))
  refine g_iconst C (v := (0 : Int32)) dX4_copy_0 ic_0 ?_
  refine g_istore C (lv' := [(5, .int (0 : Int32)), (0, .ref b), (1, .int p1), (2, .ref b), (3, .int p3), (4, .int p4)]) dX4_copy_1 (by decide) rfl ?_
  refine g_sub C (lv' := [(0, .ref b), (1, .int p1), (2, .ref b), (3, .int p3), (4, .int p4), (5, .int (0 : Int32))]) [1, 2, 3, 4, 5, 0] rfl ?_
  exact h_3 gFuel σ p1 p3 p4 (0 : Int32)
set_option maxHeartbeats 4000000 in
set_option maxRecDepth 100000 in
theorem mX4_copy_233_3262 (l : Launch) (D : va_G) (K : Nat → ClassId) (b0 b1 : Nat) (σ : ((Nat → Int32) × (Nat → Int32))) (p1 : Int32) (p3 : Int32) (p4 : Int32) (r : ((Nat → Int32) × (Nat → Int32))) (hf : fX4_copy_233_3262 σ p1 p3 p4 = some r) : gMv l yX4_copy wsX4_copy { frames := 0, cells := 0, slots := 0, locals := 0 } D (gT K) (CW K b0 233 b1 3262) [.ref b0, .int p1, .ref b1, .int p3, .int p4] σ r := by
  refine mk_v (nL := 6) (cc := cX4_copy) (by decide) rfl (Nat.le_of_ble_eq_true rfl) rfl rfl hf (fun g C => ?_)
  refine g_sub C (lv' := [(0, .ref b0), (1, .int p1), (2, .ref b1), (3, .int p3), (4, .int p4)]) [0, 1, 2, 3, 4] rfl ?_
  unfold fX4_copy_233_3262
  have h_3 : ∀ (n : Nat) (σ : ((Nat → Int32) × (Nat → Int32))) (v1 : Int32) (v3 : Int32) (v4 : Int32) (v5 : Int32), g (fX4_copy_233_3262_L3 n σ v1 v3 v4 v5) 3 [(0, .ref b0), (1, .int v1), (2, .ref b1), (3, .int v3), (4, .int v4), (5, .int v5)] [] σ := by
    intro n
    induction n with
    | zero =>
      intro σ v1 v3 v4 v5
      exact g_none C
    | succ n3 ih_3 =>
      intro σ v1 v3 v4 v5
      unfold fX4_copy_233_3262_L3
      refine g_iload C 5 dX4_copy_3 rfl ?_
      refine g_iload C 4 dX4_copy_5 rfl ?_
      refine g_icmp_ge C 28 dX4_copy_7 (by decide) (fun _ => ?_) (fun _ => ?_)
      · exact g_ret C ⟨dX4_copy_28, rfl, rfl⟩
      · refine g_aload_n C 2 dX4_copy_10 rfl rfl ?_
        refine g_iload_n C 3 dX4_copy_11 rfl rfl ?_
        refine g_iload C 5 dX4_copy_12 rfl ?_
        refine g_iadd C dX4_copy_14 ?_
        refine g_aload_n C 0 dX4_copy_15 rfl rfl ?_
        refine g_iload_n C 1 dX4_copy_16 rfl rfl ?_
        refine g_iload C 5 dX4_copy_17 rfl ?_
        refine g_iadd C dX4_copy_19 ?_
        refine g_ialdG C 0 0 (CWg_0 K b0 233 b1 3262 _) rfl dX4_copy_20 ?_
        refine g_topi (fun t1 => ?_)
        refine g_iastG C 1 0 (CWg_1 K b0 233 b1 3262 _) rfl (CWs_1 K b0 233 b1 3262 _ _) dX4_copy_21 ?_
        refine g_state (fun u2 => ?_)
        refine g_iinc C (w := (1 : Int32)) (lv' := [(5, .int (v5 + (1 : Int32))), (0, .ref b0), (1, .int v1), (2, .ref b1), (3, .int v3), (4, .int v4)]) 5 dX4_copy_22 rfl ic_1 (by decide) rfl ?_
        refine g_goto C 3 dX4_copy_25 (by decide) ?_
        refine g_sub C (lv' := [(0, .ref b0), (1, .int v1), (2, .ref b1), (3, .int v3), (4, .int v4), (5, .int (v5 + (1 : Int32)))]) [1, 2, 3, 4, 5, 0] rfl ?_
        exact ih_3 u2 v1 v3 v4 (v5 + (1 : Int32))
  refine g_iconst C (v := (0 : Int32)) dX4_copy_0 ic_0 ?_
  refine g_istore C (lv' := [(5, .int (0 : Int32)), (0, .ref b0), (1, .int p1), (2, .ref b1), (3, .int p3), (4, .int p4)]) dX4_copy_1 (by decide) rfl ?_
  refine g_sub C (lv' := [(0, .ref b0), (1, .int p1), (2, .ref b1), (3, .int p3), (4, .int p4), (5, .int (0 : Int32))]) [1, 2, 3, 4, 5, 0] rfl ?_
  exact h_3 gFuel σ p1 p3 p4 (0 : Int32)
set_option maxHeartbeats 4000000 in
set_option maxRecDepth 100000 in
theorem mX4_copy_233_233 (l : Launch) (D : va_G) (K : Nat → ClassId) (b0 b1 : Nat) (σ : ((Nat → Int32) × (Nat → Int32))) (p1 : Int32) (p3 : Int32) (p4 : Int32) (r : ((Nat → Int32) × (Nat → Int32))) (hf : fX4_copy_233_233 σ p1 p3 p4 = some r) : gMv l yX4_copy wsX4_copy { frames := 0, cells := 0, slots := 0, locals := 0 } D (gT K) (CW K b0 233 b1 233) [.ref b0, .int p1, .ref b1, .int p3, .int p4] σ r := by
  refine mk_v (nL := 6) (cc := cX4_copy) (by decide) rfl (Nat.le_of_ble_eq_true rfl) rfl rfl hf (fun g C => ?_)
  refine g_sub C (lv' := [(0, .ref b0), (1, .int p1), (2, .ref b1), (3, .int p3), (4, .int p4)]) [0, 1, 2, 3, 4] rfl ?_
  unfold fX4_copy_233_233
  have h_3 : ∀ (n : Nat) (σ : ((Nat → Int32) × (Nat → Int32))) (v1 : Int32) (v3 : Int32) (v4 : Int32) (v5 : Int32), g (fX4_copy_233_233_L3 n σ v1 v3 v4 v5) 3 [(0, .ref b0), (1, .int v1), (2, .ref b1), (3, .int v3), (4, .int v4), (5, .int v5)] [] σ := by
    intro n
    induction n with
    | zero =>
      intro σ v1 v3 v4 v5
      exact g_none C
    | succ n3 ih_3 =>
      intro σ v1 v3 v4 v5
      unfold fX4_copy_233_233_L3
      refine g_iload C 5 dX4_copy_3 rfl ?_
      refine g_iload C 4 dX4_copy_5 rfl ?_
      refine g_icmp_ge C 28 dX4_copy_7 (by decide) (fun _ => ?_) (fun _ => ?_)
      · exact g_ret C ⟨dX4_copy_28, rfl, rfl⟩
      · refine g_aload_n C 2 dX4_copy_10 rfl rfl ?_
        refine g_iload_n C 3 dX4_copy_11 rfl rfl ?_
        refine g_iload C 5 dX4_copy_12 rfl ?_
        refine g_iadd C dX4_copy_14 ?_
        refine g_aload_n C 0 dX4_copy_15 rfl rfl ?_
        refine g_iload_n C 1 dX4_copy_16 rfl rfl ?_
        refine g_iload C 5 dX4_copy_17 rfl ?_
        refine g_iadd C dX4_copy_19 ?_
        refine g_ialdG C 0 0 (CWg_0 K b0 233 b1 233 _) rfl dX4_copy_20 ?_
        refine g_topi (fun t1 => ?_)
        refine g_iastG C 1 0 (CWg_1 K b0 233 b1 233 _) rfl (CWs_1 K b0 233 b1 233 _ _) dX4_copy_21 ?_
        refine g_state (fun u2 => ?_)
        refine g_iinc C (w := (1 : Int32)) (lv' := [(5, .int (v5 + (1 : Int32))), (0, .ref b0), (1, .int v1), (2, .ref b1), (3, .int v3), (4, .int v4)]) 5 dX4_copy_22 rfl ic_1 (by decide) rfl ?_
        refine g_goto C 3 dX4_copy_25 (by decide) ?_
        refine g_sub C (lv' := [(0, .ref b0), (1, .int v1), (2, .ref b1), (3, .int v3), (4, .int v4), (5, .int (v5 + (1 : Int32)))]) [1, 2, 3, 4, 5, 0] rfl ?_
        exact ih_3 u2 v1 v3 v4 (v5 + (1 : Int32))
  refine g_iconst C (v := (0 : Int32)) dX4_copy_0 ic_0 ?_
  refine g_istore C (lv' := [(5, .int (0 : Int32)), (0, .ref b0), (1, .int p1), (2, .ref b1), (3, .int p3), (4, .int p4)]) dX4_copy_1 (by decide) rfl ?_
  refine g_sub C (lv' := [(0, .ref b0), (1, .int p1), (2, .ref b1), (3, .int p3), (4, .int p4), (5, .int (0 : Int32))]) [1, 2, 3, 4, 5, 0] rfl ?_
  exact h_3 gFuel σ p1 p3 p4 (0 : Int32)
set_option maxHeartbeats 4000000 in
set_option maxRecDepth 100000 in
theorem mX4_copy_3262_233 (l : Launch) (D : va_G) (K : Nat → ClassId) (b0 b1 : Nat) (σ : ((Nat → Int32) × (Nat → Int32))) (p1 : Int32) (p3 : Int32) (p4 : Int32) (r : ((Nat → Int32) × (Nat → Int32))) (hf : fX4_copy_3262_233 σ p1 p3 p4 = some r) : gMv l yX4_copy wsX4_copy { frames := 0, cells := 0, slots := 0, locals := 0 } D (gT K) (CW K b0 3262 b1 233) [.ref b0, .int p1, .ref b1, .int p3, .int p4] σ r := by
  refine mk_v (nL := 6) (cc := cX4_copy) (by decide) rfl (Nat.le_of_ble_eq_true rfl) rfl rfl hf (fun g C => ?_)
  refine g_sub C (lv' := [(0, .ref b0), (1, .int p1), (2, .ref b1), (3, .int p3), (4, .int p4)]) [0, 1, 2, 3, 4] rfl ?_
  unfold fX4_copy_3262_233
  have h_3 : ∀ (n : Nat) (σ : ((Nat → Int32) × (Nat → Int32))) (v1 : Int32) (v3 : Int32) (v4 : Int32) (v5 : Int32), g (fX4_copy_3262_233_L3 n σ v1 v3 v4 v5) 3 [(0, .ref b0), (1, .int v1), (2, .ref b1), (3, .int v3), (4, .int v4), (5, .int v5)] [] σ := by
    intro n
    induction n with
    | zero =>
      intro σ v1 v3 v4 v5
      exact g_none C
    | succ n3 ih_3 =>
      intro σ v1 v3 v4 v5
      unfold fX4_copy_3262_233_L3
      refine g_iload C 5 dX4_copy_3 rfl ?_
      refine g_iload C 4 dX4_copy_5 rfl ?_
      refine g_icmp_ge C 28 dX4_copy_7 (by decide) (fun _ => ?_) (fun _ => ?_)
      · exact g_ret C ⟨dX4_copy_28, rfl, rfl⟩
      · refine g_aload_n C 2 dX4_copy_10 rfl rfl ?_
        refine g_iload_n C 3 dX4_copy_11 rfl rfl ?_
        refine g_iload C 5 dX4_copy_12 rfl ?_
        refine g_iadd C dX4_copy_14 ?_
        refine g_aload_n C 0 dX4_copy_15 rfl rfl ?_
        refine g_iload_n C 1 dX4_copy_16 rfl rfl ?_
        refine g_iload C 5 dX4_copy_17 rfl ?_
        refine g_iadd C dX4_copy_19 ?_
        refine g_ialdG C 0 0 (CWg_0 K b0 3262 b1 233 _) rfl dX4_copy_20 ?_
        refine g_topi (fun t1 => ?_)
        refine g_iastG C 1 0 (CWg_1 K b0 3262 b1 233 _) rfl (CWs_1 K b0 3262 b1 233 _ _) dX4_copy_21 ?_
        refine g_state (fun u2 => ?_)
        refine g_iinc C (w := (1 : Int32)) (lv' := [(5, .int (v5 + (1 : Int32))), (0, .ref b0), (1, .int v1), (2, .ref b1), (3, .int v3), (4, .int v4)]) 5 dX4_copy_22 rfl ic_1 (by decide) rfl ?_
        refine g_goto C 3 dX4_copy_25 (by decide) ?_
        refine g_sub C (lv' := [(0, .ref b0), (1, .int v1), (2, .ref b1), (3, .int v3), (4, .int v4), (5, .int (v5 + (1 : Int32)))]) [1, 2, 3, 4, 5, 0] rfl ?_
        exact ih_3 u2 v1 v3 v4 (v5 + (1 : Int32))
  refine g_iconst C (v := (0 : Int32)) dX4_copy_0 ic_0 ?_
  refine g_istore C (lv' := [(5, .int (0 : Int32)), (0, .ref b0), (1, .int p1), (2, .ref b1), (3, .int p3), (4, .int p4)]) dX4_copy_1 (by decide) rfl ?_
  refine g_sub C (lv' := [(0, .ref b0), (1, .int p1), (2, .ref b1), (3, .int p3), (4, .int p4), (5, .int (0 : Int32))]) [1, 2, 3, 4, 5, 0] rfl ?_
  exact h_3 gFuel σ p1 p3 p4 (0 : Int32)
set_option maxHeartbeats 4000000 in
set_option maxRecDepth 100000 in
theorem mX4_copy_233_466 (l : Launch) (D : va_G) (K : Nat → ClassId) (b0 b1 : Nat) (σ : ((Nat → Int32) × (Nat → Int32))) (p1 : Int32) (p3 : Int32) (p4 : Int32) (r : ((Nat → Int32) × (Nat → Int32))) (hf : fX4_copy_233_466 σ p1 p3 p4 = some r) : gMv l yX4_copy wsX4_copy { frames := 0, cells := 0, slots := 0, locals := 0 } D (gT K) (CW K b0 233 b1 466) [.ref b0, .int p1, .ref b1, .int p3, .int p4] σ r := by
  refine mk_v (nL := 6) (cc := cX4_copy) (by decide) rfl (Nat.le_of_ble_eq_true rfl) rfl rfl hf (fun g C => ?_)
  refine g_sub C (lv' := [(0, .ref b0), (1, .int p1), (2, .ref b1), (3, .int p3), (4, .int p4)]) [0, 1, 2, 3, 4] rfl ?_
  unfold fX4_copy_233_466
  have h_3 : ∀ (n : Nat) (σ : ((Nat → Int32) × (Nat → Int32))) (v1 : Int32) (v3 : Int32) (v4 : Int32) (v5 : Int32), g (fX4_copy_233_466_L3 n σ v1 v3 v4 v5) 3 [(0, .ref b0), (1, .int v1), (2, .ref b1), (3, .int v3), (4, .int v4), (5, .int v5)] [] σ := by
    intro n
    induction n with
    | zero =>
      intro σ v1 v3 v4 v5
      exact g_none C
    | succ n3 ih_3 =>
      intro σ v1 v3 v4 v5
      unfold fX4_copy_233_466_L3
      refine g_iload C 5 dX4_copy_3 rfl ?_
      refine g_iload C 4 dX4_copy_5 rfl ?_
      refine g_icmp_ge C 28 dX4_copy_7 (by decide) (fun _ => ?_) (fun _ => ?_)
      · exact g_ret C ⟨dX4_copy_28, rfl, rfl⟩
      · refine g_aload_n C 2 dX4_copy_10 rfl rfl ?_
        refine g_iload_n C 3 dX4_copy_11 rfl rfl ?_
        refine g_iload C 5 dX4_copy_12 rfl ?_
        refine g_iadd C dX4_copy_14 ?_
        refine g_aload_n C 0 dX4_copy_15 rfl rfl ?_
        refine g_iload_n C 1 dX4_copy_16 rfl rfl ?_
        refine g_iload C 5 dX4_copy_17 rfl ?_
        refine g_iadd C dX4_copy_19 ?_
        refine g_ialdG C 0 0 (CWg_0 K b0 233 b1 466 _) rfl dX4_copy_20 ?_
        refine g_topi (fun t1 => ?_)
        refine g_iastG C 1 0 (CWg_1 K b0 233 b1 466 _) rfl (CWs_1 K b0 233 b1 466 _ _) dX4_copy_21 ?_
        refine g_state (fun u2 => ?_)
        refine g_iinc C (w := (1 : Int32)) (lv' := [(5, .int (v5 + (1 : Int32))), (0, .ref b0), (1, .int v1), (2, .ref b1), (3, .int v3), (4, .int v4)]) 5 dX4_copy_22 rfl ic_1 (by decide) rfl ?_
        refine g_goto C 3 dX4_copy_25 (by decide) ?_
        refine g_sub C (lv' := [(0, .ref b0), (1, .int v1), (2, .ref b1), (3, .int v3), (4, .int v4), (5, .int (v5 + (1 : Int32)))]) [1, 2, 3, 4, 5, 0] rfl ?_
        exact ih_3 u2 v1 v3 v4 (v5 + (1 : Int32))
  refine g_iconst C (v := (0 : Int32)) dX4_copy_0 ic_0 ?_
  refine g_istore C (lv' := [(5, .int (0 : Int32)), (0, .ref b0), (1, .int p1), (2, .ref b1), (3, .int p3), (4, .int p4)]) dX4_copy_1 (by decide) rfl ?_
  refine g_sub C (lv' := [(0, .ref b0), (1, .int p1), (2, .ref b1), (3, .int p3), (4, .int p4), (5, .int (0 : Int32))]) [1, 2, 3, 4, 5, 0] rfl ?_
  exact h_3 gFuel σ p1 p3 p4 (0 : Int32)
set_option maxHeartbeats 4000000 in
set_option maxRecDepth 100000 in
theorem mX4_copy_466_233 (l : Launch) (D : va_G) (K : Nat → ClassId) (b0 b1 : Nat) (σ : ((Nat → Int32) × (Nat → Int32))) (p1 : Int32) (p3 : Int32) (p4 : Int32) (r : ((Nat → Int32) × (Nat → Int32))) (hf : fX4_copy_466_233 σ p1 p3 p4 = some r) : gMv l yX4_copy wsX4_copy { frames := 0, cells := 0, slots := 0, locals := 0 } D (gT K) (CW K b0 466 b1 233) [.ref b0, .int p1, .ref b1, .int p3, .int p4] σ r := by
  refine mk_v (nL := 6) (cc := cX4_copy) (by decide) rfl (Nat.le_of_ble_eq_true rfl) rfl rfl hf (fun g C => ?_)
  refine g_sub C (lv' := [(0, .ref b0), (1, .int p1), (2, .ref b1), (3, .int p3), (4, .int p4)]) [0, 1, 2, 3, 4] rfl ?_
  unfold fX4_copy_466_233
  have h_3 : ∀ (n : Nat) (σ : ((Nat → Int32) × (Nat → Int32))) (v1 : Int32) (v3 : Int32) (v4 : Int32) (v5 : Int32), g (fX4_copy_466_233_L3 n σ v1 v3 v4 v5) 3 [(0, .ref b0), (1, .int v1), (2, .ref b1), (3, .int v3), (4, .int v4), (5, .int v5)] [] σ := by
    intro n
    induction n with
    | zero =>
      intro σ v1 v3 v4 v5
      exact g_none C
    | succ n3 ih_3 =>
      intro σ v1 v3 v4 v5
      unfold fX4_copy_466_233_L3
      refine g_iload C 5 dX4_copy_3 rfl ?_
      refine g_iload C 4 dX4_copy_5 rfl ?_
      refine g_icmp_ge C 28 dX4_copy_7 (by decide) (fun _ => ?_) (fun _ => ?_)
      · exact g_ret C ⟨dX4_copy_28, rfl, rfl⟩
      · refine g_aload_n C 2 dX4_copy_10 rfl rfl ?_
        refine g_iload_n C 3 dX4_copy_11 rfl rfl ?_
        refine g_iload C 5 dX4_copy_12 rfl ?_
        refine g_iadd C dX4_copy_14 ?_
        refine g_aload_n C 0 dX4_copy_15 rfl rfl ?_
        refine g_iload_n C 1 dX4_copy_16 rfl rfl ?_
        refine g_iload C 5 dX4_copy_17 rfl ?_
        refine g_iadd C dX4_copy_19 ?_
        refine g_ialdG C 0 0 (CWg_0 K b0 466 b1 233 _) rfl dX4_copy_20 ?_
        refine g_topi (fun t1 => ?_)
        refine g_iastG C 1 0 (CWg_1 K b0 466 b1 233 _) rfl (CWs_1 K b0 466 b1 233 _ _) dX4_copy_21 ?_
        refine g_state (fun u2 => ?_)
        refine g_iinc C (w := (1 : Int32)) (lv' := [(5, .int (v5 + (1 : Int32))), (0, .ref b0), (1, .int v1), (2, .ref b1), (3, .int v3), (4, .int v4)]) 5 dX4_copy_22 rfl ic_1 (by decide) rfl ?_
        refine g_goto C 3 dX4_copy_25 (by decide) ?_
        refine g_sub C (lv' := [(0, .ref b0), (1, .int v1), (2, .ref b1), (3, .int v3), (4, .int v4), (5, .int (v5 + (1 : Int32)))]) [1, 2, 3, 4, 5, 0] rfl ?_
        exact ih_3 u2 v1 v3 v4 (v5 + (1 : Int32))
  refine g_iconst C (v := (0 : Int32)) dX4_copy_0 ic_0 ?_
  refine g_istore C (lv' := [(5, .int (0 : Int32)), (0, .ref b0), (1, .int p1), (2, .ref b1), (3, .int p3), (4, .int p4)]) dX4_copy_1 (by decide) rfl ?_
  refine g_sub C (lv' := [(0, .ref b0), (1, .int p1), (2, .ref b1), (3, .int p3), (4, .int p4), (5, .int (0 : Int32))]) [1, 2, 3, 4, 5, 0] rfl ?_
  exact h_3 gFuel σ p1 p3 p4 (0 : Int32)
set_option maxHeartbeats 4000000 in
set_option maxRecDepth 100000 in
theorem mX4_thrown (l : Launch) (D : va_G) (K : Nat → ClassId) (a : Nat → Nat) (σ : gS) (r : (Int32 × gS)) (hf : fX4_thrown σ  = some r) : gMi l yX4_thrown wsX4_thrown { frames := 0, cells := 0, slots := 0, locals := 0 } D (gT K) (MW K a) [.ref (a 0)] σ r := by
  refine mk_i (nL := 1) (cc := cX4_thrown) (by decide) rfl (Nat.le_of_ble_eq_true rfl) rfl rfl hf (fun g C => ?_)
  refine g_sub C (lv' := [(0, .ref (a 0))]) [0] rfl ?_
  unfold fX4_thrown
  refine g_aload_n C 0 dX4_thrown_0 rfl rfl ?_
  refine g_get C (fun _ h => List.mem_cons_of_mem _ (List.mem_append_right _ h)) 0 (MWg_0 K a _) rfl 0 (by decide) (List.mem_of_getElem? (i := 1) rfl) rfl rfl dX4_thrown_1 ?_
  exact g_ret C ⟨dX4_thrown_4, rfl, rfl⟩
set_option maxHeartbeats 4000000 in
set_option maxRecDepth 100000 in
theorem mX4_refused (l : Launch) (D : va_G) (K : Nat → ClassId) (a : Nat → Nat) (σ : gS) (p1 : Int32) (r : (Int32 × gS)) (hf : fX4_refused σ p1 = some r) : gMi l yX4_refused wsX4_refused { frames := 0, cells := 0, slots := 0, locals := 0 } D (gT K) (MW K a) [.ref (a 0), .int p1] σ r := by
  refine mk_z (nL := 2) (cc := cX4_refused) (by decide) rfl (Nat.le_of_ble_eq_true rfl) rfl rfl hf (fun g C => ?_)
  refine g_sub C (lv' := [(0, .ref (a 0)), (1, .int p1)]) [0, 1] rfl ?_
  unfold fX4_refused
  refine g_aload_n C 0 dX4_refused_0 rfl rfl ?_
  refine g_iload_n C 1 dX4_refused_1 rfl rfl ?_
  refine g_put C (ty := .int) (fun _ h => List.mem_cons_of_mem _ (List.mem_append_right _ h)) tyX4 tyX4_ok nmX4 0 (MWg_0 K a _) rfl 0 (by decide) (List.mem_of_getElem? (i := 1) rfl) rfl rfl (by decide +kernel) rfl rfl (Nat.le_of_ble_eq_true rfl) (MWp_0_0 K a _ _) dX4_refused_2 ?_
  refine g_state (fun u1 => ?_)
  refine g_iload_n C 1 dX4_refused_5 rfl rfl ?_
  refine g_if_le C 13 dX4_refused_6 (by decide) (fun _ => ?_) (fun _ => ?_)
  · refine g_iconst C (v := (0 : Int32)) dX4_refused_13 ic_0 ?_
    exact g_ret C ⟨dX4_refused_14, rfl, rfl, Or.inl rfl⟩
  · refine g_iconst C (v := (1 : Int32)) dX4_refused_9 ic_1 ?_
    refine g_goto C 14 dX4_refused_10 (by decide) ?_
    exact g_ret C ⟨dX4_refused_14, rfl, rfl, Or.inr rfl⟩
set_option maxHeartbeats 4000000 in
set_option maxRecDepth 100000 in
theorem mX4_in (l : Launch) (D : va_G) (K : Nat → ClassId) (p0 : Int64) (p2 : Int64) (p4 : Int64) (r : (Int32 × Unit)) (hf : fX4_in p0 p2 p4 = some r) : gMi l yX4_in wsX4_in { frames := 0, cells := 0, slots := 0, locals := 0 } D (gT K) (fun _ : Unit => []) [.long p0, .long p2, .long p4] () r := by
  refine mk_z (nL := 6) (cc := cX4_in) (by decide) rfl (Nat.le_of_ble_eq_true rfl) rfl rfl hf (fun g C => ?_)
  refine g_sub C (lv' := [(0, .long p0), (2, .long p2), (4, .long p4)]) [0, 1, 2] rfl ?_
  unfold fX4_in
  refine g_lload_n C 0 dX4_in_0 rfl rfl ?_
  refine g_lload_n C 1 dX4_in_1 rfl rfl ?_
  refine g_lcmp C dX4_in_2 ?_
  refine g_if_lt C 17 dX4_in_3 (by decide) (fun _ => ?_) (fun _ => ?_)
  · refine g_iconst C (v := (0 : Int32)) dX4_in_17 ic_0 ?_
    exact g_ret C ⟨dX4_in_18, rfl, rfl, Or.inl rfl⟩
  · refine g_lload_n C 0 dX4_in_6 rfl rfl ?_
    refine g_lload C 2 dX4_in_7 rfl ?_
    refine g_lcmp C dX4_in_9 ?_
    refine g_if_gt C 17 dX4_in_10 (by decide) (fun _ => ?_) (fun _ => ?_)
    · refine g_iconst C (v := (0 : Int32)) dX4_in_17 ic_0 ?_
      exact g_ret C ⟨dX4_in_18, rfl, rfl, Or.inl rfl⟩
    · refine g_iconst C (v := (1 : Int32)) dX4_in_13 ic_1 ?_
      refine g_goto C 18 dX4_in_14 (by decide) ?_
      exact g_ret C ⟨dX4_in_18, rfl, rfl, Or.inr rfl⟩
set_option maxHeartbeats 4000000 in
set_option maxRecDepth 100000 in
theorem mX4_tenTo (l : Launch) (D : va_G) (K : Nat → ClassId) (p0 : Int32) (r : (Int64 × Unit)) (hf : fX4_tenTo p0 = some r) : gMl l yX4_tenTo wsX4_tenTo { frames := 0, cells := 0, slots := 0, locals := 0 } D (gT K) (fun _ : Unit => []) [.int p0] () r := by
  refine mk_l (nL := 4) (cc := cX4_tenTo) (by decide) rfl (Nat.le_of_ble_eq_true rfl) rfl rfl hf (fun g C => ?_)
  refine g_sub C (lv' := [(0, .int p0)]) [0] rfl ?_
  unfold fX4_tenTo
  have h_4 : ∀ (n : Nat) (σ : Unit) (v0 : Int32) (v1 : Int64) (v3 : Int32), g (fX4_tenTo_L4 n σ v0 v1 v3) 4 [(0, .int v0), (1, .long v1), (3, .int v3)] [] σ := by
    intro n
    induction n with
    | zero =>
      intro σ v0 v1 v3
      exact g_none C
    | succ n4 ih_4 =>
      intro σ v0 v1 v3
      unfold fX4_tenTo_L4
      refine g_iload_n C 2 dX4_tenTo_4 rfl rfl ?_
      refine g_iload_n C 0 dX4_tenTo_5 rfl rfl ?_
      refine g_icmp_ge C 21 dX4_tenTo_6 (by decide) (fun _ => ?_) (fun _ => ?_)
      · refine g_lload_n C 1 dX4_tenTo_21 rfl rfl ?_
        exact g_ret C ⟨dX4_tenTo_22, rfl, rfl⟩
      · refine g_lload_n C 1 dX4_tenTo_9 rfl rfl ?_
        refine g_ldc2 C (v := (10 : Int64)) (List.mem_of_getElem? (i := 1) rfl) dX4_tenTo_10 ?_
        refine g_lmul C dX4_tenTo_13 ?_
        refine g_topl (fun t1 => ?_)
        refine g_lstore_n C (lv' := [(1, .long t1), (0, .int v0), (3, .int v3)]) dX4_tenTo_14 rfl (by decide) rfl ?_
        refine g_iinc C (w := (1 : Int32)) (lv' := [(3, .int (v3 + (1 : Int32))), (1, .long t1), (0, .int v0)]) 2 dX4_tenTo_15 rfl ic_1 (by decide) rfl ?_
        refine g_goto C 4 dX4_tenTo_18 (by decide) ?_
        refine g_sub C (lv' := [(0, .int v0), (1, .long t1), (3, .int (v3 + (1 : Int32)))]) [2, 1, 0] rfl ?_
        exact ih_4 σ v0 t1 (v3 + (1 : Int32))
  refine g_lconst C (v := (1 : Int64)) dX4_tenTo_0 (by decide) ?_
  refine g_lstore_n C (lv' := [(1, .long (1 : Int64)), (0, .int p0)]) dX4_tenTo_1 rfl (by decide) rfl ?_
  refine g_iconst C (v := (0 : Int32)) dX4_tenTo_2 ic_0 ?_
  refine g_istore_n C (lv' := [(3, .int (0 : Int32)), (1, .long (1 : Int64)), (0, .int p0)]) dX4_tenTo_3 rfl (by decide) rfl ?_
  refine g_sub C (lv' := [(0, .int p0), (1, .long (1 : Int64)), (3, .int (0 : Int32))]) [2, 1, 0] rfl ?_
  exact h_4 gFuel () p0 (1 : Int64) (0 : Int32)
set_option maxHeartbeats 4000000 in
set_option maxRecDepth 100000 in
theorem mX4_gateAt (l : Launch) (D : va_G) (K : Nat → ClassId) (p0 : Int32) (p1 : Int32) (r : (Int32 × Unit)) (hf : fX4_gateAt p0 p1 = some r) : gMi l yX4_gateAt wsX4_gateAt { frames := 0, cells := 0, slots := 0, locals := 0 } D (gT K) (fun _ : Unit => []) [.int p0, .int p1] () r := by
  refine mk_i (nL := 2) (cc := cX4_gateAt) (by decide) rfl (Nat.le_of_ble_eq_true rfl) rfl rfl hf (fun g C => ?_)
  refine g_sub C (lv' := [(0, .int p0), (1, .int p1)]) [0, 1] rfl ?_
  unfold fX4_gateAt
  refine g_bipush C (v := (124 : Int32)) dX4_gateAt_0 (by decide) ?_
  refine g_iconst C (v := (4 : Int32)) dX4_gateAt_2 ic_4 ?_
  refine g_iload_n C 0 dX4_gateAt_3 rfl rfl ?_
  refine g_imul C dX4_gateAt_4 ?_
  refine g_iadd C dX4_gateAt_5 ?_
  refine g_iload_n C 1 dX4_gateAt_6 rfl rfl ?_
  refine g_iadd C dX4_gateAt_7 ?_
  exact g_ret C ⟨dX4_gateAt_8, rfl, rfl⟩
set_option maxHeartbeats 4000000 in
set_option maxRecDepth 100000 in
theorem mX4_clean (l : Launch) (D : va_G) (K : Nat → ClassId) (b : Nat) (σ : (Nat → Int32)) (r : (Nat → Int32)) (hf : fX4_clean σ  = some r) : gMv l yX4_clean wsX4_clean { frames := 1, cells := 0, slots := 0, locals := 21 } D (gT K) (RW K b 233) [.ref b] σ r := by
  refine mk_v (nL := 2) (cc := cX4_clean) (by decide) rfl (Nat.le_of_ble_eq_true rfl) rfl rfl hf (fun g C => ?_)
  refine g_sub C (lv' := [(0, .ref b)]) [0] rfl ?_
  unfold fX4_clean
  have h_2 : ∀ (n : Nat) (σ : (Nat → Int32)) (v1 : Int32), g (fX4_clean_L2 n σ v1) 2 [(0, .ref b), (1, .int v1)] [] σ := by
    intro n
    induction n with
    | zero =>
      intro σ v1
      exact g_none C
    | succ n2 ih_2 =>
      have h_21 : ∀ (n : Nat) (σ : (Nat → Int32)) (v1 : Int32), g (fX4_clean_L21 n σ v1) 21 [(0, .ref b), (1, .int v1)] [] σ := by
        intro n
        induction n with
        | zero =>
          intro σ v1
          exact g_none C
        | succ n21 ih_21 =>
          intro σ v1
          unfold fX4_clean_L21
          refine g_iload_n C 1 dX4_clean_21 rfl rfl ?_
          refine g_iconst C (v := (3 : Int32)) dX4_clean_22 ic_3 ?_
          refine g_icmp_ge C 41 dX4_clean_23 (by decide) (fun _ => ?_) (fun _ => ?_)
          · refine g_aload_n C 0 dX4_clean_41 rfl rfl ?_
            refine g_sipush C (v := (196 : Int32)) dX4_clean_42 (by decide) ?_
            refine g_iconst C (v := (2 : Int32)) dX4_clean_45 ic_2 ?_
            refine g_iast C 0 0 (RWg_0 K b 233 _) rfl (by decide) (RWs_0 K b 233 _ _) dX4_clean_46 ?_
            refine g_state (fun u1 => ?_)
            refine g_aload_n C 0 dX4_clean_47 rfl rfl ?_
            refine g_sipush C (v := (197 : Int32)) dX4_clean_48 (by decide) ?_
            refine g_iconst C (v := (1 : Int32)) dX4_clean_51 ic_1 ?_
            refine g_iast C 0 0 (RWg_0 K b 233 _) rfl (by decide) (RWs_0 K b 233 _ _) dX4_clean_52 ?_
            refine g_state (fun u2 => ?_)
            exact g_ret C ⟨dX4_clean_53, rfl, rfl⟩
          · refine g_aload_n C 0 dX4_clean_26 rfl rfl ?_
            refine g_iload_n C 1 dX4_clean_27 rfl rfl ?_
            refine g_iconst C (v := (0 : Int32)) dX4_clean_28 ic_0 ?_
            refine g_callSi C (n := 2) (As := [.int v1, .int (0 : Int32)]) (rest := [.ref b]) (fun r h => mX4_gateAt l D K _ _ r h) gE.nil (τ := ()) gX4_clean_X4_gateAt rfl (by decide +kernel) ⟨Nat.le_of_ble_eq_true rfl, Nat.le_of_ble_eq_true rfl, rfl, rfl⟩ rfl rfl (Nat.le_of_ble_eq_true rfl) dX4_clean_29 (fun r3 _ => ?_)
            refine g_bipush C (v := (7 : Int32)) dX4_clean_32 (by decide) ?_
            refine g_iastG C 0 0 (RWg_0 K b 233 _) rfl (RWs_0 K b 233 _ _) dX4_clean_34 ?_
            refine g_state (fun u4 => ?_)
            refine g_iinc C (w := (1 : Int32)) (lv' := [(1, .int (v1 + (1 : Int32))), (0, .ref b)]) 1 dX4_clean_35 rfl ic_1 (by decide) rfl ?_
            refine g_goto C 21 dX4_clean_38 (by decide) ?_
            refine g_sub C (lv' := [(0, .ref b), (1, .int (v1 + (1 : Int32)))]) [1, 0] rfl ?_
            exact ih_21 u4 (v1 + (1 : Int32))
      intro σ v1
      unfold fX4_clean_L2
      refine g_iload_n C 1 dX4_clean_2 rfl rfl ?_
      refine g_sipush C (v := (233 : Int32)) dX4_clean_3 (by decide) ?_
      refine g_icmp_ge C 19 dX4_clean_6 (by decide) (fun _ => ?_) (fun _ => ?_)
      · refine g_iconst C (v := (0 : Int32)) dX4_clean_19 ic_0 ?_
        refine g_istore_n C (lv' := [(1, .int (0 : Int32)), (0, .ref b)]) dX4_clean_20 rfl (by decide) rfl ?_
        refine g_sub C (lv' := [(0, .ref b), (1, .int (0 : Int32))]) [1, 0] rfl ?_
        exact h_21 gFuel σ (0 : Int32)
      · refine g_aload_n C 0 dX4_clean_9 rfl rfl ?_
        refine g_iload_n C 1 dX4_clean_10 rfl rfl ?_
        refine g_iconst C (v := (0 : Int32)) dX4_clean_11 ic_0 ?_
        refine g_iastG C 0 0 (RWg_0 K b 233 _) rfl (RWs_0 K b 233 _ _) dX4_clean_12 ?_
        refine g_state (fun u5 => ?_)
        refine g_iinc C (w := (1 : Int32)) (lv' := [(1, .int (v1 + (1 : Int32))), (0, .ref b)]) 1 dX4_clean_13 rfl ic_1 (by decide) rfl ?_
        refine g_goto C 2 dX4_clean_16 (by decide) ?_
        refine g_sub C (lv' := [(0, .ref b), (1, .int (v1 + (1 : Int32)))]) [1, 0] rfl ?_
        exact ih_2 u5 (v1 + (1 : Int32))
  refine g_iconst C (v := (0 : Int32)) dX4_clean_0 ic_0 ?_
  refine g_istore_n C (lv' := [(1, .int (0 : Int32)), (0, .ref b)]) dX4_clean_1 rfl (by decide) rfl ?_
  refine g_sub C (lv' := [(0, .ref b), (1, .int (0 : Int32))]) [1, 0] rfl ?_
  exact h_2 gFuel σ (0 : Int32)
set_option maxHeartbeats 4000000 in
set_option maxRecDepth 100000 in
theorem mX4_remember (l : Launch) (D : va_G) (K : Nat → ClassId) (a : Nat → Nat) (σ : gS) (r : gS) (hf : fX4_remember σ  = some r) : gMv l yX4_remember wsX4_remember { frames := 1, cells := 0, slots := 0, locals := 25 } D (gT K) (MW K a) [.ref (a 0)] σ r := by
  refine mk_v (nL := 1) (cc := cX4_remember) (by decide) rfl (Nat.le_of_ble_eq_true rfl) rfl rfl hf (fun g C => ?_)
  refine g_sub C (lv' := [(0, .ref (a 0))]) [0] rfl ?_
  unfold fX4_remember
  have h_37 : ∀ (σ : gS), g (fX4_remember_L37 σ) 37 [(0, .ref (a 0))] [] σ := by
    intro σ
    unfold fX4_remember_L37
    refine g_aload_n C 0 dX4_remember_37 rfl rfl ?_
    refine g_get C (fun _ h => List.mem_cons_of_mem _ (List.mem_append_right _ h)) 0 (MWg_0 K a _) rfl 7 (by decide) (List.mem_of_getElem? (i := 3) rfl) rfl rfl dX4_remember_38 ?_
    refine g_iconst C (v := (0 : Int32)) dX4_remember_41 ic_0 ?_
    refine g_aload_n C 0 dX4_remember_42 rfl rfl ?_
    refine g_get C (fun _ h => List.mem_cons_of_mem _ (List.mem_append_right _ h)) 0 (MWg_0 K a _) rfl 9 (by decide) (List.mem_of_getElem? (i := 2) rfl) rfl rfl dX4_remember_43 ?_
    refine g_sipush C (v := (233 : Int32)) dX4_remember_46 (by decide) ?_
    refine g_aload_n C 0 dX4_remember_49 rfl rfl ?_
    refine g_get C (fun _ h => List.mem_cons_of_mem _ (List.mem_append_right _ h)) 0 (MWg_0 K a _) rfl 10 (by decide) (List.mem_of_getElem? (i := 1) rfl) rfl rfl dX4_remember_50 ?_
    refine g_imul C dX4_remember_53 ?_
    refine g_sipush C (v := (233 : Int32)) dX4_remember_54 (by decide) ?_
    refine g_callSv C (n := 5) (As := [.ref (a 3), .int (0 : Int32), .ref (a 5), .int ((233 : Int32) * (σ 0 10)), .int (233 : Int32)]) (rest := []) (fun r h => mX4_copy_233_3262 l D K (a 3) (a 5) _ _ _ _ r h) (MWc_3_5 D K a _) gX4_remember_X4_copy rfl (by decide +kernel) ⟨Nat.le_of_ble_eq_true rfl, Nat.le_of_ble_eq_true rfl, rfl, rfl⟩ rfl rfl (Nat.le_of_ble_eq_true rfl) dX4_remember_57 (fun r1 _ => ?_)
    refine g_state (fun u2 => ?_)
    refine g_aload_n C 0 dX4_remember_60 rfl rfl ?_
    refine g_dup C dX4_remember_61 rfl ?_
    refine g_get C (fun _ h => List.mem_cons_of_mem _ (List.mem_append_right _ h)) 0 (MWg_0 K a _) rfl 10 (by decide) (List.mem_of_getElem? (i := 1) rfl) rfl rfl dX4_remember_62 ?_
    refine g_iconst C (v := (1 : Int32)) dX4_remember_65 ic_1 ?_
    refine g_iadd C dX4_remember_66 ?_
    refine g_topi (fun t3 => ?_)
    refine g_put C (ty := .int) (fun _ h => List.mem_cons_of_mem _ (List.mem_append_right _ h)) tyX4 tyX4_ok nmX4 0 (MWg_0 K a _) rfl 10 (by decide) (List.mem_of_getElem? (i := 1) rfl) rfl rfl (by decide +kernel) rfl rfl (Nat.le_of_ble_eq_true rfl) (MWp_0_10 K a _ _) dX4_remember_67 ?_
    refine g_state (fun u4 => ?_)
    exact g_ret C ⟨dX4_remember_70, rfl, rfl⟩
  refine g_aload_n C 0 dX4_remember_0 rfl rfl ?_
  refine g_get C (fun _ h => List.mem_cons_of_mem _ (List.mem_append_right _ h)) 0 (MWg_0 K a _) rfl 10 (by decide) (List.mem_of_getElem? (i := 1) rfl) rfl rfl dX4_remember_1 ?_
  refine g_bipush C (v := (14 : Int32)) dX4_remember_4 (by decide) ?_
  refine g_icmp_ne C 37 dX4_remember_6 (by decide) (fun _ => ?_) (fun _ => ?_)
  · refine g_aload_n C 0 dX4_remember_9 rfl rfl ?_
    refine g_get C (fun _ h => List.mem_cons_of_mem _ (List.mem_append_right _ h)) 0 (MWg_0 K a _) rfl 9 (by decide) (List.mem_of_getElem? (i := 2) rfl) rfl rfl dX4_remember_10 ?_
    refine g_sipush C (v := (233 : Int32)) dX4_remember_13 (by decide) ?_
    refine g_aload_n C 0 dX4_remember_16 rfl rfl ?_
    refine g_get C (fun _ h => List.mem_cons_of_mem _ (List.mem_append_right _ h)) 0 (MWg_0 K a _) rfl 9 (by decide) (List.mem_of_getElem? (i := 2) rfl) rfl rfl dX4_remember_17 ?_
    refine g_iconst C (v := (0 : Int32)) dX4_remember_20 ic_0 ?_
    refine g_sipush C (v := (3029 : Int32)) dX4_remember_21 (by decide) ?_
    refine g_callSv C (n := 5) (As := [.ref (a 5), .int (233 : Int32), .ref (a 5), .int (0 : Int32), .int (3029 : Int32)]) (rest := []) (fun r h => mX4_copy_s3262 l D K (a 5) _ _ _ _ r h) (MWe_5 D K a _) gX4_remember_X4_copy rfl (by decide +kernel) ⟨Nat.le_of_ble_eq_true rfl, Nat.le_of_ble_eq_true rfl, rfl, rfl⟩ rfl rfl (Nat.le_of_ble_eq_true rfl) dX4_remember_24 (fun r5 _ => ?_)
    refine g_state (fun u6 => ?_)
    refine g_aload_n C 0 dX4_remember_27 rfl rfl ?_
    refine g_dup C dX4_remember_28 rfl ?_
    refine g_get C (fun _ h => List.mem_cons_of_mem _ (List.mem_append_right _ h)) 0 (MWg_0 K a _) rfl 10 (by decide) (List.mem_of_getElem? (i := 1) rfl) rfl rfl dX4_remember_29 ?_
    refine g_iconst C (v := (1 : Int32)) dX4_remember_32 ic_1 ?_
    refine g_isub C dX4_remember_33 ?_
    refine g_topi (fun t7 => ?_)
    refine g_put C (ty := .int) (fun _ h => List.mem_cons_of_mem _ (List.mem_append_right _ h)) tyX4 tyX4_ok nmX4 0 (MWg_0 K a _) rfl 10 (by decide) (List.mem_of_getElem? (i := 1) rfl) rfl rfl (by decide +kernel) rfl rfl (Nat.le_of_ble_eq_true rfl) (MWp_0_10 K a _ _) dX4_remember_34 ?_
    refine g_state (fun u8 => ?_)
    exact h_37 u8
  · exact h_37 σ
set_option maxHeartbeats 4000000 in
set_option maxRecDepth 100000 in
theorem mX4_tryIt (l : Launch) (D : va_G) (K : Nat → ClassId) (a : Nat → Nat) (σ : gS) (r : gS) (hf : fX4_tryIt σ  = some r) : gMv l yX4_tryIt wsX4_tryIt { frames := 1, cells := 0, slots := 0, locals := 25 } D (gT K) (MW K a) [.ref (a 0)] σ r := by
  refine mk_v (nL := 1) (cc := cX4_tryIt) (by decide) rfl (Nat.le_of_ble_eq_true rfl) rfl rfl hf (fun g C => ?_)
  refine g_sub C (lv' := [(0, .ref (a 0))]) [0] rfl ?_
  unfold fX4_tryIt
  refine g_aload_n C 0 dX4_tryIt_0 rfl rfl ?_
  refine g_get C (fun _ h => List.mem_cons_of_mem _ (List.mem_append_right _ h)) 0 (MWg_0 K a _) rfl 7 (by decide) (List.mem_of_getElem? (i := 1) rfl) rfl rfl dX4_tryIt_1 ?_
  refine g_iconst C (v := (0 : Int32)) dX4_tryIt_4 ic_0 ?_
  refine g_aload_n C 0 dX4_tryIt_5 rfl rfl ?_
  refine g_get C (fun _ h => List.mem_cons_of_mem _ (List.mem_append_right _ h)) 0 (MWg_0 K a _) rfl 8 (by decide) (List.mem_of_getElem? (i := 2) rfl) rfl rfl dX4_tryIt_6 ?_
  refine g_iconst C (v := (0 : Int32)) dX4_tryIt_9 ic_0 ?_
  refine g_sipush C (v := (233 : Int32)) dX4_tryIt_10 (by decide) ?_
  refine g_callSv C (n := 5) (As := [.ref (a 3), .int (0 : Int32), .ref (a 4), .int (0 : Int32), .int (233 : Int32)]) (rest := []) (fun r h => mX4_copy_233_233 l D K (a 3) (a 4) _ _ _ _ r h) (MWc_3_4 D K a _) gX4_tryIt_X4_copy rfl (by decide +kernel) ⟨Nat.le_of_ble_eq_true rfl, Nat.le_of_ble_eq_true rfl, rfl, rfl⟩ rfl rfl (Nat.le_of_ble_eq_true rfl) dX4_tryIt_13 (fun r1 _ => ?_)
  refine g_state (fun u2 => ?_)
  exact g_ret C ⟨dX4_tryIt_16, rfl, rfl⟩
set_option maxHeartbeats 4000000 in
set_option maxRecDepth 100000 in
theorem mX4_bookAt (l : Launch) (D : va_G) (K : Nat → ClassId) (p0 : Int32) (p1 : Int32) (r : (Int32 × Unit)) (hf : fX4_bookAt p0 p1 = some r) : gMi l yX4_bookAt wsX4_bookAt { frames := 0, cells := 0, slots := 0, locals := 0 } D (gT K) (fun _ : Unit => []) [.int p0, .int p1] () r := by
  refine mk_i (nL := 2) (cc := cX4_bookAt) (by decide) rfl (Nat.le_of_ble_eq_true rfl) rfl rfl hf (fun g C => ?_)
  refine g_sub C (lv' := [(0, .int p0), (1, .int p1)]) [0, 1] rfl ?_
  unfold fX4_bookAt
  refine g_iconst C (v := (5 : Int32)) dX4_bookAt_0 ic_5 ?_
  refine g_iload_n C 0 dX4_bookAt_1 rfl rfl ?_
  refine g_imul C dX4_bookAt_2 ?_
  refine g_iload_n C 1 dX4_bookAt_3 rfl rfl ?_
  refine g_iadd C dX4_bookAt_4 ?_
  exact g_ret C ⟨dX4_bookAt_5, rfl, rfl⟩
set_option maxHeartbeats 4000000 in
set_option maxRecDepth 100000 in
theorem mX4_visitorAt (l : Launch) (D : va_G) (K : Nat → ClassId) (p0 : Int32) (p1 : Int32) (r : (Int32 × Unit)) (hf : fX4_visitorAt p0 p1 = some r) : gMi l yX4_visitorAt wsX4_visitorAt { frames := 0, cells := 0, slots := 0, locals := 0 } D (gT K) (fun _ : Unit => []) [.int p0, .int p1] () r := by
  refine mk_i (nL := 2) (cc := cX4_visitorAt) (by decide) rfl (Nat.le_of_ble_eq_true rfl) rfl rfl hf (fun g C => ?_)
  refine g_sub C (lv' := [(0, .int p0), (1, .int p1)]) [0, 1] rfl ?_
  unfold fX4_visitorAt
  refine g_bipush C (v := (100 : Int32)) dX4_visitorAt_0 (by decide) ?_
  refine g_iconst C (v := (4 : Int32)) dX4_visitorAt_2 ic_4 ?_
  refine g_iload_n C 0 dX4_visitorAt_3 rfl rfl ?_
  refine g_imul C dX4_visitorAt_4 ?_
  refine g_iadd C dX4_visitorAt_5 ?_
  refine g_iload_n C 1 dX4_visitorAt_6 rfl rfl ?_
  refine g_iadd C dX4_visitorAt_7 ?_
  exact g_ret C ⟨dX4_visitorAt_8, rfl, rfl⟩
set_option maxHeartbeats 4000000 in
set_option maxRecDepth 100000 in
theorem mX4_bag (l : Launch) (D : va_G) (K : Nat → ClassId) (b : Nat) (σ : (Nat → Int32)) (p1 : Int32) (r : (Int32 × (Nat → Int32))) (hf : fX4_bag σ p1 = some r) : gMi l yX4_bag wsX4_bag { frames := 1, cells := 0, slots := 0, locals := 21 } D (gT K) (RW K b 233) [.ref b, .int p1] σ r := by
  refine mk_i (nL := 4) (cc := cX4_bag) (by decide) rfl (Nat.le_of_ble_eq_true rfl) rfl rfl hf (fun g C => ?_)
  refine g_sub C (lv' := [(0, .ref b), (1, .int p1)]) [0, 1] rfl ?_
  unfold fX4_bag
  have h_4 : ∀ (n : Nat) (σ : (Nat → Int32)) (v1 : Int32) (v2 : Int32) (v3 : Int32), g (fX4_bag_L4 n σ v1 v2 v3) 4 [(0, .ref b), (1, .int v1), (2, .int v2), (3, .int v3)] [] σ := by
    intro n
    induction n with
    | zero =>
      intro σ v1 v2 v3
      exact g_none C
    | succ n4 ih_4 =>
      intro σ v1 v2 v3
      unfold fX4_bag_L4
      refine g_iload_n C 3 dX4_bag_4 rfl rfl ?_
      refine g_bipush C (v := (20 : Int32)) dX4_bag_5 (by decide) ?_
      refine g_icmp_ge C 37 dX4_bag_7 (by decide) (fun _ => ?_) (fun _ => ?_)
      · refine g_iload_n C 2 dX4_bag_37 rfl rfl ?_
        exact g_ret C ⟨dX4_bag_38, rfl, rfl⟩
      · refine g_iload_n C 2 dX4_bag_10 rfl rfl ?_
        refine g_aload_n C 0 dX4_bag_11 rfl rfl ?_
        refine g_iload_n C 3 dX4_bag_12 rfl rfl ?_
        refine g_iconst C (v := (0 : Int32)) dX4_bag_13 ic_0 ?_
        refine g_callSi C (n := 2) (As := [.int v3, .int (0 : Int32)]) (rest := [.ref b, .int v2]) (fun r h => mX4_bookAt l D K _ _ r h) gE.nil (τ := ()) gX4_bag_X4_bookAt rfl (by decide +kernel) ⟨Nat.le_of_ble_eq_true rfl, Nat.le_of_ble_eq_true rfl, rfl, rfl⟩ rfl rfl (Nat.le_of_ble_eq_true rfl) dX4_bag_14 (fun r1 _ => ?_)
        refine g_ialdG C 0 0 (RWg_0 K b 233 _) rfl dX4_bag_17 ?_
        refine g_iload_n C 1 dX4_bag_18 rfl rfl ?_
        refine g_iconst C (v := (1 : Int32)) dX4_bag_19 ic_1 ?_
        refine g_iadd C dX4_bag_20 ?_
        refine g_icmp_ne C 28 dX4_bag_21 (by decide) (fun _ => ?_) (fun _ => ?_)
        · refine g_iconst C (v := (1 : Int32)) dX4_bag_24 ic_1 ?_
          refine g_goto C 29 dX4_bag_25 (by decide) ?_
          refine g_iadd C dX4_bag_29 ?_
          refine g_topi (fun t2 => ?_)
          refine g_istore_n C (lv' := [(2, .int t2), (0, .ref b), (1, .int v1), (3, .int v3)]) dX4_bag_30 rfl (by decide) rfl ?_
          refine g_iinc C (w := (1 : Int32)) (lv' := [(3, .int (v3 + (1 : Int32))), (2, .int t2), (0, .ref b), (1, .int v1)]) 3 dX4_bag_31 rfl ic_1 (by decide) rfl ?_
          refine g_goto C 4 dX4_bag_34 (by decide) ?_
          refine g_sub C (lv' := [(0, .ref b), (1, .int v1), (2, .int t2), (3, .int (v3 + (1 : Int32)))]) [2, 3, 1, 0] rfl ?_
          exact ih_4 σ v1 t2 (v3 + (1 : Int32))
        · refine g_iconst C (v := (0 : Int32)) dX4_bag_28 ic_0 ?_
          refine g_iadd C dX4_bag_29 ?_
          refine g_topi (fun t3 => ?_)
          refine g_istore_n C (lv' := [(2, .int t3), (0, .ref b), (1, .int v1), (3, .int v3)]) dX4_bag_30 rfl (by decide) rfl ?_
          refine g_iinc C (w := (1 : Int32)) (lv' := [(3, .int (v3 + (1 : Int32))), (2, .int t3), (0, .ref b), (1, .int v1)]) 3 dX4_bag_31 rfl ic_1 (by decide) rfl ?_
          refine g_goto C 4 dX4_bag_34 (by decide) ?_
          refine g_sub C (lv' := [(0, .ref b), (1, .int v1), (2, .int t3), (3, .int (v3 + (1 : Int32)))]) [2, 3, 1, 0] rfl ?_
          exact ih_4 σ v1 t3 (v3 + (1 : Int32))
  refine g_iconst C (v := (0 : Int32)) dX4_bag_0 ic_0 ?_
  refine g_istore_n C (lv' := [(2, .int (0 : Int32)), (0, .ref b), (1, .int p1)]) dX4_bag_1 rfl (by decide) rfl ?_
  refine g_iconst C (v := (0 : Int32)) dX4_bag_2 ic_0 ?_
  refine g_istore_n C (lv' := [(3, .int (0 : Int32)), (2, .int (0 : Int32)), (0, .ref b), (1, .int p1)]) dX4_bag_3 rfl (by decide) rfl ?_
  refine g_sub C (lv' := [(0, .ref b), (1, .int p1), (2, .int (0 : Int32)), (3, .int (0 : Int32))]) [2, 3, 1, 0] rfl ?_
  exact h_4 gFuel σ p1 (0 : Int32) (0 : Int32)
set_option maxHeartbeats 4000000 in
set_option maxRecDepth 100000 in
theorem mX4_isInside (l : Launch) (D : va_G) (K : Nat → ClassId) (b : Nat) (σ : (Nat → Int32)) (p1 : Int32) (r : (Int32 × (Nat → Int32))) (hf : fX4_isInside σ p1 = some r) : gMi l yX4_isInside wsX4_isInside { frames := 1, cells := 0, slots := 0, locals := 21 } D (gT K) (RW K b 233) [.ref b, .int p1] σ r := by
  refine mk_z (nL := 2) (cc := cX4_isInside) (by decide) rfl (Nat.le_of_ble_eq_true rfl) rfl rfl hf (fun g C => ?_)
  refine g_sub C (lv' := [(0, .ref b), (1, .int p1)]) [0, 1] rfl ?_
  unfold fX4_isInside
  refine g_aload_n C 0 dX4_isInside_0 rfl rfl ?_
  refine g_iload_n C 1 dX4_isInside_1 rfl rfl ?_
  refine g_iconst C (v := (0 : Int32)) dX4_isInside_2 ic_0 ?_
  refine g_callSi C (n := 2) (As := [.int p1, .int (0 : Int32)]) (rest := [.ref b]) (fun r h => mX4_visitorAt l D K _ _ r h) gE.nil (τ := ()) gX4_isInside_X4_visitorAt rfl (by decide +kernel) ⟨Nat.le_of_ble_eq_true rfl, Nat.le_of_ble_eq_true rfl, rfl, rfl⟩ rfl rfl (Nat.le_of_ble_eq_true rfl) dX4_isInside_3 (fun r1 _ => ?_)
  refine g_ialdG C 0 0 (RWg_0 K b 233 _) rfl dX4_isInside_6 ?_
  refine g_if_ne C 14 dX4_isInside_7 (by decide) (fun _ => ?_) (fun _ => ?_)
  · refine g_iconst C (v := (1 : Int32)) dX4_isInside_10 ic_1 ?_
    refine g_goto C 15 dX4_isInside_11 (by decide) ?_
    exact g_ret C ⟨dX4_isInside_15, rfl, rfl, Or.inr rfl⟩
  · refine g_iconst C (v := (0 : Int32)) dX4_isInside_14 ic_0 ?_
    exact g_ret C ⟨dX4_isInside_15, rfl, rfl, Or.inl rfl⟩
set_option maxHeartbeats 4000000 in
set_option maxRecDepth 100000 in
theorem mX4_isBookInside (l : Launch) (D : va_G) (K : Nat → ClassId) (b : Nat) (σ : (Nat → Int32)) (p1 : Int32) (r : (Int32 × (Nat → Int32))) (hf : fX4_isBookInside σ p1 = some r) : gMi l yX4_isBookInside wsX4_isBookInside { frames := 2, cells := 0, slots := 0, locals := 42 } D (gT K) (RW K b 233) [.ref b, .int p1] σ r := by
  refine mk_z (nL := 3) (cc := cX4_isBookInside) (by decide) rfl (Nat.le_of_ble_eq_true rfl) rfl rfl hf (fun g C => ?_)
  refine g_sub C (lv' := [(0, .ref b), (1, .int p1)]) [0, 1] rfl ?_
  unfold fX4_isBookInside
  refine g_aload_n C 0 dX4_isBookInside_0 rfl rfl ?_
  refine g_iload_n C 1 dX4_isBookInside_1 rfl rfl ?_
  refine g_iconst C (v := (0 : Int32)) dX4_isBookInside_2 ic_0 ?_
  refine g_callSi C (n := 2) (As := [.int p1, .int (0 : Int32)]) (rest := [.ref b]) (fun r h => mX4_bookAt l D K _ _ r h) gE.nil (τ := ()) gX4_isBookInside_X4_bookAt rfl (by decide +kernel) ⟨Nat.le_of_ble_eq_true rfl, Nat.le_of_ble_eq_true rfl, rfl, rfl⟩ rfl rfl (Nat.le_of_ble_eq_true rfl) dX4_isBookInside_3 (fun r1 _ => ?_)
  refine g_ialdG C 0 0 (RWg_0 K b 233 _) rfl dX4_isBookInside_6 ?_
  refine g_iconst C (v := (1 : Int32)) dX4_isBookInside_7 ic_1 ?_
  refine g_isub C dX4_isBookInside_8 ?_
  refine g_topi (fun t2 => ?_)
  refine g_istore_n C (lv' := [(2, .int t2), (0, .ref b), (1, .int p1)]) dX4_isBookInside_9 rfl (by decide) rfl ?_
  refine g_iload_n C 0 dX4_isBookInside_10 rfl rfl ?_
  refine g_if_lt C 22 dX4_isBookInside_11 (by decide) (fun _ => ?_) (fun _ => ?_)
  · refine g_iconst C (v := (1 : Int32)) dX4_isBookInside_22 ic_1 ?_
    refine g_goto C 27 dX4_isBookInside_23 (by decide) ?_
    exact g_ret C ⟨dX4_isBookInside_27, rfl, rfl, Or.inr rfl⟩
  · refine g_aload_n C 1 dX4_isBookInside_14 rfl rfl ?_
    refine g_iload_n C 0 dX4_isBookInside_15 rfl rfl ?_
    refine g_callSi C (n := 2) (As := [.ref b, .int t2]) (rest := []) (fun r h => mX4_isInside l D K b _ _ r h) gE.same gX4_isBookInside_X4_isInside rfl (by decide +kernel) ⟨Nat.le_of_ble_eq_true rfl, Nat.le_of_ble_eq_true rfl, rfl, rfl⟩ rfl rfl (Nat.le_of_ble_eq_true rfl) dX4_isBookInside_16 (fun r3 _ => ?_)
    refine g_if_eq C 26 dX4_isBookInside_19 (by decide) (fun _ => ?_) (fun _ => ?_)
    · refine g_iconst C (v := (0 : Int32)) dX4_isBookInside_26 ic_0 ?_
      exact g_ret C ⟨dX4_isBookInside_27, rfl, rfl, Or.inl rfl⟩
    · refine g_iconst C (v := (1 : Int32)) dX4_isBookInside_22 ic_1 ?_
      refine g_goto C 27 dX4_isBookInside_23 (by decide) ?_
      exact g_ret C ⟨dX4_isBookInside_27, rfl, rfl, Or.inr rfl⟩
set_option maxHeartbeats 4000000 in
set_option maxRecDepth 100000 in
theorem mX4_reads (l : Launch) (D : va_G) (K : Nat → ClassId) (b : Nat) (σ : (Nat → Int32)) (p1 : Int32) (p2 : Int32) (r : (Int32 × (Nat → Int32))) (hf : fX4_reads σ p1 p2 = some r) : gMi l yX4_reads wsX4_reads { frames := 2, cells := 0, slots := 0, locals := 44 } D (gT K) (RW K b 233) [.ref b, .int p1, .int p2] σ r := by
  refine mk_z (nL := 7) (cc := cX4_reads) (by decide) rfl (Nat.le_of_ble_eq_true rfl) rfl rfl hf (fun g C => ?_)
  refine g_sub C (lv' := [(0, .ref b), (1, .int p1), (2, .int p2)]) [0, 1, 2] rfl ?_
  unfold fX4_reads
  have h_33 : ∀ (σ : (Nat → Int32)) (v1 : Int32) (v2 : Int32) (v3 : Int32) (s0 : Int32) (s1 : Int32), g (fX4_reads_L33 σ v1 v2 v3 s0 s1) 33 [(0, .ref b), (1, .int v1), (2, .int v2), (3, .int v3)] [.int s1, .int s0] σ := by
    intro σ v1 v2 v3 s0 s1
    unfold fX4_reads_L33
    refine g_imul C dX4_reads_33 ?_
    refine g_aload_n C 0 dX4_reads_34 rfl rfl ?_
    refine g_iload_n C 2 dX4_reads_35 rfl rfl ?_
    refine g_callSi C (n := 2) (As := [.ref b, .int v2]) (rest := [.int (s0 * s1)]) (fun r h => mX4_bag l D K b _ _ r h) gE.same gX4_reads_X4_bag rfl (by decide +kernel) ⟨Nat.le_of_ble_eq_true rfl, Nat.le_of_ble_eq_true rfl, rfl, rfl⟩ rfl rfl (Nat.le_of_ble_eq_true rfl) dX4_reads_36 (fun r1 _ => ?_)
    refine g_iadd C dX4_reads_39 ?_
    refine g_topi (fun t2 => ?_)
    refine g_istore C (lv' := [(5, .int t2), (0, .ref b), (1, .int v1), (2, .int v2), (3, .int v3)]) dX4_reads_40 (by decide) rfl ?_
    refine g_aload_n C 1 dX4_reads_42 rfl rfl ?_
    refine g_iload_n C 2 dX4_reads_43 rfl rfl ?_
    refine g_iconst C (v := (0 : Int32)) dX4_reads_44 ic_0 ?_
    refine g_callSi C (n := 2) (As := [.int v1, .int (0 : Int32)]) (rest := [.ref b]) (fun r h => mX4_gateAt l D K _ _ r h) gE.nil (τ := ()) gX4_reads_X4_gateAt rfl (by decide +kernel) ⟨Nat.le_of_ble_eq_true rfl, Nat.le_of_ble_eq_true rfl, rfl, rfl⟩ rfl rfl (Nat.le_of_ble_eq_true rfl) dX4_reads_45 (fun r3 _ => ?_)
    refine g_ialdG C 0 0 (RWg_0 K b 233 _) rfl dX4_reads_48 ?_
    refine g_topi (fun t4 => ?_)
    refine g_istore C (lv' := [(6, .int t4), (5, .int t2), (0, .ref b), (1, .int v1), (2, .int v2), (3, .int v3)]) dX4_reads_49 (by decide) rfl ?_
    refine g_aload_n C 2 dX4_reads_51 rfl rfl ?_
    refine g_iload_n C 4 dX4_reads_52 rfl rfl ?_
    refine g_iconst C (v := (0 : Int32)) dX4_reads_53 ic_0 ?_
    refine g_callSi C (n := 2) (As := [.int v2, .int (0 : Int32)]) (rest := [.ref b]) (fun r h => mX4_visitorAt l D K _ _ r h) gE.nil (τ := ()) gX4_reads_X4_visitorAt rfl (by decide +kernel) ⟨Nat.le_of_ble_eq_true rfl, Nat.le_of_ble_eq_true rfl, rfl, rfl⟩ rfl rfl (Nat.le_of_ble_eq_true rfl) dX4_reads_54 (fun r5 _ => ?_)
    refine g_ialdG C 0 0 (RWg_0 K b 233 _) rfl dX4_reads_57 ?_
    refine g_iconst C (v := (1 : Int32)) dX4_reads_58 ic_1 ?_
    refine g_icmp_ne C 96 dX4_reads_59 (by decide) (fun _ => ?_) (fun _ => ?_)
    · refine g_iload_n C 5 dX4_reads_62 rfl rfl ?_
      refine g_i2l C dX4_reads_63 ?_
      refine g_ldc2 C (v := (-1 : Int64)) (List.mem_of_getElem? (i := 1) rfl) dX4_reads_64 ?_
      refine g_lconst C (v := (1 : Int64)) dX4_reads_67 (by decide) ?_
      refine g_callSi C (n := 3) (As := [.long (v3).toInt64, .long (-1 : Int64), .long (1 : Int64)]) (rest := []) (fun r h => mX4_in l D K _ _ _ r h) gE.nil (τ := ()) gX4_reads_X4_in rfl (by decide +kernel) ⟨Nat.le_of_ble_eq_true rfl, Nat.le_of_ble_eq_true rfl, rfl, rfl⟩ rfl rfl (Nat.le_of_ble_eq_true rfl) dX4_reads_68 (fun r6 _ => ?_)
      refine g_if_eq C 96 dX4_reads_71 (by decide) (fun _ => ?_) (fun _ => ?_)
      · refine g_iconst C (v := (0 : Int32)) dX4_reads_96 ic_0 ?_
        exact g_ret C ⟨dX4_reads_97, rfl, rfl, Or.inl rfl⟩
      · refine g_iload_n C 5 dX4_reads_74 rfl rfl ?_
        refine g_if_ne C 83 dX4_reads_75 (by decide) (fun _ => ?_) (fun _ => ?_)
        · refine g_iload C 0 dX4_reads_78 rfl ?_
          refine g_goto C 87 dX4_reads_80 (by decide) ?_
          refine g_iload C 1 dX4_reads_87 rfl ?_
          refine g_icmp_lt C 96 dX4_reads_89 (by decide) (fun _ => ?_) (fun _ => ?_)
          · refine g_iconst C (v := (0 : Int32)) dX4_reads_96 ic_0 ?_
            exact g_ret C ⟨dX4_reads_97, rfl, rfl, Or.inl rfl⟩
          · refine g_iconst C (v := (1 : Int32)) dX4_reads_92 ic_1 ?_
            refine g_goto C 97 dX4_reads_93 (by decide) ?_
            exact g_ret C ⟨dX4_reads_97, rfl, rfl, Or.inr rfl⟩
        · refine g_iload C 0 dX4_reads_83 rfl ?_
          refine g_iconst C (v := (2 : Int32)) dX4_reads_85 ic_2 ?_
          refine g_idiv C dX4_reads_86 (by decide) ?_
          refine g_iload C 1 dX4_reads_87 rfl ?_
          refine g_icmp_lt C 96 dX4_reads_89 (by decide) (fun _ => ?_) (fun _ => ?_)
          · refine g_iconst C (v := (0 : Int32)) dX4_reads_96 ic_0 ?_
            exact g_ret C ⟨dX4_reads_97, rfl, rfl, Or.inl rfl⟩
          · refine g_iconst C (v := (1 : Int32)) dX4_reads_92 ic_1 ?_
            refine g_goto C 97 dX4_reads_93 (by decide) ?_
            exact g_ret C ⟨dX4_reads_97, rfl, rfl, Or.inr rfl⟩
    · refine g_iconst C (v := (0 : Int32)) dX4_reads_96 ic_0 ?_
      exact g_ret C ⟨dX4_reads_97, rfl, rfl, Or.inl rfl⟩
  refine g_aload_n C 0 dX4_reads_0 rfl rfl ?_
  refine g_iload_n C 2 dX4_reads_1 rfl rfl ?_
  refine g_iconst C (v := (1 : Int32)) dX4_reads_2 ic_1 ?_
  refine g_callSi C (n := 2) (As := [.int p2, .int (1 : Int32)]) (rest := [.ref b]) (fun r h => mX4_visitorAt l D K _ _ r h) gE.nil (τ := ()) gX4_reads_X4_visitorAt rfl (by decide +kernel) ⟨Nat.le_of_ble_eq_true rfl, Nat.le_of_ble_eq_true rfl, rfl, rfl⟩ rfl rfl (Nat.le_of_ble_eq_true rfl) dX4_reads_3 (fun r7 _ => ?_)
  refine g_ialdG C 0 0 (RWg_0 K b 233 _) rfl dX4_reads_6 ?_
  refine g_iload_n C 1 dX4_reads_7 rfl rfl ?_
  refine g_isub C dX4_reads_8 ?_
  refine g_topi (fun t8 => ?_)
  refine g_istore_n C (lv' := [(3, .int t8), (0, .ref b), (1, .int p1), (2, .int p2)]) dX4_reads_9 rfl (by decide) rfl ?_
  refine g_aload_n C 1 dX4_reads_10 rfl rfl ?_
  refine g_iload_n C 3 dX4_reads_11 rfl rfl ?_
  refine g_iconst C (v := (2 : Int32)) dX4_reads_12 ic_2 ?_
  refine g_callSi C (n := 2) (As := [.int p2, .int (2 : Int32)]) (rest := [.ref b]) (fun r h => mX4_visitorAt l D K _ _ r h) gE.nil (τ := ()) gX4_reads_X4_visitorAt rfl (by decide +kernel) ⟨Nat.le_of_ble_eq_true rfl, Nat.le_of_ble_eq_true rfl, rfl, rfl⟩ rfl rfl (Nat.le_of_ble_eq_true rfl) dX4_reads_13 (fun r9 _ => ?_)
  refine g_ialdG C 0 0 (RWg_0 K b 233 _) rfl dX4_reads_16 ?_
  refine g_topi (fun t10 => ?_)
  refine g_istore C (lv' := [(4, .int t10), (3, .int t8), (0, .ref b), (1, .int p1), (2, .int p2)]) dX4_reads_17 (by decide) rfl ?_
  refine g_iconst C (v := (2 : Int32)) dX4_reads_19 ic_2 ?_
  refine g_iload C 0 dX4_reads_20 rfl ?_
  refine g_if_ge C 31 dX4_reads_22 (by decide) (fun _ => ?_) (fun _ => ?_)
  · refine g_iload C 0 dX4_reads_31 rfl ?_
    refine g_sub C (lv' := [(0, .ref b), (1, .int p1), (2, .int p2), (3, .int t8)]) [2, 3, 4, 1] rfl ?_
    exact h_33 σ p1 p2 t8 (2 : Int32) t10
  · refine g_iload C 0 dX4_reads_25 rfl ?_
    refine g_ineg C dX4_reads_27 ?_
    refine g_goto C 33 dX4_reads_28 (by decide) ?_
    refine g_sub C (lv' := [(0, .ref b), (1, .int p1), (2, .int p2), (3, .int t8)]) [2, 3, 4, 1] rfl ?_
    exact h_33 σ p1 p2 t8 (2 : Int32) (-t10)
set_option maxHeartbeats 4000000 in
set_option maxRecDepth 100000 in
theorem mX4_readsBook (l : Launch) (D : va_G) (K : Nat → ClassId) (b : Nat) (σ : (Nat → Int32)) (p1 : Int32) (p2 : Int32) (r : (Int32 × (Nat → Int32))) (hf : fX4_readsBook σ p1 p2 = some r) : gMi l yX4_readsBook wsX4_readsBook { frames := 3, cells := 0, slots := 0, locals := 70 } D (gT K) (RW K b 233) [.ref b, .int p1, .int p2] σ r := by
  refine mk_z (nL := 4) (cc := cX4_readsBook) (by decide) rfl (Nat.le_of_ble_eq_true rfl) rfl rfl hf (fun g C => ?_)
  refine g_sub C (lv' := [(0, .ref b), (1, .int p1), (2, .int p2)]) [0, 1, 2] rfl ?_
  unfold fX4_readsBook
  refine g_aload_n C 0 dX4_readsBook_0 rfl rfl ?_
  refine g_iload_n C 2 dX4_readsBook_1 rfl rfl ?_
  refine g_iconst C (v := (0 : Int32)) dX4_readsBook_2 ic_0 ?_
  refine g_callSi C (n := 2) (As := [.int p2, .int (0 : Int32)]) (rest := [.ref b]) (fun r h => mX4_bookAt l D K _ _ r h) gE.nil (τ := ()) gX4_readsBook_X4_bookAt rfl (by decide +kernel) ⟨Nat.le_of_ble_eq_true rfl, Nat.le_of_ble_eq_true rfl, rfl, rfl⟩ rfl rfl (Nat.le_of_ble_eq_true rfl) dX4_readsBook_3 (fun r1 _ => ?_)
  refine g_ialdG C 0 0 (RWg_0 K b 233 _) rfl dX4_readsBook_6 ?_
  refine g_iconst C (v := (1 : Int32)) dX4_readsBook_7 ic_1 ?_
  refine g_isub C dX4_readsBook_8 ?_
  refine g_topi (fun t2 => ?_)
  refine g_istore_n C (lv' := [(3, .int t2), (0, .ref b), (1, .int p1), (2, .int p2)]) dX4_readsBook_9 rfl (by decide) rfl ?_
  refine g_iload_n C 0 dX4_readsBook_10 rfl rfl ?_
  refine g_if_lt C 27 dX4_readsBook_11 (by decide) (fun _ => ?_) (fun _ => ?_)
  · refine g_iconst C (v := (0 : Int32)) dX4_readsBook_27 ic_0 ?_
    exact g_ret C ⟨dX4_readsBook_28, rfl, rfl, Or.inl rfl⟩
  · refine g_aload_n C 1 dX4_readsBook_14 rfl rfl ?_
    refine g_iload_n C 2 dX4_readsBook_15 rfl rfl ?_
    refine g_iload_n C 0 dX4_readsBook_16 rfl rfl ?_
    refine g_callSi C (n := 3) (As := [.ref b, .int p1, .int t2]) (rest := []) (fun r h => mX4_reads l D K b _ _ _ r h) gE.same gX4_readsBook_X4_reads rfl (by decide +kernel) ⟨Nat.le_of_ble_eq_true rfl, Nat.le_of_ble_eq_true rfl, rfl, rfl⟩ rfl rfl (Nat.le_of_ble_eq_true rfl) dX4_readsBook_17 (fun r3 _ => ?_)
    refine g_if_eq C 27 dX4_readsBook_20 (by decide) (fun _ => ?_) (fun _ => ?_)
    · refine g_iconst C (v := (0 : Int32)) dX4_readsBook_27 ic_0 ?_
      exact g_ret C ⟨dX4_readsBook_28, rfl, rfl, Or.inl rfl⟩
    · refine g_iconst C (v := (1 : Int32)) dX4_readsBook_23 ic_1 ?_
      refine g_goto C 28 dX4_readsBook_24 (by decide) ?_
      exact g_ret C ⟨dX4_readsBook_28, rfl, rfl, Or.inr rfl⟩
set_option maxHeartbeats 4000000 in
set_option maxRecDepth 100000 in
theorem mX4_forget (l : Launch) (D : va_G) (K : Nat → ClassId) (b : Nat) (σ : (Nat → Int32)) (p1 : Int32) (r : (Nat → Int32)) (hf : fX4_forget σ p1 = some r) : gMv l yX4_forget wsX4_forget { frames := 1, cells := 0, slots := 0, locals := 21 } D (gT K) (RW K b 233) [.ref b, .int p1] σ r := by
  refine mk_v (nL := 6) (cc := cX4_forget) (by decide) rfl (Nat.le_of_ble_eq_true rfl) rfl rfl hf (fun g C => ?_)
  refine g_sub C (lv' := [(0, .ref b), (1, .int p1)]) [0, 1] rfl ?_
  unfold fX4_forget
  have h_18 : ∀ (n : Nat) (σ : (Nat → Int32)) (v1 : Int32) (v2 : Int32), g (fX4_forget_L18 n σ v1 v2) 18 [(0, .ref b), (1, .int v1), (2, .int v2)] [] σ := by
    intro n
    induction n with
    | zero =>
      intro σ v1 v2
      exact g_none C
    | succ n18 ih_18 =>
      have h_28 : ∀ (n : Nat) (σ : (Nat → Int32)) (v1 : Int32) (v2 : Int32) (v3 : Int32) (v4 : Int32), g (fX4_forget_L28 (fX4_forget_L18 n18) n σ v1 v2 v3 v4) 28 [(0, .ref b), (1, .int v1), (2, .int v2), (3, .int v3), (4, .int v4)] [] σ := by
        intro n
        induction n with
        | zero =>
          intro σ v1 v2 v3 v4
          exact g_none C
        | succ n28 ih_28 =>
          intro σ v1 v2 v3 v4
          unfold fX4_forget_L28
          refine g_iload C 4 dX4_forget_28 rfl ?_
          refine g_aload_n C 0 dX4_forget_30 rfl rfl ?_
          refine g_iload_n C 2 dX4_forget_31 rfl rfl ?_
          refine g_iconst C (v := (2 : Int32)) dX4_forget_32 ic_2 ?_
          refine g_callSi C (n := 2) (As := [.int v2, .int (2 : Int32)]) (rest := [.ref b, .int v4]) (fun r h => mX4_gateAt l D K _ _ r h) gE.nil (τ := ()) gX4_forget_X4_gateAt rfl (by decide +kernel) ⟨Nat.le_of_ble_eq_true rfl, Nat.le_of_ble_eq_true rfl, rfl, rfl⟩ rfl rfl (Nat.le_of_ble_eq_true rfl) dX4_forget_33 (fun r1 _ => ?_)
          refine g_ialdG C 0 0 (RWg_0 K b 233 _) rfl dX4_forget_36 ?_
          refine g_icmp_ge C 89 dX4_forget_37 (by decide) (fun _ => ?_) (fun _ => ?_)
          · refine g_aload_n C 0 dX4_forget_89 rfl rfl ?_
            refine g_iload_n C 2 dX4_forget_90 rfl rfl ?_
            refine g_iconst C (v := (2 : Int32)) dX4_forget_91 ic_2 ?_
            refine g_callSi C (n := 2) (As := [.int v2, .int (2 : Int32)]) (rest := [.ref b]) (fun r h => mX4_gateAt l D K _ _ r h) gE.nil (τ := ()) gX4_forget_X4_gateAt rfl (by decide +kernel) ⟨Nat.le_of_ble_eq_true rfl, Nat.le_of_ble_eq_true rfl, rfl, rfl⟩ rfl rfl (Nat.le_of_ble_eq_true rfl) dX4_forget_92 (fun r2 _ => ?_)
            refine g_iload_n C 3 dX4_forget_95 rfl rfl ?_
            refine g_iastG C 0 0 (RWg_0 K b 233 _) rfl (RWs_0 K b 233 _ _) dX4_forget_96 ?_
            refine g_state (fun u3 => ?_)
            refine g_iinc C (w := (1 : Int32)) (lv' := [(2, .int (v2 + (1 : Int32))), (0, .ref b), (1, .int v1), (3, .int v3), (4, .int v4)]) 2 dX4_forget_97 rfl ic_1 (by decide) rfl ?_
            refine g_goto C 18 dX4_forget_100 (by decide) ?_
            refine g_sub C (lv' := [(0, .ref b), (1, .int v1), (2, .int (v2 + (1 : Int32)))]) [1, 2, 0] rfl ?_
            exact ih_18 u3 v1 (v2 + (1 : Int32))
          · refine g_aload_n C 0 dX4_forget_40 rfl rfl ?_
            refine g_sipush C (v := (136 : Int32)) dX4_forget_41 (by decide) ?_
            refine g_bipush C (v := (20 : Int32)) dX4_forget_44 (by decide) ?_
            refine g_iload_n C 2 dX4_forget_46 rfl rfl ?_
            refine g_imul C dX4_forget_47 ?_
            refine g_iadd C dX4_forget_48 ?_
            refine g_iload C 4 dX4_forget_49 rfl ?_
            refine g_iadd C dX4_forget_51 ?_
            refine g_ialdG C 0 0 (RWg_0 K b 233 _) rfl dX4_forget_52 ?_
            refine g_topi (fun t4 => ?_)
            refine g_istore C (lv' := [(5, .int t4), (0, .ref b), (1, .int v1), (2, .int v2), (3, .int v3), (4, .int v4)]) dX4_forget_53 (by decide) rfl ?_
            refine g_aload_n C 1 dX4_forget_55 rfl rfl ?_
            refine g_sipush C (v := (136 : Int32)) dX4_forget_56 (by decide) ?_
            refine g_bipush C (v := (20 : Int32)) dX4_forget_59 (by decide) ?_
            refine g_iload_n C 3 dX4_forget_61 rfl rfl ?_
            refine g_imul C dX4_forget_62 ?_
            refine g_iadd C dX4_forget_63 ?_
            refine g_iload_n C 4 dX4_forget_64 rfl rfl ?_
            refine g_iadd C dX4_forget_65 ?_
            refine g_iload C 0 dX4_forget_66 rfl ?_
            refine g_iastG C 0 0 (RWg_0 K b 233 _) rfl (RWs_0 K b 233 _ _) dX4_forget_68 ?_
            refine g_state (fun u5 => ?_)
            refine g_iload_n C 4 dX4_forget_69 rfl rfl ?_
            refine g_iload C 0 dX4_forget_70 rfl ?_
            refine g_iload_n C 2 dX4_forget_72 rfl rfl ?_
            refine g_icmp_ne C 80 dX4_forget_73 (by decide) (fun _ => ?_) (fun _ => ?_)
            · refine g_iconst C (v := (0 : Int32)) dX4_forget_76 ic_0 ?_
              refine g_goto C 81 dX4_forget_77 (by decide) ?_
              refine g_iadd C dX4_forget_81 ?_
              refine g_topi (fun t6 => ?_)
              refine g_istore_n C (lv' := [(3, .int t6), (5, .int t4), (0, .ref b), (1, .int v1), (2, .int v2), (4, .int v4)]) dX4_forget_82 rfl (by decide) rfl ?_
              refine g_iinc C (w := (1 : Int32)) (lv' := [(4, .int (v4 + (1 : Int32))), (3, .int t6), (5, .int t4), (0, .ref b), (1, .int v1), (2, .int v2)]) 5 dX4_forget_83 rfl ic_1 (by decide) rfl ?_
              refine g_goto C 28 dX4_forget_86 (by decide) ?_
              refine g_sub C (lv' := [(0, .ref b), (1, .int v1), (2, .int v2), (3, .int t6), (4, .int (v4 + (1 : Int32)))]) [3, 4, 5, 1, 0] rfl ?_
              exact ih_28 u5 v1 v2 t6 (v4 + (1 : Int32))
            · refine g_iconst C (v := (1 : Int32)) dX4_forget_80 ic_1 ?_
              refine g_iadd C dX4_forget_81 ?_
              refine g_topi (fun t7 => ?_)
              refine g_istore_n C (lv' := [(3, .int t7), (5, .int t4), (0, .ref b), (1, .int v1), (2, .int v2), (4, .int v4)]) dX4_forget_82 rfl (by decide) rfl ?_
              refine g_iinc C (w := (1 : Int32)) (lv' := [(4, .int (v4 + (1 : Int32))), (3, .int t7), (5, .int t4), (0, .ref b), (1, .int v1), (2, .int v2)]) 5 dX4_forget_83 rfl ic_1 (by decide) rfl ?_
              refine g_goto C 28 dX4_forget_86 (by decide) ?_
              refine g_sub C (lv' := [(0, .ref b), (1, .int v1), (2, .int v2), (3, .int t7), (4, .int (v4 + (1 : Int32)))]) [3, 4, 5, 1, 0] rfl ?_
              exact ih_28 u5 v1 v2 t7 (v4 + (1 : Int32))
      intro σ v1 v2
      unfold fX4_forget_L18
      refine g_iload_n C 2 dX4_forget_18 rfl rfl ?_
      refine g_iconst C (v := (3 : Int32)) dX4_forget_19 ic_3 ?_
      refine g_icmp_ge C 103 dX4_forget_20 (by decide) (fun _ => ?_) (fun _ => ?_)
      · exact g_ret C ⟨dX4_forget_103, rfl, rfl⟩
      · refine g_iconst C (v := (0 : Int32)) dX4_forget_23 ic_0 ?_
        refine g_istore_n C (lv' := [(3, .int (0 : Int32)), (0, .ref b), (1, .int v1), (2, .int v2)]) dX4_forget_24 rfl (by decide) rfl ?_
        refine g_iconst C (v := (0 : Int32)) dX4_forget_25 ic_0 ?_
        refine g_istore C (lv' := [(4, .int (0 : Int32)), (3, .int (0 : Int32)), (0, .ref b), (1, .int v1), (2, .int v2)]) dX4_forget_26 (by decide) rfl ?_
        refine g_sub C (lv' := [(0, .ref b), (1, .int v1), (2, .int v2), (3, .int (0 : Int32)), (4, .int (0 : Int32))]) [2, 3, 4, 1, 0] rfl ?_
        exact h_28 gFuel σ v1 v2 (0 : Int32) (0 : Int32)
  refine g_aload_n C 0 dX4_forget_0 rfl rfl ?_
  refine g_iload_n C 1 dX4_forget_1 rfl rfl ?_
  refine g_iconst C (v := (2 : Int32)) dX4_forget_2 ic_2 ?_
  refine g_callSi C (n := 2) (As := [.int p1, .int (2 : Int32)]) (rest := [.ref b]) (fun r h => mX4_bookAt l D K _ _ r h) gE.nil (τ := ()) gX4_forget_X4_bookAt rfl (by decide +kernel) ⟨Nat.le_of_ble_eq_true rfl, Nat.le_of_ble_eq_true rfl, rfl, rfl⟩ rfl rfl (Nat.le_of_ble_eq_true rfl) dX4_forget_3 (fun r8 _ => ?_)
  refine g_iconst C (v := (0 : Int32)) dX4_forget_6 ic_0 ?_
  refine g_iastG C 0 0 (RWg_0 K b 233 _) rfl (RWs_0 K b 233 _ _) dX4_forget_7 ?_
  refine g_state (fun u9 => ?_)
  refine g_aload_n C 0 dX4_forget_8 rfl rfl ?_
  refine g_iload_n C 1 dX4_forget_9 rfl rfl ?_
  refine g_iconst C (v := (3 : Int32)) dX4_forget_10 ic_3 ?_
  refine g_callSi C (n := 2) (As := [.int p1, .int (3 : Int32)]) (rest := [.ref b]) (fun r h => mX4_bookAt l D K _ _ r h) gE.nil (τ := ()) gX4_forget_X4_bookAt rfl (by decide +kernel) ⟨Nat.le_of_ble_eq_true rfl, Nat.le_of_ble_eq_true rfl, rfl, rfl⟩ rfl rfl (Nat.le_of_ble_eq_true rfl) dX4_forget_11 (fun r10 _ => ?_)
  refine g_iconst C (v := (0 : Int32)) dX4_forget_14 ic_0 ?_
  refine g_iastG C 0 0 (RWg_0 K b 233 _) rfl (RWs_0 K b 233 _ _) dX4_forget_15 ?_
  refine g_state (fun u11 => ?_)
  refine g_iconst C (v := (0 : Int32)) dX4_forget_16 ic_0 ?_
  refine g_istore_n C (lv' := [(2, .int (0 : Int32)), (0, .ref b), (1, .int p1)]) dX4_forget_17 rfl (by decide) rfl ?_
  refine g_sub C (lv' := [(0, .ref b), (1, .int p1), (2, .int (0 : Int32))]) [1, 2, 0] rfl ?_
  exact h_18 gFuel u11 p1 (0 : Int32)
set_option maxHeartbeats 4000000 in
set_option maxRecDepth 100000 in
theorem mX4_arrive (l : Launch) (D : va_G) (K : Nat → ClassId) (b : Nat) (σ : (Nat → Int32)) (p1 : Int32) (p2 : Int32) (r : (Nat → Int32)) (hf : fX4_arrive σ p1 p2 = some r) : gMv l yX4_arrive wsX4_arrive { frames := 2, cells := 0, slots := 0, locals := 46 } D (gT K) (RW K b 233) [.ref b, .int p1, .int p2] σ r := by
  refine mk_v (nL := 4) (cc := cX4_arrive) (by decide) rfl (Nat.le_of_ble_eq_true rfl) rfl rfl hf (fun g C => ?_)
  refine g_sub C (lv' := [(0, .ref b), (1, .int p1), (2, .int p2)]) [0, 1, 2] rfl ?_
  unfold fX4_arrive
  have h_18 : ∀ (n : Nat) (σ : (Nat → Int32)) (v1 : Int32) (v2 : Int32) (v3 : Int32), g (fX4_arrive_L18 n σ v1 v2 v3) 18 [(0, .ref b), (1, .int v1), (2, .int v2), (3, .int v3)] [] σ := by
    intro n
    induction n with
    | zero =>
      intro σ v1 v2 v3
      exact g_none C
    | succ n18 ih_18 =>
      intro σ v1 v2 v3
      unfold fX4_arrive_L18
      refine g_iload_n C 3 dX4_arrive_18 rfl rfl ?_
      refine g_bipush C (v := (20 : Int32)) dX4_arrive_19 (by decide) ?_
      refine g_icmp_ge C 91 dX4_arrive_21 (by decide) (fun _ => ?_) (fun _ => ?_)
      · exact g_ret C ⟨dX4_arrive_91, rfl, rfl⟩
      · refine g_aload_n C 0 dX4_arrive_24 rfl rfl ?_
        refine g_iload_n C 3 dX4_arrive_25 rfl rfl ?_
        refine g_iconst C (v := (0 : Int32)) dX4_arrive_26 ic_0 ?_
        refine g_callSi C (n := 2) (As := [.int v3, .int (0 : Int32)]) (rest := [.ref b]) (fun r h => mX4_bookAt l D K _ _ r h) gE.nil (τ := ()) gX4_arrive_X4_bookAt rfl (by decide +kernel) ⟨Nat.le_of_ble_eq_true rfl, Nat.le_of_ble_eq_true rfl, rfl, rfl⟩ rfl rfl (Nat.le_of_ble_eq_true rfl) dX4_arrive_27 (fun r1 _ => ?_)
        refine g_ialdG C 0 0 (RWg_0 K b 233 _) rfl dX4_arrive_30 ?_
        refine g_iload_n C 1 dX4_arrive_31 rfl rfl ?_
        refine g_iconst C (v := (1 : Int32)) dX4_arrive_32 ic_1 ?_
        refine g_iadd C dX4_arrive_33 ?_
        refine g_icmp_ne C 85 dX4_arrive_34 (by decide) (fun _ => ?_) (fun _ => ?_)
        · refine g_iload_n C 2 dX4_arrive_37 rfl rfl ?_
          refine g_if_ne C 49 dX4_arrive_38 (by decide) (fun _ => ?_) (fun _ => ?_)
          · refine g_aload_n C 0 dX4_arrive_41 rfl rfl ?_
            refine g_iload_n C 3 dX4_arrive_42 rfl rfl ?_
            refine g_callSv C (n := 2) (As := [.ref b, .int v3]) (rest := []) (fun r h => mX4_forget l D K b _ _ r h) gE.same gX4_arrive_X4_forget rfl (by decide +kernel) ⟨Nat.le_of_ble_eq_true rfl, Nat.le_of_ble_eq_true rfl, rfl, rfl⟩ rfl rfl (Nat.le_of_ble_eq_true rfl) dX4_arrive_43 (fun r2 _ => ?_)
            refine g_goto C 85 dX4_arrive_46 (by decide) ?_
            refine g_iinc C (w := (1 : Int32)) (lv' := [(3, .int (v3 + (1 : Int32))), (0, .ref b), (1, .int v1), (2, .int v2)]) 3 dX4_arrive_85 rfl ic_1 (by decide) rfl ?_
            refine g_goto C 18 dX4_arrive_88 (by decide) ?_
            refine g_sub C (lv' := [(0, .ref b), (1, .int v1), (2, .int v2), (3, .int (v3 + (1 : Int32)))]) [1, 2, 3, 0] rfl ?_
            exact ih_18 r2 v1 v2 (v3 + (1 : Int32))
          · refine g_aload_n C 0 dX4_arrive_49 rfl rfl ?_
            refine g_iload_n C 3 dX4_arrive_50 rfl rfl ?_
            refine g_iconst C (v := (1 : Int32)) dX4_arrive_51 ic_1 ?_
            refine g_callSi C (n := 2) (As := [.int v3, .int (1 : Int32)]) (rest := [.ref b]) (fun r h => mX4_bookAt l D K _ _ r h) gE.nil (τ := ()) gX4_arrive_X4_bookAt rfl (by decide +kernel) ⟨Nat.le_of_ble_eq_true rfl, Nat.le_of_ble_eq_true rfl, rfl, rfl⟩ rfl rfl (Nat.le_of_ble_eq_true rfl) dX4_arrive_52 (fun r3 _ => ?_)
            refine g_ialdG C 0 0 (RWg_0 K b 233 _) rfl dX4_arrive_55 ?_
            refine g_if_ne C 85 dX4_arrive_56 (by decide) (fun _ => ?_) (fun _ => ?_)
            · refine g_aload_n C 0 dX4_arrive_59 rfl rfl ?_
              refine g_aload_n C 0 dX4_arrive_60 rfl rfl ?_
              refine g_iload_n C 3 dX4_arrive_61 rfl rfl ?_
              refine g_iconst C (v := (3 : Int32)) dX4_arrive_62 ic_3 ?_
              refine g_callSi C (n := 2) (As := [.int v3, .int (3 : Int32)]) (rest := [.ref b, .ref b]) (fun r h => mX4_bookAt l D K _ _ r h) gE.nil (τ := ()) gX4_arrive_X4_bookAt rfl (by decide +kernel) ⟨Nat.le_of_ble_eq_true rfl, Nat.le_of_ble_eq_true rfl, rfl, rfl⟩ rfl rfl (Nat.le_of_ble_eq_true rfl) dX4_arrive_63 (fun r4 _ => ?_)
              refine g_ialdG C 0 0 (RWg_0 K b 233 _) rfl dX4_arrive_66 ?_
              refine g_iconst C (v := (1 : Int32)) dX4_arrive_67 ic_1 ?_
              refine g_icmp_ne C 77 dX4_arrive_68 (by decide) (fun _ => ?_) (fun _ => ?_)
              · refine g_sipush C (v := (200 : Int32)) dX4_arrive_71 (by decide) ?_
                refine g_goto C 80 dX4_arrive_74 (by decide) ?_
                refine g_dup2 C dX4_arrive_80 rfl rfl ?_
                refine g_iald C 0 0 (RWg_0 K b 233 _) rfl (by decide) dX4_arrive_81 ?_
                refine g_iconst C (v := (1 : Int32)) dX4_arrive_82 ic_1 ?_
                refine g_iadd C dX4_arrive_83 ?_
                refine g_topi (fun t5 => ?_)
                refine g_iast C 0 0 (RWg_0 K b 233 _) rfl (by decide) (RWs_0 K b 233 _ _) dX4_arrive_84 ?_
                refine g_state (fun u6 => ?_)
                refine g_iinc C (w := (1 : Int32)) (lv' := [(3, .int (v3 + (1 : Int32))), (0, .ref b), (1, .int v1), (2, .int v2)]) 3 dX4_arrive_85 rfl ic_1 (by decide) rfl ?_
                refine g_goto C 18 dX4_arrive_88 (by decide) ?_
                refine g_sub C (lv' := [(0, .ref b), (1, .int v1), (2, .int v2), (3, .int (v3 + (1 : Int32)))]) [1, 2, 3, 0] rfl ?_
                exact ih_18 u6 v1 v2 (v3 + (1 : Int32))
              · refine g_sipush C (v := (201 : Int32)) dX4_arrive_77 (by decide) ?_
                refine g_dup2 C dX4_arrive_80 rfl rfl ?_
                refine g_iald C 0 0 (RWg_0 K b 233 _) rfl (by decide) dX4_arrive_81 ?_
                refine g_iconst C (v := (1 : Int32)) dX4_arrive_82 ic_1 ?_
                refine g_iadd C dX4_arrive_83 ?_
                refine g_topi (fun t7 => ?_)
                refine g_iast C 0 0 (RWg_0 K b 233 _) rfl (by decide) (RWs_0 K b 233 _ _) dX4_arrive_84 ?_
                refine g_state (fun u8 => ?_)
                refine g_iinc C (w := (1 : Int32)) (lv' := [(3, .int (v3 + (1 : Int32))), (0, .ref b), (1, .int v1), (2, .int v2)]) 3 dX4_arrive_85 rfl ic_1 (by decide) rfl ?_
                refine g_goto C 18 dX4_arrive_88 (by decide) ?_
                refine g_sub C (lv' := [(0, .ref b), (1, .int v1), (2, .int v2), (3, .int (v3 + (1 : Int32)))]) [1, 2, 3, 0] rfl ?_
                exact ih_18 u8 v1 v2 (v3 + (1 : Int32))
            · refine g_iinc C (w := (1 : Int32)) (lv' := [(3, .int (v3 + (1 : Int32))), (0, .ref b), (1, .int v1), (2, .int v2)]) 3 dX4_arrive_85 rfl ic_1 (by decide) rfl ?_
              refine g_goto C 18 dX4_arrive_88 (by decide) ?_
              refine g_sub C (lv' := [(0, .ref b), (1, .int v1), (2, .int v2), (3, .int (v3 + (1 : Int32)))]) [1, 2, 3, 0] rfl ?_
              exact ih_18 σ v1 v2 (v3 + (1 : Int32))
        · refine g_iinc C (w := (1 : Int32)) (lv' := [(3, .int (v3 + (1 : Int32))), (0, .ref b), (1, .int v1), (2, .int v2)]) 3 dX4_arrive_85 rfl ic_1 (by decide) rfl ?_
          refine g_goto C 18 dX4_arrive_88 (by decide) ?_
          refine g_sub C (lv' := [(0, .ref b), (1, .int v1), (2, .int v2), (3, .int (v3 + (1 : Int32)))]) [1, 2, 3, 0] rfl ?_
          exact ih_18 σ v1 v2 (v3 + (1 : Int32))
  refine g_aload_n C 0 dX4_arrive_0 rfl rfl ?_
  refine g_iload_n C 1 dX4_arrive_1 rfl rfl ?_
  refine g_iconst C (v := (0 : Int32)) dX4_arrive_2 ic_0 ?_
  refine g_callSi C (n := 2) (As := [.int p1, .int (0 : Int32)]) (rest := [.ref b]) (fun r h => mX4_visitorAt l D K _ _ r h) gE.nil (τ := ()) gX4_arrive_X4_visitorAt rfl (by decide +kernel) ⟨Nat.le_of_ble_eq_true rfl, Nat.le_of_ble_eq_true rfl, rfl, rfl⟩ rfl rfl (Nat.le_of_ble_eq_true rfl) dX4_arrive_3 (fun r9 _ => ?_)
  refine g_iload_n C 2 dX4_arrive_6 rfl rfl ?_
  refine g_if_eq C 14 dX4_arrive_7 (by decide) (fun _ => ?_) (fun _ => ?_)
  · refine g_iconst C (v := (0 : Int32)) dX4_arrive_14 ic_0 ?_
    refine g_iastG C 0 0 (RWg_0 K b 233 _) rfl (RWs_0 K b 233 _ _) dX4_arrive_15 ?_
    refine g_state (fun u10 => ?_)
    refine g_iconst C (v := (0 : Int32)) dX4_arrive_16 ic_0 ?_
    refine g_istore_n C (lv' := [(3, .int (0 : Int32)), (0, .ref b), (1, .int p1), (2, .int p2)]) dX4_arrive_17 rfl (by decide) rfl ?_
    refine g_sub C (lv' := [(0, .ref b), (1, .int p1), (2, .int p2), (3, .int (0 : Int32))]) [1, 2, 3, 0] rfl ?_
    exact h_18 gFuel u10 p1 p2 (0 : Int32)
  · refine g_iconst C (v := (2 : Int32)) dX4_arrive_10 ic_2 ?_
    refine g_goto C 15 dX4_arrive_11 (by decide) ?_
    refine g_iastG C 0 0 (RWg_0 K b 233 _) rfl (RWs_0 K b 233 _ _) dX4_arrive_15 ?_
    refine g_state (fun u11 => ?_)
    refine g_iconst C (v := (0 : Int32)) dX4_arrive_16 ic_0 ?_
    refine g_istore_n C (lv' := [(3, .int (0 : Int32)), (0, .ref b), (1, .int p1), (2, .int p2)]) dX4_arrive_17 rfl (by decide) rfl ?_
    refine g_sub C (lv' := [(0, .ref b), (1, .int p1), (2, .int p2), (3, .int (0 : Int32))]) [1, 2, 3, 0] rfl ?_
    exact h_18 gFuel u11 p1 p2 (0 : Int32)
set_option maxHeartbeats 4000000 in
set_option maxRecDepth 100000 in
theorem mX4_goOn (l : Launch) (D : va_G) (K : Nat → ClassId) (b : Nat) (σ : (Nat → Int32)) (p1 : Int32) (r : (Nat → Int32)) (hf : fX4_goOn σ p1 = some r) : gMv l yX4_goOn wsX4_goOn { frames := 3, cells := 0, slots := 0, locals := 69 } D (gT K) (RW K b 233) [.ref b, .int p1] σ r := by
  refine mk_v (nL := 2) (cc := cX4_goOn) (by decide) rfl (Nat.le_of_ble_eq_true rfl) rfl rfl hf (fun g C => ?_)
  refine g_sub C (lv' := [(0, .ref b), (1, .int p1)]) [0, 1] rfl ?_
  unfold fX4_goOn
  have h_24 : ∀ (σ : (Nat → Int32)) (v1 : Int32) (s1 : Int32) (s2 : Int32) (s3 : Int32), g (fX4_goOn_L24 σ v1 s1 s2 s3) 24 [(0, .ref b), (1, .int v1)] [.int s3, .int s2, .int s1, .ref b] σ := by
    intro σ v1 s1 s2 s3
    unfold fX4_goOn_L24
    refine g_iadd C dX4_goOn_24 ?_
    refine g_topi (fun t1 => ?_)
    refine g_iastG C 0 0 (RWg_0 K b 233 _) rfl (RWs_0 K b 233 _ _) dX4_goOn_25 ?_
    refine g_state (fun u2 => ?_)
    refine g_aload_n C 0 dX4_goOn_26 rfl rfl ?_
    refine g_iload_n C 1 dX4_goOn_27 rfl rfl ?_
    refine g_iconst C (v := (2 : Int32)) dX4_goOn_28 ic_2 ?_
    refine g_callSi C (n := 2) (As := [.int v1, .int (2 : Int32)]) (rest := [.ref b]) (fun r h => mX4_visitorAt l D K _ _ r h) gE.nil (τ := ()) gX4_goOn_X4_visitorAt rfl (by decide +kernel) ⟨Nat.le_of_ble_eq_true rfl, Nat.le_of_ble_eq_true rfl, rfl, rfl⟩ rfl rfl (Nat.le_of_ble_eq_true rfl) dX4_goOn_29 (fun r3 _ => ?_)
    refine g_ialdG C 0 0 (RWg_0 K b 233 _) rfl dX4_goOn_32 ?_
    refine g_i2l C dX4_goOn_33 ?_
    refine g_ldc2 C (v := (-3 : Int64)) (List.mem_of_getElem? (i := 1) rfl) dX4_goOn_34 ?_
    refine g_ldc2 C (v := (3 : Int64)) (List.mem_of_getElem? (i := 2) rfl) dX4_goOn_37 ?_
    refine g_callSi C (n := 3) (As := [.long ((u2 r3.1.toNatClampNeg)).toInt64, .long (-3 : Int64), .long (3 : Int64)]) (rest := []) (fun r h => mX4_in l D K _ _ _ r h) gE.nil (τ := ()) gX4_goOn_X4_in rfl (by decide +kernel) ⟨Nat.le_of_ble_eq_true rfl, Nat.le_of_ble_eq_true rfl, rfl, rfl⟩ rfl rfl (Nat.le_of_ble_eq_true rfl) dX4_goOn_40 (fun r4 _ => ?_)
    refine g_if_ne C 67 dX4_goOn_43 (by decide) (fun _ => ?_) (fun _ => ?_)
    · refine g_aload_n C 0 dX4_goOn_46 rfl rfl ?_
      refine g_iload_n C 1 dX4_goOn_47 rfl rfl ?_
      refine g_aload_n C 0 dX4_goOn_48 rfl rfl ?_
      refine g_iload_n C 1 dX4_goOn_49 rfl rfl ?_
      refine g_iconst C (v := (3 : Int32)) dX4_goOn_50 ic_3 ?_
      refine g_callSi C (n := 2) (As := [.int v1, .int (3 : Int32)]) (rest := [.ref b, .int v1, .ref b]) (fun r h => mX4_visitorAt l D K _ _ r h) gE.nil (τ := ()) gX4_goOn_X4_visitorAt rfl (by decide +kernel) ⟨Nat.le_of_ble_eq_true rfl, Nat.le_of_ble_eq_true rfl, rfl, rfl⟩ rfl rfl (Nat.le_of_ble_eq_true rfl) dX4_goOn_51 (fun r5 _ => ?_)
      refine g_ialdG C 0 0 (RWg_0 K b 233 _) rfl dX4_goOn_54 ?_
      refine g_iconst C (v := (1 : Int32)) dX4_goOn_55 ic_1 ?_
      refine g_icmp_ne C 63 dX4_goOn_56 (by decide) (fun _ => ?_) (fun _ => ?_)
      · refine g_iconst C (v := (1 : Int32)) dX4_goOn_59 ic_1 ?_
        refine g_goto C 64 dX4_goOn_60 (by decide) ?_
        refine g_callSv C (n := 3) (As := [.ref b, .int v1, .int (1 : Int32)]) (rest := []) (fun r h => mX4_arrive l D K b _ _ _ r h) gE.same gX4_goOn_X4_arrive rfl (by decide +kernel) ⟨Nat.le_of_ble_eq_true rfl, Nat.le_of_ble_eq_true rfl, rfl, rfl⟩ rfl rfl (Nat.le_of_ble_eq_true rfl) dX4_goOn_64 (fun r6 _ => ?_)
        exact g_ret C ⟨dX4_goOn_67, rfl, rfl⟩
      · refine g_iconst C (v := (0 : Int32)) dX4_goOn_63 ic_0 ?_
        refine g_callSv C (n := 3) (As := [.ref b, .int v1, .int (0 : Int32)]) (rest := []) (fun r h => mX4_arrive l D K b _ _ _ r h) gE.same gX4_goOn_X4_arrive rfl (by decide +kernel) ⟨Nat.le_of_ble_eq_true rfl, Nat.le_of_ble_eq_true rfl, rfl, rfl⟩ rfl rfl (Nat.le_of_ble_eq_true rfl) dX4_goOn_64 (fun r7 _ => ?_)
        exact g_ret C ⟨dX4_goOn_67, rfl, rfl⟩
    · exact g_ret C ⟨dX4_goOn_67, rfl, rfl⟩
  refine g_aload_n C 0 dX4_goOn_0 rfl rfl ?_
  refine g_iload_n C 1 dX4_goOn_1 rfl rfl ?_
  refine g_iconst C (v := (2 : Int32)) dX4_goOn_2 ic_2 ?_
  refine g_callSi C (n := 2) (As := [.int p1, .int (2 : Int32)]) (rest := [.ref b]) (fun r h => mX4_visitorAt l D K _ _ r h) gE.nil (τ := ()) gX4_goOn_X4_visitorAt rfl (by decide +kernel) ⟨Nat.le_of_ble_eq_true rfl, Nat.le_of_ble_eq_true rfl, rfl, rfl⟩ rfl rfl (Nat.le_of_ble_eq_true rfl) dX4_goOn_3 (fun r8 _ => ?_)
  refine g_dup2 C dX4_goOn_6 rfl rfl ?_
  refine g_ialdG C 0 0 (RWg_0 K b 233 _) rfl dX4_goOn_7 ?_
  refine g_aload_n C 0 dX4_goOn_8 rfl rfl ?_
  refine g_iload_n C 1 dX4_goOn_9 rfl rfl ?_
  refine g_iconst C (v := (3 : Int32)) dX4_goOn_10 ic_3 ?_
  refine g_callSi C (n := 2) (As := [.int p1, .int (3 : Int32)]) (rest := [.ref b, .int (σ r8.1.toNatClampNeg), .int r8.1, .ref b]) (fun r h => mX4_visitorAt l D K _ _ r h) gE.nil (τ := ()) gX4_goOn_X4_visitorAt rfl (by decide +kernel) ⟨Nat.le_of_ble_eq_true rfl, Nat.le_of_ble_eq_true rfl, rfl, rfl⟩ rfl rfl (Nat.le_of_ble_eq_true rfl) dX4_goOn_11 (fun r9 _ => ?_)
  refine g_ialdG C 0 0 (RWg_0 K b 233 _) rfl dX4_goOn_14 ?_
  refine g_iconst C (v := (1 : Int32)) dX4_goOn_15 ic_1 ?_
  refine g_icmp_ne C 23 dX4_goOn_16 (by decide) (fun _ => ?_) (fun _ => ?_)
  · refine g_iconst C (v := (1 : Int32)) dX4_goOn_19 ic_1 ?_
    refine g_goto C 24 dX4_goOn_20 (by decide) ?_
    exact h_24 σ p1 r8.1 (σ r8.1.toNatClampNeg) (1 : Int32)
  · refine g_iconst C (v := (-1 : Int32)) dX4_goOn_23 ic_m1 ?_
    exact h_24 σ p1 r8.1 (σ r8.1.toNatClampNeg) (-1 : Int32)
set_option maxHeartbeats 4000000 in
set_option maxRecDepth 100000 in
theorem mX4_readAt (l : Launch) (D : va_G) (K : Nat → ClassId) (b : Nat) (σ : (Nat → Int32)) (p1 : Int32) (p2 : Int32) (r : (Nat → Int32)) (hf : fX4_readAt σ p1 p2 = some r) : gMv l yX4_readAt wsX4_readAt { frames := 1, cells := 0, slots := 0, locals := 21 } D (gT K) (RW K b 233) [.ref b, .int p1, .int p2] σ r := by
  refine mk_v (nL := 5) (cc := cX4_readAt) (by decide) rfl (Nat.le_of_ble_eq_true rfl) rfl rfl hf (fun g C => ?_)
  refine g_sub C (lv' := [(0, .ref b), (1, .int p1), (2, .int p2)]) [0, 1, 2] rfl ?_
  unfold fX4_readAt
  have h_46 : ∀ (σ : (Nat → Int32)) (v1 : Int32) (v2 : Int32) (s0 : Int32), g (fX4_readAt_L46 σ v1 v2 s0) 46 [(0, .ref b), (1, .int v1), (2, .int v2)] [.int s0] σ := by
    have h_66 : ∀ (σ : (Nat → Int32)) (v1 : Int32) (v2 : Int32) (v4 : Int32) (s1 : Int32) (s2 : Int32) (s3 : Int32), g (fX4_readAt_L66 σ v1 v2 v4 s1 s2 s3) 66 [(0, .ref b), (1, .int v1), (2, .int v2), (4, .int v4)] [.int s3, .int s2, .int s1, .ref b] σ := by
      intro σ v1 v2 v4 s1 s2 s3
      unfold fX4_readAt_L66
      refine g_iadd C dX4_readAt_66 ?_
      refine g_topi (fun t1 => ?_)
      refine g_iastG C 0 0 (RWg_0 K b 233 _) rfl (RWs_0 K b 233 _ _) dX4_readAt_67 ?_
      refine g_state (fun u2 => ?_)
      refine g_iload C 3 dX4_readAt_68 rfl ?_
      refine g_if_eq C 126 dX4_readAt_70 (by decide) (fun _ => ?_) (fun _ => ?_)
      · exact g_ret C ⟨dX4_readAt_126, rfl, rfl⟩
      · refine g_aload_n C 0 dX4_readAt_73 rfl rfl ?_
        refine g_iload_n C 2 dX4_readAt_74 rfl rfl ?_
        refine g_iconst C (v := (2 : Int32)) dX4_readAt_75 ic_2 ?_
        refine g_callSi C (n := 2) (As := [.int v2, .int (2 : Int32)]) (rest := [.ref b]) (fun r h => mX4_bookAt l D K _ _ r h) gE.nil (τ := ()) gX4_readAt_X4_bookAt rfl (by decide +kernel) ⟨Nat.le_of_ble_eq_true rfl, Nat.le_of_ble_eq_true rfl, rfl, rfl⟩ rfl rfl (Nat.le_of_ble_eq_true rfl) dX4_readAt_76 (fun r3 _ => ?_)
        refine g_ialdG C 0 0 (RWg_0 K b 233 _) rfl dX4_readAt_79 ?_
        refine g_aload_n C 0 dX4_readAt_80 rfl rfl ?_
        refine g_sipush C (v := (196 : Int32)) dX4_readAt_81 (by decide) ?_
        refine g_iald C 0 0 (RWg_0 K b 233 _) rfl (by decide) dX4_readAt_84 ?_
        refine g_icmp_lt C 126 dX4_readAt_85 (by decide) (fun _ => ?_) (fun _ => ?_)
        · exact g_ret C ⟨dX4_readAt_126, rfl, rfl⟩
        · refine g_aload_n C 0 dX4_readAt_88 rfl rfl ?_
          refine g_iload_n C 2 dX4_readAt_89 rfl rfl ?_
          refine g_iconst C (v := (3 : Int32)) dX4_readAt_90 ic_3 ?_
          refine g_callSi C (n := 2) (As := [.int v2, .int (3 : Int32)]) (rest := [.ref b]) (fun r h => mX4_bookAt l D K _ _ r h) gE.nil (τ := ()) gX4_readAt_X4_bookAt rfl (by decide +kernel) ⟨Nat.le_of_ble_eq_true rfl, Nat.le_of_ble_eq_true rfl, rfl, rfl⟩ rfl rfl (Nat.le_of_ble_eq_true rfl) dX4_readAt_91 (fun r4 _ => ?_)
          refine g_iconst C (v := (1 : Int32)) dX4_readAt_94 ic_1 ?_
          refine g_iastG C 0 0 (RWg_0 K b 233 _) rfl (RWs_0 K b 233 _ _) dX4_readAt_95 ?_
          refine g_state (fun u5 => ?_)
          refine g_aload_n C 0 dX4_readAt_96 rfl rfl ?_
          refine g_sipush C (v := (136 : Int32)) dX4_readAt_97 (by decide) ?_
          refine g_bipush C (v := (20 : Int32)) dX4_readAt_100 (by decide) ?_
          refine g_iload_n C 1 dX4_readAt_102 rfl rfl ?_
          refine g_imul C dX4_readAt_103 ?_
          refine g_iadd C dX4_readAt_104 ?_
          refine g_aload_n C 0 dX4_readAt_105 rfl rfl ?_
          refine g_iload_n C 1 dX4_readAt_106 rfl rfl ?_
          refine g_iconst C (v := (2 : Int32)) dX4_readAt_107 ic_2 ?_
          refine g_callSi C (n := 2) (As := [.int v1, .int (2 : Int32)]) (rest := [.ref b, .int ((136 : Int32) + ((20 : Int32) * v1)), .ref b]) (fun r h => mX4_gateAt l D K _ _ r h) gE.nil (τ := ()) gX4_readAt_X4_gateAt rfl (by decide +kernel) ⟨Nat.le_of_ble_eq_true rfl, Nat.le_of_ble_eq_true rfl, rfl, rfl⟩ rfl rfl (Nat.le_of_ble_eq_true rfl) dX4_readAt_108 (fun r6 _ => ?_)
          refine g_ialdG C 0 0 (RWg_0 K b 233 _) rfl dX4_readAt_111 ?_
          refine g_iadd C dX4_readAt_112 ?_
          refine g_iload_n C 2 dX4_readAt_113 rfl rfl ?_
          refine g_iastG C 0 0 (RWg_0 K b 233 _) rfl (RWs_0 K b 233 _ _) dX4_readAt_114 ?_
          refine g_state (fun u7 => ?_)
          refine g_aload_n C 0 dX4_readAt_115 rfl rfl ?_
          refine g_iload_n C 1 dX4_readAt_116 rfl rfl ?_
          refine g_iconst C (v := (2 : Int32)) dX4_readAt_117 ic_2 ?_
          refine g_callSi C (n := 2) (As := [.int v1, .int (2 : Int32)]) (rest := [.ref b]) (fun r h => mX4_gateAt l D K _ _ r h) gE.nil (τ := ()) gX4_readAt_X4_gateAt rfl (by decide +kernel) ⟨Nat.le_of_ble_eq_true rfl, Nat.le_of_ble_eq_true rfl, rfl, rfl⟩ rfl rfl (Nat.le_of_ble_eq_true rfl) dX4_readAt_118 (fun r8 _ => ?_)
          refine g_dup2 C dX4_readAt_121 rfl rfl ?_
          refine g_ialdG C 0 0 (RWg_0 K b 233 _) rfl dX4_readAt_122 ?_
          refine g_iconst C (v := (1 : Int32)) dX4_readAt_123 ic_1 ?_
          refine g_iadd C dX4_readAt_124 ?_
          refine g_topi (fun t9 => ?_)
          refine g_iastG C 0 0 (RWg_0 K b 233 _) rfl (RWs_0 K b 233 _ _) dX4_readAt_125 ?_
          refine g_state (fun u10 => ?_)
          exact g_ret C ⟨dX4_readAt_126, rfl, rfl⟩
    intro σ v1 v2 s0
    unfold fX4_readAt_L46
    refine g_istore C (lv' := [(4, .int s0), (0, .ref b), (1, .int v1), (2, .int v2)]) dX4_readAt_46 (by decide) rfl ?_
    refine g_aload_n C 1 dX4_readAt_48 rfl rfl ?_
    refine g_iload_n C 3 dX4_readAt_49 rfl rfl ?_
    refine g_iconst C (v := (2 : Int32)) dX4_readAt_50 ic_2 ?_
    refine g_callSi C (n := 2) (As := [.int v2, .int (2 : Int32)]) (rest := [.ref b]) (fun r h => mX4_bookAt l D K _ _ r h) gE.nil (τ := ()) gX4_readAt_X4_bookAt rfl (by decide +kernel) ⟨Nat.le_of_ble_eq_true rfl, Nat.le_of_ble_eq_true rfl, rfl, rfl⟩ rfl rfl (Nat.le_of_ble_eq_true rfl) dX4_readAt_51 (fun r11 _ => ?_)
    refine g_dup2 C dX4_readAt_54 rfl rfl ?_
    refine g_ialdG C 0 0 (RWg_0 K b 233 _) rfl dX4_readAt_55 ?_
    refine g_iload C 0 dX4_readAt_56 rfl ?_
    refine g_if_eq C 65 dX4_readAt_58 (by decide) (fun _ => ?_) (fun _ => ?_)
    · refine g_iconst C (v := (0 : Int32)) dX4_readAt_65 ic_0 ?_
      refine g_sub C (lv' := [(0, .ref b), (1, .int v1), (2, .int v2), (4, .int s0)]) [1, 2, 3, 0] rfl ?_
      exact h_66 σ v1 v2 s0 r11.1 (σ r11.1.toNatClampNeg) (0 : Int32)
    · refine g_iconst C (v := (1 : Int32)) dX4_readAt_61 ic_1 ?_
      refine g_goto C 66 dX4_readAt_62 (by decide) ?_
      refine g_sub C (lv' := [(0, .ref b), (1, .int v1), (2, .int v2), (4, .int s0)]) [1, 2, 3, 0] rfl ?_
      exact h_66 σ v1 v2 s0 r11.1 (σ r11.1.toNatClampNeg) (1 : Int32)
  refine g_aload_n C 0 dX4_readAt_0 rfl rfl ?_
  refine g_iload_n C 2 dX4_readAt_1 rfl rfl ?_
  refine g_iconst C (v := (0 : Int32)) dX4_readAt_2 ic_0 ?_
  refine g_callSi C (n := 2) (As := [.int p2, .int (0 : Int32)]) (rest := [.ref b]) (fun r h => mX4_bookAt l D K _ _ r h) gE.nil (τ := ()) gX4_readAt_X4_bookAt rfl (by decide +kernel) ⟨Nat.le_of_ble_eq_true rfl, Nat.le_of_ble_eq_true rfl, rfl, rfl⟩ rfl rfl (Nat.le_of_ble_eq_true rfl) dX4_readAt_3 (fun r12 _ => ?_)
  refine g_ialdG C 0 0 (RWg_0 K b 233 _) rfl dX4_readAt_6 ?_
  refine g_iconst C (v := (1 : Int32)) dX4_readAt_7 ic_1 ?_
  refine g_isub C dX4_readAt_8 ?_
  refine g_topi (fun t13 => ?_)
  refine g_istore_n C (lv' := [(3, .int t13), (0, .ref b), (1, .int p1), (2, .int p2)]) dX4_readAt_9 rfl (by decide) rfl ?_
  refine g_aload_n C 1 dX4_readAt_10 rfl rfl ?_
  refine g_iload_n C 3 dX4_readAt_11 rfl rfl ?_
  refine g_iconst C (v := (1 : Int32)) dX4_readAt_12 ic_1 ?_
  refine g_callSi C (n := 2) (As := [.int p2, .int (1 : Int32)]) (rest := [.ref b]) (fun r h => mX4_bookAt l D K _ _ r h) gE.nil (τ := ()) gX4_readAt_X4_bookAt rfl (by decide +kernel) ⟨Nat.le_of_ble_eq_true rfl, Nat.le_of_ble_eq_true rfl, rfl, rfl⟩ rfl rfl (Nat.le_of_ble_eq_true rfl) dX4_readAt_13 (fun r14 _ => ?_)
  refine g_ialdG C 0 0 (RWg_0 K b 233 _) rfl dX4_readAt_16 ?_
  refine g_if_ne C 45 dX4_readAt_17 (by decide) (fun _ => ?_) (fun _ => ?_)
  · refine g_aload_n C 1 dX4_readAt_20 rfl rfl ?_
    refine g_iload_n C 3 dX4_readAt_21 rfl rfl ?_
    refine g_iconst C (v := (3 : Int32)) dX4_readAt_22 ic_3 ?_
    refine g_callSi C (n := 2) (As := [.int p2, .int (3 : Int32)]) (rest := [.ref b]) (fun r h => mX4_bookAt l D K _ _ r h) gE.nil (τ := ()) gX4_readAt_X4_bookAt rfl (by decide +kernel) ⟨Nat.le_of_ble_eq_true rfl, Nat.le_of_ble_eq_true rfl, rfl, rfl⟩ rfl rfl (Nat.le_of_ble_eq_true rfl) dX4_readAt_23 (fun r15 _ => ?_)
    refine g_ialdG C 0 0 (RWg_0 K b 233 _) rfl dX4_readAt_26 ?_
    refine g_if_ne C 45 dX4_readAt_27 (by decide) (fun _ => ?_) (fun _ => ?_)
    · refine g_aload_n C 1 dX4_readAt_30 rfl rfl ?_
      refine g_iload_n C 0 dX4_readAt_31 rfl rfl ?_
      refine g_iconst C (v := (3 : Int32)) dX4_readAt_32 ic_3 ?_
      refine g_callSi C (n := 2) (As := [.int t13, .int (3 : Int32)]) (rest := [.ref b]) (fun r h => mX4_visitorAt l D K _ _ r h) gE.nil (τ := ()) gX4_readAt_X4_visitorAt rfl (by decide +kernel) ⟨Nat.le_of_ble_eq_true rfl, Nat.le_of_ble_eq_true rfl, rfl, rfl⟩ rfl rfl (Nat.le_of_ble_eq_true rfl) dX4_readAt_33 (fun r16 _ => ?_)
      refine g_ialdG C 0 0 (RWg_0 K b 233 _) rfl dX4_readAt_36 ?_
      refine g_iconst C (v := (1 : Int32)) dX4_readAt_37 ic_1 ?_
      refine g_icmp_ne C 45 dX4_readAt_38 (by decide) (fun _ => ?_) (fun _ => ?_)
      · refine g_iconst C (v := (1 : Int32)) dX4_readAt_41 ic_1 ?_
        refine g_goto C 46 dX4_readAt_42 (by decide) ?_
        refine g_sub C (lv' := [(0, .ref b), (1, .int p1), (2, .int p2)]) [1, 2, 3] rfl ?_
        exact h_46 σ p1 p2 (1 : Int32)
      · refine g_iconst C (v := (0 : Int32)) dX4_readAt_45 ic_0 ?_
        refine g_sub C (lv' := [(0, .ref b), (1, .int p1), (2, .int p2)]) [1, 2, 3] rfl ?_
        exact h_46 σ p1 p2 (0 : Int32)
    · refine g_iconst C (v := (0 : Int32)) dX4_readAt_45 ic_0 ?_
      refine g_sub C (lv' := [(0, .ref b), (1, .int p1), (2, .int p2)]) [1, 2, 3] rfl ?_
      exact h_46 σ p1 p2 (0 : Int32)
  · refine g_iconst C (v := (0 : Int32)) dX4_readAt_45 ic_0 ?_
    refine g_sub C (lv' := [(0, .ref b), (1, .int p1), (2, .int p2)]) [1, 2, 3] rfl ?_
    exact h_46 σ p1 p2 (0 : Int32)
set_option maxHeartbeats 4000000 in
set_option maxRecDepth 100000 in
theorem mX4_cry (l : Launch) (D : va_G) (K : Nat → ClassId) (b : Nat) (σ : (Nat → Int32)) (p1 : Int32) (r : (Nat → Int32)) (hf : fX4_cry σ p1 = some r) : gMv l yX4_cry wsX4_cry { frames := 1, cells := 0, slots := 0, locals := 25 } D (gT K) (RW K b 233) [.ref b, .int p1] σ r := by
  refine mk_v (nL := 4) (cc := cX4_cry) (by decide) rfl (Nat.le_of_ble_eq_true rfl) rfl rfl hf (fun g C => ?_)
  refine g_sub C (lv' := [(0, .ref b), (1, .int p1)]) [0, 1] rfl ?_
  unfold fX4_cry
  have h_98 : ∀ (n : Nat) (σ : (Nat → Int32)) (v1 : Int32) (v2 : Int32) (v3 : Int32), g (fX4_cry_L98 n σ v1 v2 v3) 98 [(0, .ref b), (1, .int v1), (2, .int v2), (3, .int v3)] [] σ := by
    intro n
    induction n with
    | zero =>
      intro σ v1 v2 v3
      exact g_none C
    | succ n98 ih_98 =>
      intro σ v1 v2 v3
      unfold fX4_cry_L98
      refine g_iload_n C 3 dX4_cry_98 rfl rfl ?_
      refine g_iconst C (v := (2 : Int32)) dX4_cry_99 ic_2 ?_
      refine g_icmp_le C 125 dX4_cry_100 (by decide) (fun _ => ?_) (fun _ => ?_)
      · refine g_aload_n C 0 dX4_cry_125 rfl rfl ?_
        refine g_sipush C (v := (203 : Int32)) dX4_cry_126 (by decide) ?_
        refine g_iload_n C 1 dX4_cry_129 rfl rfl ?_
        refine g_iast C 0 0 (RWg_0 K b 233 _) rfl (by decide) (RWs_0 K b 233 _ _) dX4_cry_130 ?_
        refine g_state (fun u1 => ?_)
        refine g_aload_n C 0 dX4_cry_131 rfl rfl ?_
        refine g_sipush C (v := (204 : Int32)) dX4_cry_132 (by decide) ?_
        refine g_iload_n C 2 dX4_cry_135 rfl rfl ?_
        refine g_iast C 0 0 (RWg_0 K b 233 _) rfl (by decide) (RWs_0 K b 233 _ _) dX4_cry_136 ?_
        refine g_state (fun u2 => ?_)
        refine g_aload_n C 0 dX4_cry_137 rfl rfl ?_
        refine g_sipush C (v := (205 : Int32)) dX4_cry_138 (by decide) ?_
        refine g_aload_n C 0 dX4_cry_141 rfl rfl ?_
        refine g_sipush C (v := (198 : Int32)) dX4_cry_142 (by decide) ?_
        refine g_iald C 0 0 (RWg_0 K b 233 _) rfl (by decide) dX4_cry_145 ?_
        refine g_topi (fun t3 => ?_)
        refine g_iast C 0 0 (RWg_0 K b 233 _) rfl (by decide) (RWs_0 K b 233 _ _) dX4_cry_146 ?_
        refine g_state (fun u4 => ?_)
        refine g_aload_n C 0 dX4_cry_147 rfl rfl ?_
        refine g_sipush C (v := (202 : Int32)) dX4_cry_148 (by decide) ?_
        refine g_dup2 C dX4_cry_151 rfl rfl ?_
        refine g_iald C 0 0 (RWg_0 K b 233 _) rfl (by decide) dX4_cry_152 ?_
        refine g_aload_n C 0 dX4_cry_153 rfl rfl ?_
        refine g_sipush C (v := (202 : Int32)) dX4_cry_154 (by decide) ?_
        refine g_iald C 0 0 (RWg_0 K b 233 _) rfl (by decide) dX4_cry_157 ?_
        refine g_bipush C (v := (10 : Int32)) dX4_cry_158 (by decide) ?_
        refine g_icmp_ge C 167 dX4_cry_160 (by decide) (fun _ => ?_) (fun _ => ?_)
        · refine g_iconst C (v := (0 : Int32)) dX4_cry_167 ic_0 ?_
          refine g_iadd C dX4_cry_168 ?_
          refine g_topi (fun t5 => ?_)
          refine g_iast C 0 0 (RWg_0 K b 233 _) rfl (by decide) (RWs_0 K b 233 _ _) dX4_cry_169 ?_
          refine g_state (fun u6 => ?_)
          exact g_ret C ⟨dX4_cry_170, rfl, rfl⟩
        · refine g_iconst C (v := (1 : Int32)) dX4_cry_163 ic_1 ?_
          refine g_goto C 168 dX4_cry_164 (by decide) ?_
          refine g_iadd C dX4_cry_168 ?_
          refine g_topi (fun t7 => ?_)
          refine g_iast C 0 0 (RWg_0 K b 233 _) rfl (by decide) (RWs_0 K b 233 _ _) dX4_cry_169 ?_
          refine g_state (fun u8 => ?_)
          exact g_ret C ⟨dX4_cry_170, rfl, rfl⟩
      · refine g_aload_n C 0 dX4_cry_103 rfl rfl ?_
        refine g_sipush C (v := (203 : Int32)) dX4_cry_104 (by decide) ?_
        refine g_iload_n C 3 dX4_cry_107 rfl rfl ?_
        refine g_iadd C dX4_cry_108 ?_
        refine g_aload_n C 0 dX4_cry_109 rfl rfl ?_
        refine g_sipush C (v := (203 : Int32)) dX4_cry_110 (by decide) ?_
        refine g_iload_n C 3 dX4_cry_113 rfl rfl ?_
        refine g_iadd C dX4_cry_114 ?_
        refine g_iconst C (v := (3 : Int32)) dX4_cry_115 ic_3 ?_
        refine g_isub C dX4_cry_116 ?_
        refine g_ialdG C 0 0 (RWg_0 K b 233 _) rfl dX4_cry_117 ?_
        refine g_topi (fun t9 => ?_)
        refine g_iastG C 0 0 (RWg_0 K b 233 _) rfl (RWs_0 K b 233 _ _) dX4_cry_118 ?_
        refine g_state (fun u10 => ?_)
        refine g_iinc C (w := (-1 : Int32)) (lv' := [(3, .int (v3 + (-1 : Int32))), (0, .ref b), (1, .int v1), (2, .int v2)]) 3 dX4_cry_119 rfl ic_m1 (by decide) rfl ?_
        refine g_goto C 98 dX4_cry_122 (by decide) ?_
        refine g_sub C (lv' := [(0, .ref b), (1, .int v1), (2, .int v2), (3, .int (v3 + (-1 : Int32)))]) [1, 2, 3, 0] rfl ?_
        exact ih_98 u10 v1 v2 (v3 + (-1 : Int32))
  refine g_aload_n C 0 dX4_cry_0 rfl rfl ?_
  refine g_sipush C (v := (136 : Int32)) dX4_cry_1 (by decide) ?_
  refine g_bipush C (v := (20 : Int32)) dX4_cry_4 (by decide) ?_
  refine g_iload_n C 1 dX4_cry_6 rfl rfl ?_
  refine g_imul C dX4_cry_7 ?_
  refine g_iadd C dX4_cry_8 ?_
  refine g_ialdG C 0 0 (RWg_0 K b 233 _) rfl dX4_cry_9 ?_
  refine g_topi (fun t11 => ?_)
  refine g_istore_n C (lv' := [(2, .int t11), (0, .ref b), (1, .int p1)]) dX4_cry_10 rfl (by decide) rfl ?_
  refine g_aload_n C 1 dX4_cry_11 rfl rfl ?_
  refine g_iload_n C 2 dX4_cry_12 rfl rfl ?_
  refine g_iconst C (v := (2 : Int32)) dX4_cry_13 ic_2 ?_
  refine g_callSi C (n := 2) (As := [.int p1, .int (2 : Int32)]) (rest := [.ref b]) (fun r h => mX4_gateAt l D K _ _ r h) gE.nil (τ := ()) gX4_cry_X4_gateAt rfl (by decide +kernel) ⟨Nat.le_of_ble_eq_true rfl, Nat.le_of_ble_eq_true rfl, rfl, rfl⟩ rfl rfl (Nat.le_of_ble_eq_true rfl) dX4_cry_14 (fun r12 _ => ?_)
  refine g_dup2 C dX4_cry_17 rfl rfl ?_
  refine g_ialdG C 0 0 (RWg_0 K b 233 _) rfl dX4_cry_18 ?_
  refine g_iconst C (v := (1 : Int32)) dX4_cry_19 ic_1 ?_
  refine g_isub C dX4_cry_20 ?_
  refine g_topi (fun t13 => ?_)
  refine g_iastG C 0 0 (RWg_0 K b 233 _) rfl (RWs_0 K b 233 _ _) dX4_cry_21 ?_
  refine g_state (fun u14 => ?_)
  refine g_aload_n C 1 dX4_cry_22 rfl rfl ?_
  refine g_sipush C (v := (136 : Int32)) dX4_cry_23 (by decide) ?_
  refine g_bipush C (v := (20 : Int32)) dX4_cry_26 (by decide) ?_
  refine g_iload_n C 2 dX4_cry_28 rfl rfl ?_
  refine g_imul C dX4_cry_29 ?_
  refine g_iadd C dX4_cry_30 ?_
  refine g_iconst C (v := (1 : Int32)) dX4_cry_31 ic_1 ?_
  refine g_iadd C dX4_cry_32 ?_
  refine g_aload_n C 1 dX4_cry_33 rfl rfl ?_
  refine g_sipush C (v := (136 : Int32)) dX4_cry_34 (by decide) ?_
  refine g_bipush C (v := (20 : Int32)) dX4_cry_37 (by decide) ?_
  refine g_iload_n C 2 dX4_cry_39 rfl rfl ?_
  refine g_imul C dX4_cry_40 ?_
  refine g_iadd C dX4_cry_41 ?_
  refine g_aload_n C 1 dX4_cry_42 rfl rfl ?_
  refine g_iload_n C 2 dX4_cry_43 rfl rfl ?_
  refine g_iconst C (v := (2 : Int32)) dX4_cry_44 ic_2 ?_
  refine g_callSi C (n := 2) (As := [.int p1, .int (2 : Int32)]) (rest := [.ref b, .int ((136 : Int32) + ((20 : Int32) * p1)), .ref b, .int (((136 : Int32) + ((20 : Int32) * p1)) + (1 : Int32)), .ref b]) (fun r h => mX4_gateAt l D K _ _ r h) gE.nil (τ := ()) gX4_cry_X4_gateAt rfl (by decide +kernel) ⟨Nat.le_of_ble_eq_true rfl, Nat.le_of_ble_eq_true rfl, rfl, rfl⟩ rfl rfl (Nat.le_of_ble_eq_true rfl) dX4_cry_45 (fun r15 _ => ?_)
  refine g_ialdG C 0 0 (RWg_0 K b 233 _) rfl dX4_cry_48 ?_
  refine g_callSv C (n := 5) (As := [.ref b, .int (((136 : Int32) + ((20 : Int32) * p1)) + (1 : Int32)), .ref b, .int ((136 : Int32) + ((20 : Int32) * p1)), .int (u14 r15.1.toNatClampNeg)]) (rest := []) (fun r h => mX4_copy_s l D K b _ _ _ _ r h) gE.same gX4_cry_X4_copy rfl (by decide +kernel) ⟨Nat.le_of_ble_eq_true rfl, Nat.le_of_ble_eq_true rfl, rfl, rfl⟩ rfl rfl (Nat.le_of_ble_eq_true rfl) dX4_cry_49 (fun r16 _ => ?_)
  refine g_aload_n C 1 dX4_cry_52 rfl rfl ?_
  refine g_iload_n C 2 dX4_cry_53 rfl rfl ?_
  refine g_iconst C (v := (3 : Int32)) dX4_cry_54 ic_3 ?_
  refine g_callSi C (n := 2) (As := [.int p1, .int (3 : Int32)]) (rest := [.ref b]) (fun r h => mX4_gateAt l D K _ _ r h) gE.nil (τ := ()) gX4_cry_X4_gateAt rfl (by decide +kernel) ⟨Nat.le_of_ble_eq_true rfl, Nat.le_of_ble_eq_true rfl, rfl, rfl⟩ rfl rfl (Nat.le_of_ble_eq_true rfl) dX4_cry_55 (fun r17 _ => ?_)
  refine g_dup2 C dX4_cry_58 rfl rfl ?_
  refine g_ialdG C 0 0 (RWg_0 K b 233 _) rfl dX4_cry_59 ?_
  refine g_iconst C (v := (1 : Int32)) dX4_cry_60 ic_1 ?_
  refine g_iadd C dX4_cry_61 ?_
  refine g_topi (fun t18 => ?_)
  refine g_iastG C 0 0 (RWg_0 K b 233 _) rfl (RWs_0 K b 233 _ _) dX4_cry_62 ?_
  refine g_state (fun u19 => ?_)
  refine g_aload_n C 1 dX4_cry_63 rfl rfl ?_
  refine g_iload_n C 0 dX4_cry_64 rfl rfl ?_
  refine g_iconst C (v := (4 : Int32)) dX4_cry_65 ic_4 ?_
  refine g_callSi C (n := 2) (As := [.int t11, .int (4 : Int32)]) (rest := [.ref b]) (fun r h => mX4_bookAt l D K _ _ r h) gE.nil (τ := ()) gX4_cry_X4_bookAt rfl (by decide +kernel) ⟨Nat.le_of_ble_eq_true rfl, Nat.le_of_ble_eq_true rfl, rfl, rfl⟩ rfl rfl (Nat.le_of_ble_eq_true rfl) dX4_cry_66 (fun r20 _ => ?_)
  refine g_dup2 C dX4_cry_69 rfl rfl ?_
  refine g_ialdG C 0 0 (RWg_0 K b 233 _) rfl dX4_cry_70 ?_
  refine g_iconst C (v := (1 : Int32)) dX4_cry_71 ic_1 ?_
  refine g_iadd C dX4_cry_72 ?_
  refine g_topi (fun t21 => ?_)
  refine g_iastG C 0 0 (RWg_0 K b 233 _) rfl (RWs_0 K b 233 _ _) dX4_cry_73 ?_
  refine g_state (fun u22 => ?_)
  refine g_aload_n C 1 dX4_cry_74 rfl rfl ?_
  refine g_sipush C (v := (199 : Int32)) dX4_cry_75 (by decide) ?_
  refine g_dup2 C dX4_cry_78 rfl rfl ?_
  refine g_iald C 0 0 (RWg_0 K b 233 _) rfl (by decide) dX4_cry_79 ?_
  refine g_iconst C (v := (1 : Int32)) dX4_cry_80 ic_1 ?_
  refine g_iadd C dX4_cry_81 ?_
  refine g_topi (fun t23 => ?_)
  refine g_iast C 0 0 (RWg_0 K b 233 _) rfl (by decide) (RWs_0 K b 233 _ _) dX4_cry_82 ?_
  refine g_state (fun u24 => ?_)
  refine g_aload_n C 1 dX4_cry_83 rfl rfl ?_
  refine g_iload_n C 2 dX4_cry_84 rfl rfl ?_
  refine g_iconst C (v := (1 : Int32)) dX4_cry_85 ic_1 ?_
  refine g_callSi C (n := 2) (As := [.int p1, .int (1 : Int32)]) (rest := [.ref b]) (fun r h => mX4_gateAt l D K _ _ r h) gE.nil (τ := ()) gX4_cry_X4_gateAt rfl (by decide +kernel) ⟨Nat.le_of_ble_eq_true rfl, Nat.le_of_ble_eq_true rfl, rfl, rfl⟩ rfl rfl (Nat.le_of_ble_eq_true rfl) dX4_cry_86 (fun r25 _ => ?_)
  refine g_aload_n C 1 dX4_cry_89 rfl rfl ?_
  refine g_sipush C (v := (197 : Int32)) dX4_cry_90 (by decide) ?_
  refine g_iald C 0 0 (RWg_0 K b 233 _) rfl (by decide) dX4_cry_93 ?_
  refine g_topi (fun t26 => ?_)
  refine g_iastG C 0 0 (RWg_0 K b 233 _) rfl (RWs_0 K b 233 _ _) dX4_cry_94 ?_
  refine g_state (fun u27 => ?_)
  refine g_bipush C (v := (29 : Int32)) dX4_cry_95 (by decide) ?_
  refine g_istore_n C (lv' := [(3, .int (29 : Int32)), (2, .int t11), (0, .ref b), (1, .int p1)]) dX4_cry_97 rfl (by decide) rfl ?_
  refine g_sub C (lv' := [(0, .ref b), (1, .int p1), (2, .int t11), (3, .int (29 : Int32))]) [2, 3, 1, 0] rfl ?_
  exact h_98 gFuel u27 p1 t11 (29 : Int32)
set_option maxHeartbeats 4000000 in
set_option maxRecDepth 100000 in
theorem mX4_tick (l : Launch) (D : va_G) (K : Nat → ClassId) (b : Nat) (σ : (Nat → Int32)) (r : (Nat → Int32)) (hf : fX4_tick σ  = some r) : gMv l yX4_tick wsX4_tick { frames := 4, cells := 0, slots := 0, locals := 93 } D (gT K) (RW K b 233) [.ref b] σ r := by
  refine mk_v (nL := 3) (cc := cX4_tick) (by decide) rfl (Nat.le_of_ble_eq_true rfl) rfl rfl hf (fun g C => ?_)
  refine g_sub C (lv' := [(0, .ref b)]) [0] rfl ?_
  unfold fX4_tick
  have h_11 : ∀ (n : Nat) (σ : (Nat → Int32)) (v1 : Int32), g (fX4_tick_L11 n σ v1) 11 [(0, .ref b), (1, .int v1)] [] σ := by
    intro n
    induction n with
    | zero =>
      intro σ v1
      exact g_none C
    | succ n11 ih_11 =>
      have h_41 : ∀ (n : Nat) (σ : (Nat → Int32)) (v1 : Int32), g (fX4_tick_L41 n σ v1) 41 [(0, .ref b), (1, .int v1)] [] σ := by
        intro n
        induction n with
        | zero =>
          intro σ v1
          exact g_none C
        | succ n41 ih_41 =>
          have h_83 : ∀ (n : Nat) (σ : (Nat → Int32)) (v1 : Int32), g (fX4_tick_L83 n σ v1) 83 [(0, .ref b), (1, .int v1)] [] σ := by
            intro n
            induction n with
            | zero =>
              intro σ v1
              exact g_none C
            | succ n83 ih_83 =>
              intro σ v1
              unfold fX4_tick_L83
              refine g_iload_n C 1 dX4_tick_83 rfl rfl ?_
              refine g_iconst C (v := (3 : Int32)) dX4_tick_84 ic_3 ?_
              refine g_icmp_ge C 133 dX4_tick_85 (by decide) (fun _ => ?_) (fun _ => ?_)
              · exact g_ret C ⟨dX4_tick_133, rfl, rfl⟩
              · refine g_aload_n C 0 dX4_tick_88 rfl rfl ?_
                refine g_iload_n C 1 dX4_tick_89 rfl rfl ?_
                refine g_iconst C (v := (1 : Int32)) dX4_tick_90 ic_1 ?_
                refine g_callSi C (n := 2) (As := [.int v1, .int (1 : Int32)]) (rest := [.ref b]) (fun r h => mX4_gateAt l D K _ _ r h) gE.nil (τ := ()) gX4_tick_X4_gateAt rfl (by decide +kernel) ⟨Nat.le_of_ble_eq_true rfl, Nat.le_of_ble_eq_true rfl, rfl, rfl⟩ rfl rfl (Nat.le_of_ble_eq_true rfl) dX4_tick_91 (fun r1 _ => ?_)
                refine g_ialdG C 0 0 (RWg_0 K b 233 _) rfl dX4_tick_94 ?_
                refine g_if_le C 112 dX4_tick_95 (by decide) (fun _ => ?_) (fun _ => ?_)
                · refine g_aload_n C 0 dX4_tick_112 rfl rfl ?_
                  refine g_iload_n C 1 dX4_tick_113 rfl rfl ?_
                  refine g_iconst C (v := (2 : Int32)) dX4_tick_114 ic_2 ?_
                  refine g_callSi C (n := 2) (As := [.int v1, .int (2 : Int32)]) (rest := [.ref b]) (fun r h => mX4_gateAt l D K _ _ r h) gE.nil (τ := ()) gX4_tick_X4_gateAt rfl (by decide +kernel) ⟨Nat.le_of_ble_eq_true rfl, Nat.le_of_ble_eq_true rfl, rfl, rfl⟩ rfl rfl (Nat.le_of_ble_eq_true rfl) dX4_tick_115 (fun r2 _ => ?_)
                  refine g_ialdG C 0 0 (RWg_0 K b 233 _) rfl dX4_tick_118 ?_
                  refine g_if_le C 127 dX4_tick_119 (by decide) (fun _ => ?_) (fun _ => ?_)
                  · refine g_iinc C (w := (1 : Int32)) (lv' := [(1, .int (v1 + (1 : Int32))), (0, .ref b)]) 1 dX4_tick_127 rfl ic_1 (by decide) rfl ?_
                    refine g_goto C 83 dX4_tick_130 (by decide) ?_
                    refine g_sub C (lv' := [(0, .ref b), (1, .int (v1 + (1 : Int32)))]) [1, 0] rfl ?_
                    exact ih_83 σ (v1 + (1 : Int32))
                  · refine g_aload_n C 0 dX4_tick_122 rfl rfl ?_
                    refine g_iload_n C 1 dX4_tick_123 rfl rfl ?_
                    refine g_callSv C (n := 2) (As := [.ref b, .int v1]) (rest := []) (fun r h => mX4_cry l D K b _ _ r h) gE.same gX4_tick_X4_cry rfl (by decide +kernel) ⟨Nat.le_of_ble_eq_true rfl, Nat.le_of_ble_eq_true rfl, rfl, rfl⟩ rfl rfl (Nat.le_of_ble_eq_true rfl) dX4_tick_124 (fun r3 _ => ?_)
                    refine g_iinc C (w := (1 : Int32)) (lv' := [(1, .int (v1 + (1 : Int32))), (0, .ref b)]) 1 dX4_tick_127 rfl ic_1 (by decide) rfl ?_
                    refine g_goto C 83 dX4_tick_130 (by decide) ?_
                    refine g_sub C (lv' := [(0, .ref b), (1, .int (v1 + (1 : Int32)))]) [1, 0] rfl ?_
                    exact ih_83 r3 (v1 + (1 : Int32))
                · refine g_aload_n C 0 dX4_tick_98 rfl rfl ?_
                  refine g_iload_n C 1 dX4_tick_99 rfl rfl ?_
                  refine g_iconst C (v := (1 : Int32)) dX4_tick_100 ic_1 ?_
                  refine g_callSi C (n := 2) (As := [.int v1, .int (1 : Int32)]) (rest := [.ref b]) (fun r h => mX4_gateAt l D K _ _ r h) gE.nil (τ := ()) gX4_tick_X4_gateAt rfl (by decide +kernel) ⟨Nat.le_of_ble_eq_true rfl, Nat.le_of_ble_eq_true rfl, rfl, rfl⟩ rfl rfl (Nat.le_of_ble_eq_true rfl) dX4_tick_101 (fun r4 _ => ?_)
                  refine g_dup2 C dX4_tick_104 rfl rfl ?_
                  refine g_ialdG C 0 0 (RWg_0 K b 233 _) rfl dX4_tick_105 ?_
                  refine g_iconst C (v := (1 : Int32)) dX4_tick_106 ic_1 ?_
                  refine g_isub C dX4_tick_107 ?_
                  refine g_topi (fun t5 => ?_)
                  refine g_iastG C 0 0 (RWg_0 K b 233 _) rfl (RWs_0 K b 233 _ _) dX4_tick_108 ?_
                  refine g_state (fun u6 => ?_)
                  refine g_goto C 127 dX4_tick_109 (by decide) ?_
                  refine g_iinc C (w := (1 : Int32)) (lv' := [(1, .int (v1 + (1 : Int32))), (0, .ref b)]) 1 dX4_tick_127 rfl ic_1 (by decide) rfl ?_
                  refine g_goto C 83 dX4_tick_130 (by decide) ?_
                  refine g_sub C (lv' := [(0, .ref b), (1, .int (v1 + (1 : Int32)))]) [1, 0] rfl ?_
                  exact ih_83 u6 (v1 + (1 : Int32))
          have h_48 : ∀ (n : Nat) (σ : (Nat → Int32)) (v1 : Int32) (v2 : Int32), g (fX4_tick_L48 (fX4_tick_L41 n41) n σ v1 v2) 48 [(0, .ref b), (1, .int v1), (2, .int v2)] [] σ := by
            intro n
            induction n with
            | zero =>
              intro σ v1 v2
              exact g_none C
            | succ n48 ih_48 =>
              intro σ v1 v2
              unfold fX4_tick_L48
              refine g_iload_n C 2 dX4_tick_48 rfl rfl ?_
              refine g_bipush C (v := (20 : Int32)) dX4_tick_49 (by decide) ?_
              refine g_icmp_ge C 75 dX4_tick_51 (by decide) (fun _ => ?_) (fun _ => ?_)
              · refine g_iinc C (w := (1 : Int32)) (lv' := [(1, .int (v1 + (1 : Int32))), (0, .ref b), (2, .int v2)]) 1 dX4_tick_75 rfl ic_1 (by decide) rfl ?_
                refine g_goto C 41 dX4_tick_78 (by decide) ?_
                refine g_sub C (lv' := [(0, .ref b), (1, .int (v1 + (1 : Int32)))]) [1, 0] rfl ?_
                exact ih_41 σ (v1 + (1 : Int32))
              · refine g_aload_n C 0 dX4_tick_54 rfl rfl ?_
                refine g_iload_n C 1 dX4_tick_55 rfl rfl ?_
                refine g_iload_n C 2 dX4_tick_56 rfl rfl ?_
                refine g_callSi C (n := 3) (As := [.ref b, .int v1, .int v2]) (rest := []) (fun r h => mX4_readsBook l D K b _ _ _ r h) gE.same gX4_tick_X4_readsBook rfl (by decide +kernel) ⟨Nat.le_of_ble_eq_true rfl, Nat.le_of_ble_eq_true rfl, rfl, rfl⟩ rfl rfl (Nat.le_of_ble_eq_true rfl) dX4_tick_57 (fun r7 _ => ?_)
                refine g_if_eq C 69 dX4_tick_60 (by decide) (fun _ => ?_) (fun _ => ?_)
                · refine g_iinc C (w := (1 : Int32)) (lv' := [(2, .int (v2 + (1 : Int32))), (0, .ref b), (1, .int v1)]) 2 dX4_tick_69 rfl ic_1 (by decide) rfl ?_
                  refine g_goto C 48 dX4_tick_72 (by decide) ?_
                  refine g_sub C (lv' := [(0, .ref b), (1, .int v1), (2, .int (v2 + (1 : Int32)))]) [1, 2, 0] rfl ?_
                  exact ih_48 r7.2 v1 (v2 + (1 : Int32))
                · refine g_aload_n C 0 dX4_tick_63 rfl rfl ?_
                  refine g_iload_n C 1 dX4_tick_64 rfl rfl ?_
                  refine g_iload_n C 2 dX4_tick_65 rfl rfl ?_
                  refine g_callSv C (n := 3) (As := [.ref b, .int v1, .int v2]) (rest := []) (fun r h => mX4_readAt l D K b _ _ _ r h) gE.same gX4_tick_X4_readAt rfl (by decide +kernel) ⟨Nat.le_of_ble_eq_true rfl, Nat.le_of_ble_eq_true rfl, rfl, rfl⟩ rfl rfl (Nat.le_of_ble_eq_true rfl) dX4_tick_66 (fun r8 _ => ?_)
                  refine g_iinc C (w := (1 : Int32)) (lv' := [(2, .int (v2 + (1 : Int32))), (0, .ref b), (1, .int v1)]) 2 dX4_tick_69 rfl ic_1 (by decide) rfl ?_
                  refine g_goto C 48 dX4_tick_72 (by decide) ?_
                  refine g_sub C (lv' := [(0, .ref b), (1, .int v1), (2, .int (v2 + (1 : Int32)))]) [1, 2, 0] rfl ?_
                  exact ih_48 r8 v1 (v2 + (1 : Int32))
          intro σ v1
          unfold fX4_tick_L41
          refine g_iload_n C 1 dX4_tick_41 rfl rfl ?_
          refine g_iconst C (v := (3 : Int32)) dX4_tick_42 ic_3 ?_
          refine g_icmp_ge C 81 dX4_tick_43 (by decide) (fun _ => ?_) (fun _ => ?_)
          · refine g_iconst C (v := (0 : Int32)) dX4_tick_81 ic_0 ?_
            refine g_istore_n C (lv' := [(1, .int (0 : Int32)), (0, .ref b)]) dX4_tick_82 rfl (by decide) rfl ?_
            refine g_sub C (lv' := [(0, .ref b), (1, .int (0 : Int32))]) [1, 0] rfl ?_
            exact h_83 gFuel σ (0 : Int32)
          · refine g_iconst C (v := (0 : Int32)) dX4_tick_46 ic_0 ?_
            refine g_istore_n C (lv' := [(2, .int (0 : Int32)), (0, .ref b), (1, .int v1)]) dX4_tick_47 rfl (by decide) rfl ?_
            refine g_sub C (lv' := [(0, .ref b), (1, .int v1), (2, .int (0 : Int32))]) [1, 2, 0] rfl ?_
            exact h_48 gFuel σ v1 (0 : Int32)
      intro σ v1
      unfold fX4_tick_L11
      refine g_iload_n C 1 dX4_tick_11 rfl rfl ?_
      refine g_bipush C (v := (6 : Int32)) dX4_tick_12 (by decide) ?_
      refine g_icmp_ge C 39 dX4_tick_14 (by decide) (fun _ => ?_) (fun _ => ?_)
      · refine g_iconst C (v := (0 : Int32)) dX4_tick_39 ic_0 ?_
        refine g_istore_n C (lv' := [(1, .int (0 : Int32)), (0, .ref b)]) dX4_tick_40 rfl (by decide) rfl ?_
        refine g_sub C (lv' := [(0, .ref b), (1, .int (0 : Int32))]) [1, 0] rfl ?_
        exact h_41 gFuel σ (0 : Int32)
      · refine g_aload_n C 0 dX4_tick_17 rfl rfl ?_
        refine g_iload_n C 1 dX4_tick_18 rfl rfl ?_
        refine g_iconst C (v := (0 : Int32)) dX4_tick_19 ic_0 ?_
        refine g_callSi C (n := 2) (As := [.int v1, .int (0 : Int32)]) (rest := [.ref b]) (fun r h => mX4_visitorAt l D K _ _ r h) gE.nil (τ := ()) gX4_tick_X4_visitorAt rfl (by decide +kernel) ⟨Nat.le_of_ble_eq_true rfl, Nat.le_of_ble_eq_true rfl, rfl, rfl⟩ rfl rfl (Nat.le_of_ble_eq_true rfl) dX4_tick_20 (fun r9 _ => ?_)
        refine g_ialdG C 0 0 (RWg_0 K b 233 _) rfl dX4_tick_23 ?_
        refine g_iconst C (v := (1 : Int32)) dX4_tick_24 ic_1 ?_
        refine g_icmp_ne C 33 dX4_tick_25 (by decide) (fun _ => ?_) (fun _ => ?_)
        · refine g_aload_n C 0 dX4_tick_28 rfl rfl ?_
          refine g_iload_n C 1 dX4_tick_29 rfl rfl ?_
          refine g_callSv C (n := 2) (As := [.ref b, .int v1]) (rest := []) (fun r h => mX4_goOn l D K b _ _ r h) gE.same gX4_tick_X4_goOn rfl (by decide +kernel) ⟨Nat.le_of_ble_eq_true rfl, Nat.le_of_ble_eq_true rfl, rfl, rfl⟩ rfl rfl (Nat.le_of_ble_eq_true rfl) dX4_tick_30 (fun r10 _ => ?_)
          refine g_iinc C (w := (1 : Int32)) (lv' := [(1, .int (v1 + (1 : Int32))), (0, .ref b)]) 1 dX4_tick_33 rfl ic_1 (by decide) rfl ?_
          refine g_goto C 11 dX4_tick_36 (by decide) ?_
          refine g_sub C (lv' := [(0, .ref b), (1, .int (v1 + (1 : Int32)))]) [1, 0] rfl ?_
          exact ih_11 r10 (v1 + (1 : Int32))
        · refine g_iinc C (w := (1 : Int32)) (lv' := [(1, .int (v1 + (1 : Int32))), (0, .ref b)]) 1 dX4_tick_33 rfl ic_1 (by decide) rfl ?_
          refine g_goto C 11 dX4_tick_36 (by decide) ?_
          refine g_sub C (lv' := [(0, .ref b), (1, .int (v1 + (1 : Int32)))]) [1, 0] rfl ?_
          exact ih_11 σ (v1 + (1 : Int32))
  refine g_aload_n C 0 dX4_tick_0 rfl rfl ?_
  refine g_sipush C (v := (198 : Int32)) dX4_tick_1 (by decide) ?_
  refine g_dup2 C dX4_tick_4 rfl rfl ?_
  refine g_iald C 0 0 (RWg_0 K b 233 _) rfl (by decide) dX4_tick_5 ?_
  refine g_iconst C (v := (1 : Int32)) dX4_tick_6 ic_1 ?_
  refine g_iadd C dX4_tick_7 ?_
  refine g_topi (fun t11 => ?_)
  refine g_iast C 0 0 (RWg_0 K b 233 _) rfl (by decide) (RWs_0 K b 233 _ _) dX4_tick_8 ?_
  refine g_state (fun u12 => ?_)
  refine g_iconst C (v := (0 : Int32)) dX4_tick_9 ic_0 ?_
  refine g_istore_n C (lv' := [(1, .int (0 : Int32)), (0, .ref b)]) dX4_tick_10 rfl (by decide) rfl ?_
  refine g_sub C (lv' := [(0, .ref b), (1, .int (0 : Int32))]) [1, 0] rfl ?_
  exact h_11 gFuel u12 (0 : Int32)
set_option maxHeartbeats 4000000 in
set_option maxRecDepth 100000 in
theorem mX4_ticksIn (l : Launch) (D : va_G) (K : Nat → ClassId) (b : Nat) (σ : (Nat → Int32)) (p1 : Int32) (r : (Int32 × (Nat → Int32))) (hf : fX4_ticksIn σ p1 = some r) : gMi l yX4_ticksIn wsX4_ticksIn { frames := 5, cells := 0, slots := 0, locals := 115 } D (gT K) (RW K b 233) [.ref b, .int p1] σ r := by
  refine mk_i (nL := 4) (cc := cX4_ticksIn) (by decide) rfl (Nat.le_of_ble_eq_true rfl) rfl rfl hf (fun g C => ?_)
  refine g_sub C (lv' := [(0, .ref b), (1, .int p1)]) [0, 1] rfl ?_
  unfold fX4_ticksIn
  have h_8 : ∀ (n : Nat) (σ : (Nat → Int32)) (v1 : Int32) (v2 : Int32) (v3 : Int32), g (fX4_ticksIn_L8 n σ v1 v2 v3) 8 [(0, .ref b), (1, .int v1), (2, .int v2), (3, .int v3)] [] σ := by
    intro n
    induction n with
    | zero =>
      intro σ v1 v2 v3
      exact g_none C
    | succ n8 ih_8 =>
      intro σ v1 v2 v3
      unfold fX4_ticksIn_L8
      refine g_iload_n C 3 dX4_ticksIn_8 rfl rfl ?_
      refine g_iload_n C 1 dX4_ticksIn_9 rfl rfl ?_
      refine g_icmp_ge C 23 dX4_ticksIn_10 (by decide) (fun _ => ?_) (fun _ => ?_)
      · refine g_aload_n C 0 dX4_ticksIn_23 rfl rfl ?_
        refine g_sipush C (v := (199 : Int32)) dX4_ticksIn_24 (by decide) ?_
        refine g_iald C 0 0 (RWg_0 K b 233 _) rfl (by decide) dX4_ticksIn_27 ?_
        refine g_iload_n C 2 dX4_ticksIn_28 rfl rfl ?_
        refine g_isub C dX4_ticksIn_29 ?_
        exact g_ret C ⟨dX4_ticksIn_30, rfl, rfl⟩
      · refine g_aload_n C 0 dX4_ticksIn_13 rfl rfl ?_
        refine g_callSv C (n := 1) (As := [.ref b]) (rest := []) (fun r h => mX4_tick l D K b _ r h) gE.same gX4_ticksIn_X4_tick rfl (by decide +kernel) ⟨Nat.le_of_ble_eq_true rfl, Nat.le_of_ble_eq_true rfl, rfl, rfl⟩ rfl rfl (Nat.le_of_ble_eq_true rfl) dX4_ticksIn_14 (fun r1 _ => ?_)
        refine g_iinc C (w := (1 : Int32)) (lv' := [(3, .int (v3 + (1 : Int32))), (0, .ref b), (1, .int v1), (2, .int v2)]) 3 dX4_ticksIn_17 rfl ic_1 (by decide) rfl ?_
        refine g_goto C 8 dX4_ticksIn_20 (by decide) ?_
        refine g_sub C (lv' := [(0, .ref b), (1, .int v1), (2, .int v2), (3, .int (v3 + (1 : Int32)))]) [1, 2, 3, 0] rfl ?_
        exact ih_8 r1 v1 v2 (v3 + (1 : Int32))
  refine g_aload_n C 0 dX4_ticksIn_0 rfl rfl ?_
  refine g_sipush C (v := (199 : Int32)) dX4_ticksIn_1 (by decide) ?_
  refine g_iald C 0 0 (RWg_0 K b 233 _) rfl (by decide) dX4_ticksIn_4 ?_
  refine g_topi (fun t2 => ?_)
  refine g_istore_n C (lv' := [(2, .int t2), (0, .ref b), (1, .int p1)]) dX4_ticksIn_5 rfl (by decide) rfl ?_
  refine g_iconst C (v := (0 : Int32)) dX4_ticksIn_6 ic_0 ?_
  refine g_istore_n C (lv' := [(3, .int (0 : Int32)), (2, .int t2), (0, .ref b), (1, .int p1)]) dX4_ticksIn_7 rfl (by decide) rfl ?_
  refine g_sub C (lv' := [(0, .ref b), (1, .int p1), (2, .int t2), (3, .int (0 : Int32))]) [2, 3, 1, 0] rfl ?_
  exact h_8 gFuel σ p1 t2 (0 : Int32)
set_option maxHeartbeats 4000000 in
set_option maxRecDepth 100000 in
theorem mX4_canTake (l : Launch) (D : va_G) (K : Nat → ClassId) (b : Nat) (σ : (Nat → Int32)) (p1 : Int32) (p2 : Int32) (r : (Int32 × (Nat → Int32))) (hf : fX4_canTake σ p1 p2 = some r) : gMi l yX4_canTake wsX4_canTake { frames := 2, cells := 0, slots := 0, locals := 44 } D (gT K) (RW K b 233) [.ref b, .int p1, .int p2] σ r := by
  refine mk_z (nL := 3) (cc := cX4_canTake) (by decide) rfl (Nat.le_of_ble_eq_true rfl) rfl rfl hf (fun g C => ?_)
  refine g_sub C (lv' := [(0, .ref b), (1, .int p1), (2, .int p2)]) [0, 1, 2] rfl ?_
  unfold fX4_canTake
  refine g_aload_n C 0 dX4_canTake_0 rfl rfl ?_
  refine g_iload_n C 2 dX4_canTake_1 rfl rfl ?_
  refine g_iconst C (v := (0 : Int32)) dX4_canTake_2 ic_0 ?_
  refine g_callSi C (n := 2) (As := [.int p2, .int (0 : Int32)]) (rest := [.ref b]) (fun r h => mX4_bookAt l D K _ _ r h) gE.nil (τ := ()) gX4_canTake_X4_bookAt rfl (by decide +kernel) ⟨Nat.le_of_ble_eq_true rfl, Nat.le_of_ble_eq_true rfl, rfl, rfl⟩ rfl rfl (Nat.le_of_ble_eq_true rfl) dX4_canTake_3 (fun r1 _ => ?_)
  refine g_ialdG C 0 0 (RWg_0 K b 233 _) rfl dX4_canTake_6 ?_
  refine g_if_ne C 32 dX4_canTake_7 (by decide) (fun _ => ?_) (fun _ => ?_)
  · refine g_aload_n C 0 dX4_canTake_10 rfl rfl ?_
    refine g_iload_n C 1 dX4_canTake_11 rfl rfl ?_
    refine g_callSi C (n := 2) (As := [.ref b, .int p1]) (rest := []) (fun r h => mX4_isInside l D K b _ _ r h) gE.same gX4_canTake_X4_isInside rfl (by decide +kernel) ⟨Nat.le_of_ble_eq_true rfl, Nat.le_of_ble_eq_true rfl, rfl, rfl⟩ rfl rfl (Nat.le_of_ble_eq_true rfl) dX4_canTake_12 (fun r2 _ => ?_)
    refine g_if_eq C 32 dX4_canTake_15 (by decide) (fun _ => ?_) (fun _ => ?_)
    · refine g_iconst C (v := (0 : Int32)) dX4_canTake_32 ic_0 ?_
      exact g_ret C ⟨dX4_canTake_33, rfl, rfl, Or.inl rfl⟩
    · refine g_aload_n C 0 dX4_canTake_18 rfl rfl ?_
      refine g_iload_n C 1 dX4_canTake_19 rfl rfl ?_
      refine g_callSi C (n := 2) (As := [.ref b, .int p1]) (rest := []) (fun r h => mX4_bag l D K b _ _ r h) gE.same gX4_canTake_X4_bag rfl (by decide +kernel) ⟨Nat.le_of_ble_eq_true rfl, Nat.le_of_ble_eq_true rfl, rfl, rfl⟩ rfl rfl (Nat.le_of_ble_eq_true rfl) dX4_canTake_20 (fun r3 _ => ?_)
      refine g_bipush C (v := (6 : Int32)) dX4_canTake_23 (by decide) ?_
      refine g_icmp_ge C 32 dX4_canTake_25 (by decide) (fun _ => ?_) (fun _ => ?_)
      · refine g_iconst C (v := (0 : Int32)) dX4_canTake_32 ic_0 ?_
        exact g_ret C ⟨dX4_canTake_33, rfl, rfl, Or.inl rfl⟩
      · refine g_iconst C (v := (1 : Int32)) dX4_canTake_28 ic_1 ?_
        refine g_goto C 33 dX4_canTake_29 (by decide) ?_
        exact g_ret C ⟨dX4_canTake_33, rfl, rfl, Or.inr rfl⟩
  · refine g_iconst C (v := (0 : Int32)) dX4_canTake_32 ic_0 ?_
    exact g_ret C ⟨dX4_canTake_33, rfl, rfl, Or.inl rfl⟩
set_option maxHeartbeats 4000000 in
set_option maxRecDepth 100000 in
theorem mX4_canPutBack (l : Launch) (D : va_G) (K : Nat → ClassId) (b : Nat) (σ : (Nat → Int32)) (p1 : Int32) (r : (Int32 × (Nat → Int32))) (hf : fX4_canPutBack σ p1 = some r) : gMi l yX4_canPutBack wsX4_canPutBack { frames := 3, cells := 0, slots := 0, locals := 64 } D (gT K) (RW K b 233) [.ref b, .int p1] σ r := by
  refine mk_z (nL := 2) (cc := cX4_canPutBack) (by decide) rfl (Nat.le_of_ble_eq_true rfl) rfl rfl hf (fun g C => ?_)
  refine g_sub C (lv' := [(0, .ref b), (1, .int p1)]) [0, 1] rfl ?_
  unfold fX4_canPutBack
  refine g_aload_n C 0 dX4_canPutBack_0 rfl rfl ?_
  refine g_iload_n C 1 dX4_canPutBack_1 rfl rfl ?_
  refine g_iconst C (v := (0 : Int32)) dX4_canPutBack_2 ic_0 ?_
  refine g_callSi C (n := 2) (As := [.int p1, .int (0 : Int32)]) (rest := [.ref b]) (fun r h => mX4_bookAt l D K _ _ r h) gE.nil (τ := ()) gX4_canPutBack_X4_bookAt rfl (by decide +kernel) ⟨Nat.le_of_ble_eq_true rfl, Nat.le_of_ble_eq_true rfl, rfl, rfl⟩ rfl rfl (Nat.le_of_ble_eq_true rfl) dX4_canPutBack_3 (fun r1 _ => ?_)
  refine g_ialdG C 0 0 (RWg_0 K b 233 _) rfl dX4_canPutBack_6 ?_
  refine g_if_le C 22 dX4_canPutBack_7 (by decide) (fun _ => ?_) (fun _ => ?_)
  · refine g_iconst C (v := (0 : Int32)) dX4_canPutBack_22 ic_0 ?_
    exact g_ret C ⟨dX4_canPutBack_23, rfl, rfl, Or.inl rfl⟩
  · refine g_aload_n C 0 dX4_canPutBack_10 rfl rfl ?_
    refine g_iload_n C 1 dX4_canPutBack_11 rfl rfl ?_
    refine g_callSi C (n := 2) (As := [.ref b, .int p1]) (rest := []) (fun r h => mX4_isBookInside l D K b _ _ r h) gE.same gX4_canPutBack_X4_isBookInside rfl (by decide +kernel) ⟨Nat.le_of_ble_eq_true rfl, Nat.le_of_ble_eq_true rfl, rfl, rfl⟩ rfl rfl (Nat.le_of_ble_eq_true rfl) dX4_canPutBack_12 (fun r2 _ => ?_)
    refine g_if_eq C 22 dX4_canPutBack_15 (by decide) (fun _ => ?_) (fun _ => ?_)
    · refine g_iconst C (v := (0 : Int32)) dX4_canPutBack_22 ic_0 ?_
      exact g_ret C ⟨dX4_canPutBack_23, rfl, rfl, Or.inl rfl⟩
    · refine g_iconst C (v := (1 : Int32)) dX4_canPutBack_18 ic_1 ?_
      refine g_goto C 23 dX4_canPutBack_19 (by decide) ?_
      exact g_ret C ⟨dX4_canPutBack_23, rfl, rfl, Or.inr rfl⟩
set_option maxHeartbeats 4000000 in
set_option maxRecDepth 100000 in
theorem mX4_canBorrow (l : Launch) (D : va_G) (K : Nat → ClassId) (b : Nat) (σ : (Nat → Int32)) (p1 : Int32) (p2 : Int32) (r : (Int32 × (Nat → Int32))) (hf : fX4_canBorrow σ p1 p2 = some r) : gMi l yX4_canBorrow wsX4_canBorrow { frames := 3, cells := 0, slots := 0, locals := 64 } D (gT K) (RW K b 233) [.ref b, .int p1, .int p2] σ r := by
  refine mk_z (nL := 3) (cc := cX4_canBorrow) (by decide) rfl (Nat.le_of_ble_eq_true rfl) rfl rfl hf (fun g C => ?_)
  refine g_sub C (lv' := [(0, .ref b), (1, .int p1), (2, .int p2)]) [0, 1, 2] rfl ?_
  unfold fX4_canBorrow
  refine g_aload_n C 0 dX4_canBorrow_0 rfl rfl ?_
  refine g_iload_n C 1 dX4_canBorrow_1 rfl rfl ?_
  refine g_iconst C (v := (1 : Int32)) dX4_canBorrow_2 ic_1 ?_
  refine g_callSi C (n := 2) (As := [.int p1, .int (1 : Int32)]) (rest := [.ref b]) (fun r h => mX4_bookAt l D K _ _ r h) gE.nil (τ := ()) gX4_canBorrow_X4_bookAt rfl (by decide +kernel) ⟨Nat.le_of_ble_eq_true rfl, Nat.le_of_ble_eq_true rfl, rfl, rfl⟩ rfl rfl (Nat.le_of_ble_eq_true rfl) dX4_canBorrow_3 (fun r1 _ => ?_)
  refine g_ialdG C 0 0 (RWg_0 K b 233 _) rfl dX4_canBorrow_6 ?_
  refine g_iload_n C 2 dX4_canBorrow_7 rfl rfl ?_
  refine g_icmp_eq C 23 dX4_canBorrow_8 (by decide) (fun _ => ?_) (fun _ => ?_)
  · refine g_iconst C (v := (0 : Int32)) dX4_canBorrow_23 ic_0 ?_
    exact g_ret C ⟨dX4_canBorrow_24, rfl, rfl, Or.inl rfl⟩
  · refine g_aload_n C 0 dX4_canBorrow_11 rfl rfl ?_
    refine g_iload_n C 1 dX4_canBorrow_12 rfl rfl ?_
    refine g_callSi C (n := 2) (As := [.ref b, .int p1]) (rest := []) (fun r h => mX4_isBookInside l D K b _ _ r h) gE.same gX4_canBorrow_X4_isBookInside rfl (by decide +kernel) ⟨Nat.le_of_ble_eq_true rfl, Nat.le_of_ble_eq_true rfl, rfl, rfl⟩ rfl rfl (Nat.le_of_ble_eq_true rfl) dX4_canBorrow_13 (fun r2 _ => ?_)
    refine g_if_eq C 23 dX4_canBorrow_16 (by decide) (fun _ => ?_) (fun _ => ?_)
    · refine g_iconst C (v := (0 : Int32)) dX4_canBorrow_23 ic_0 ?_
      exact g_ret C ⟨dX4_canBorrow_24, rfl, rfl, Or.inl rfl⟩
    · refine g_iconst C (v := (1 : Int32)) dX4_canBorrow_19 ic_1 ?_
      refine g_goto C 24 dX4_canBorrow_20 (by decide) ?_
      exact g_ret C ⟨dX4_canBorrow_24, rfl, rfl, Or.inr rfl⟩
set_option maxHeartbeats 4000000 in
set_option maxRecDepth 100000 in
theorem mX4_borrowed (l : Launch) (D : va_G) (K : Nat → ClassId) (b : Nat) (σ : (Nat → Int32)) (r : (Int32 × (Nat → Int32))) (hf : fX4_borrowed σ  = some r) : gMi l yX4_borrowed wsX4_borrowed { frames := 1, cells := 0, slots := 0, locals := 21 } D (gT K) (RW K b 233) [.ref b] σ r := by
  refine mk_i (nL := 3) (cc := cX4_borrowed) (by decide) rfl (Nat.le_of_ble_eq_true rfl) rfl rfl hf (fun g C => ?_)
  refine g_sub C (lv' := [(0, .ref b)]) [0] rfl ?_
  unfold fX4_borrowed
  have h_4 : ∀ (n : Nat) (σ : (Nat → Int32)) (v1 : Int32) (v2 : Int32), g (fX4_borrowed_L4 n σ v1 v2) 4 [(0, .ref b), (1, .int v1), (2, .int v2)] [] σ := by
    intro n
    induction n with
    | zero =>
      intro σ v1 v2
      exact g_none C
    | succ n4 ih_4 =>
      intro σ v1 v2
      unfold fX4_borrowed_L4
      refine g_iload_n C 2 dX4_borrowed_4 rfl rfl ?_
      refine g_bipush C (v := (20 : Int32)) dX4_borrowed_5 (by decide) ?_
      refine g_icmp_ge C 26 dX4_borrowed_7 (by decide) (fun _ => ?_) (fun _ => ?_)
      · refine g_iload_n C 1 dX4_borrowed_26 rfl rfl ?_
        exact g_ret C ⟨dX4_borrowed_27, rfl, rfl⟩
      · refine g_iload_n C 1 dX4_borrowed_10 rfl rfl ?_
        refine g_aload_n C 0 dX4_borrowed_11 rfl rfl ?_
        refine g_iload_n C 2 dX4_borrowed_12 rfl rfl ?_
        refine g_iconst C (v := (1 : Int32)) dX4_borrowed_13 ic_1 ?_
        refine g_callSi C (n := 2) (As := [.int v2, .int (1 : Int32)]) (rest := [.ref b, .int v1]) (fun r h => mX4_bookAt l D K _ _ r h) gE.nil (τ := ()) gX4_borrowed_X4_bookAt rfl (by decide +kernel) ⟨Nat.le_of_ble_eq_true rfl, Nat.le_of_ble_eq_true rfl, rfl, rfl⟩ rfl rfl (Nat.le_of_ble_eq_true rfl) dX4_borrowed_14 (fun r1 _ => ?_)
        refine g_ialdG C 0 0 (RWg_0 K b 233 _) rfl dX4_borrowed_17 ?_
        refine g_iadd C dX4_borrowed_18 ?_
        refine g_topi (fun t2 => ?_)
        refine g_istore_n C (lv' := [(1, .int t2), (0, .ref b), (2, .int v2)]) dX4_borrowed_19 rfl (by decide) rfl ?_
        refine g_iinc C (w := (1 : Int32)) (lv' := [(2, .int (v2 + (1 : Int32))), (1, .int t2), (0, .ref b)]) 2 dX4_borrowed_20 rfl ic_1 (by decide) rfl ?_
        refine g_goto C 4 dX4_borrowed_23 (by decide) ?_
        refine g_sub C (lv' := [(0, .ref b), (1, .int t2), (2, .int (v2 + (1 : Int32)))]) [2, 1, 0] rfl ?_
        exact ih_4 σ t2 (v2 + (1 : Int32))
  refine g_iconst C (v := (0 : Int32)) dX4_borrowed_0 ic_0 ?_
  refine g_istore_n C (lv' := [(1, .int (0 : Int32)), (0, .ref b)]) dX4_borrowed_1 rfl (by decide) rfl ?_
  refine g_iconst C (v := (0 : Int32)) dX4_borrowed_2 ic_0 ?_
  refine g_istore_n C (lv' := [(2, .int (0 : Int32)), (1, .int (0 : Int32)), (0, .ref b)]) dX4_borrowed_3 rfl (by decide) rfl ?_
  refine g_sub C (lv' := [(0, .ref b), (1, .int (0 : Int32)), (2, .int (0 : Int32))]) [2, 1, 0] rfl ?_
  exact h_4 gFuel σ (0 : Int32) (0 : Int32)
set_option maxHeartbeats 4000000 in
set_option maxRecDepth 100000 in
theorem mX4_canWalk (l : Launch) (D : va_G) (K : Nat → ClassId) (b : Nat) (σ : (Nat → Int32)) (p1 : Int32) (p2 : Int32) (r : (Int32 × (Nat → Int32))) (hf : fX4_canWalk σ p1 p2 = some r) : gMi l yX4_canWalk wsX4_canWalk { frames := 1, cells := 0, slots := 0, locals := 21 } D (gT K) (RW K b 233) [.ref b, .int p1, .int p2] σ r := by
  refine mk_z (nL := 3) (cc := cX4_canWalk) (by decide) rfl (Nat.le_of_ble_eq_true rfl) rfl rfl hf (fun g C => ?_)
  refine g_sub C (lv' := [(0, .ref b), (1, .int p1), (2, .int p2)]) [0, 1, 2] rfl ?_
  unfold fX4_canWalk
  refine g_aload_n C 0 dX4_canWalk_0 rfl rfl ?_
  refine g_iload_n C 1 dX4_canWalk_1 rfl rfl ?_
  refine g_iconst C (v := (0 : Int32)) dX4_canWalk_2 ic_0 ?_
  refine g_callSi C (n := 2) (As := [.int p1, .int (0 : Int32)]) (rest := [.ref b]) (fun r h => mX4_visitorAt l D K _ _ r h) gE.nil (τ := ()) gX4_canWalk_X4_visitorAt rfl (by decide +kernel) ⟨Nat.le_of_ble_eq_true rfl, Nat.le_of_ble_eq_true rfl, rfl, rfl⟩ rfl rfl (Nat.le_of_ble_eq_true rfl) dX4_canWalk_3 (fun r1 _ => ?_)
  refine g_ialdG C 0 0 (RWg_0 K b 233 _) rfl dX4_canWalk_6 ?_
  refine g_iload_n C 2 dX4_canWalk_7 rfl rfl ?_
  refine g_if_eq C 15 dX4_canWalk_8 (by decide) (fun _ => ?_) (fun _ => ?_)
  · refine g_iconst C (v := (2 : Int32)) dX4_canWalk_15 ic_2 ?_
    refine g_icmp_ne C 23 dX4_canWalk_16 (by decide) (fun _ => ?_) (fun _ => ?_)
    · refine g_iconst C (v := (1 : Int32)) dX4_canWalk_19 ic_1 ?_
      refine g_goto C 24 dX4_canWalk_20 (by decide) ?_
      exact g_ret C ⟨dX4_canWalk_24, rfl, rfl, Or.inr rfl⟩
    · refine g_iconst C (v := (0 : Int32)) dX4_canWalk_23 ic_0 ?_
      exact g_ret C ⟨dX4_canWalk_24, rfl, rfl, Or.inl rfl⟩
  · refine g_iconst C (v := (0 : Int32)) dX4_canWalk_11 ic_0 ?_
    refine g_goto C 16 dX4_canWalk_12 (by decide) ?_
    refine g_icmp_ne C 23 dX4_canWalk_16 (by decide) (fun _ => ?_) (fun _ => ?_)
    · refine g_iconst C (v := (1 : Int32)) dX4_canWalk_19 ic_1 ?_
      refine g_goto C 24 dX4_canWalk_20 (by decide) ?_
      exact g_ret C ⟨dX4_canWalk_24, rfl, rfl, Or.inr rfl⟩
    · refine g_iconst C (v := (0 : Int32)) dX4_canWalk_23 ic_0 ?_
      exact g_ret C ⟨dX4_canWalk_24, rfl, rfl, Or.inl rfl⟩
set_option maxHeartbeats 4000000 in
set_option maxRecDepth 100000 in
theorem mX4_walkIn (l : Launch) (D : va_G) (K : Nat → ClassId) (b : Nat) (σ : (Nat → Int32)) (p1 : Int32) (p2 : Int32) (p3 : Int32) (r : (Int32 × (Nat → Int32))) (hf : fX4_walkIn σ p1 p2 p3 = some r) : gMi l yX4_walkIn wsX4_walkIn { frames := 1, cells := 0, slots := 0, locals := 21 } D (gT K) (RW K b 233) [.ref b, .int p1, .int p2, .int p3] σ r := by
  refine mk_i (nL := 6) (cc := cX4_walkIn) (by decide) rfl (Nat.le_of_ble_eq_true rfl) rfl rfl hf (fun g C => ?_)
  refine g_sub C (lv' := [(0, .ref b), (1, .int p1), (2, .int p2), (3, .int p3)]) [0, 1, 2, 3] rfl ?_
  unfold fX4_walkIn
  have h_32 : ∀ (σ : (Nat → Int32)) (v1 : Int32) (v2 : Int32) (v3 : Int32) (s1 : Int32) (s2 : Int32), g (fX4_walkIn_L32 σ v1 v2 v3 s1 s2) 32 [(0, .ref b), (1, .int v1), (2, .int v2), (3, .int v3)] [.int s2, .int s1, .ref b] σ := by
    have h_55 : ∀ (n : Nat) (σ : (Nat → Int32)) (v2 : Int32) (v4 : Int32) (v5 : Int32), g (fX4_walkIn_L55 n σ v2 v4 v5) 55 [(0, .ref b), (2, .int v2), (4, .int v4), (5, .int v5)] [] σ := by
      intro n
      induction n with
      | zero =>
        intro σ v2 v4 v5
        exact g_none C
      | succ n55 ih_55 =>
        intro σ v2 v4 v5
        unfold fX4_walkIn_L55
        refine g_iload C 3 dX4_walkIn_55 rfl ?_
        refine g_bipush C (v := (6 : Int32)) dX4_walkIn_57 (by decide) ?_
        refine g_icmp_ge C 102 dX4_walkIn_59 (by decide) (fun _ => ?_) (fun _ => ?_)
        · refine g_iload C 2 dX4_walkIn_102 rfl ?_
          exact g_ret C ⟨dX4_walkIn_104, rfl, rfl⟩
        · refine g_iload C 2 dX4_walkIn_62 rfl ?_
          refine g_aload_n C 0 dX4_walkIn_64 rfl rfl ?_
          refine g_iload C 3 dX4_walkIn_65 rfl ?_
          refine g_iconst C (v := (0 : Int32)) dX4_walkIn_67 ic_0 ?_
          refine g_callSi C (n := 2) (As := [.int v5, .int (0 : Int32)]) (rest := [.ref b, .int v4]) (fun r h => mX4_visitorAt l D K _ _ r h) gE.nil (τ := ()) gX4_walkIn_X4_visitorAt rfl (by decide +kernel) ⟨Nat.le_of_ble_eq_true rfl, Nat.le_of_ble_eq_true rfl, rfl, rfl⟩ rfl rfl (Nat.le_of_ble_eq_true rfl) dX4_walkIn_68 (fun r1 _ => ?_)
          refine g_ialdG C 0 0 (RWg_0 K b 233 _) rfl dX4_walkIn_71 ?_
          refine g_iconst C (v := (1 : Int32)) dX4_walkIn_72 ic_1 ?_
          refine g_icmp_ne C 92 dX4_walkIn_73 (by decide) (fun _ => ?_) (fun _ => ?_)
          · refine g_aload_n C 0 dX4_walkIn_76 rfl rfl ?_
            refine g_iload C 3 dX4_walkIn_77 rfl ?_
            refine g_iconst C (v := (1 : Int32)) dX4_walkIn_79 ic_1 ?_
            refine g_callSi C (n := 2) (As := [.int v5, .int (1 : Int32)]) (rest := [.ref b, .int v4]) (fun r h => mX4_visitorAt l D K _ _ r h) gE.nil (τ := ()) gX4_walkIn_X4_visitorAt rfl (by decide +kernel) ⟨Nat.le_of_ble_eq_true rfl, Nat.le_of_ble_eq_true rfl, rfl, rfl⟩ rfl rfl (Nat.le_of_ble_eq_true rfl) dX4_walkIn_80 (fun r2 _ => ?_)
            refine g_ialdG C 0 0 (RWg_0 K b 233 _) rfl dX4_walkIn_83 ?_
            refine g_iload_n C 1 dX4_walkIn_84 rfl rfl ?_
            refine g_icmp_ne C 92 dX4_walkIn_85 (by decide) (fun _ => ?_) (fun _ => ?_)
            · refine g_iconst C (v := (1 : Int32)) dX4_walkIn_88 ic_1 ?_
              refine g_goto C 93 dX4_walkIn_89 (by decide) ?_
              refine g_iadd C dX4_walkIn_93 ?_
              refine g_topi (fun t3 => ?_)
              refine g_istore C (lv' := [(4, .int t3), (0, .ref b), (2, .int v2), (5, .int v5)]) dX4_walkIn_94 (by decide) rfl ?_
              refine g_iinc C (w := (1 : Int32)) (lv' := [(5, .int (v5 + (1 : Int32))), (4, .int t3), (0, .ref b), (2, .int v2)]) 3 dX4_walkIn_96 rfl ic_1 (by decide) rfl ?_
              refine g_goto C 55 dX4_walkIn_99 (by decide) ?_
              refine g_sub C (lv' := [(0, .ref b), (2, .int v2), (4, .int t3), (5, .int (v5 + (1 : Int32)))]) [2, 3, 1, 0] rfl ?_
              exact ih_55 σ v2 t3 (v5 + (1 : Int32))
            · refine g_iconst C (v := (0 : Int32)) dX4_walkIn_92 ic_0 ?_
              refine g_iadd C dX4_walkIn_93 ?_
              refine g_topi (fun t4 => ?_)
              refine g_istore C (lv' := [(4, .int t4), (0, .ref b), (2, .int v2), (5, .int v5)]) dX4_walkIn_94 (by decide) rfl ?_
              refine g_iinc C (w := (1 : Int32)) (lv' := [(5, .int (v5 + (1 : Int32))), (4, .int t4), (0, .ref b), (2, .int v2)]) 3 dX4_walkIn_96 rfl ic_1 (by decide) rfl ?_
              refine g_goto C 55 dX4_walkIn_99 (by decide) ?_
              refine g_sub C (lv' := [(0, .ref b), (2, .int v2), (4, .int t4), (5, .int (v5 + (1 : Int32)))]) [2, 3, 1, 0] rfl ?_
              exact ih_55 σ v2 t4 (v5 + (1 : Int32))
          · refine g_iconst C (v := (0 : Int32)) dX4_walkIn_92 ic_0 ?_
            refine g_iadd C dX4_walkIn_93 ?_
            refine g_topi (fun t5 => ?_)
            refine g_istore C (lv' := [(4, .int t5), (0, .ref b), (2, .int v2), (5, .int v5)]) dX4_walkIn_94 (by decide) rfl ?_
            refine g_iinc C (w := (1 : Int32)) (lv' := [(5, .int (v5 + (1 : Int32))), (4, .int t5), (0, .ref b), (2, .int v2)]) 3 dX4_walkIn_96 rfl ic_1 (by decide) rfl ?_
            refine g_goto C 55 dX4_walkIn_99 (by decide) ?_
            refine g_sub C (lv' := [(0, .ref b), (2, .int v2), (4, .int t5), (5, .int (v5 + (1 : Int32)))]) [2, 3, 1, 0] rfl ?_
            exact ih_55 σ v2 t5 (v5 + (1 : Int32))
    intro σ v1 v2 v3 s1 s2
    unfold fX4_walkIn_L32
    refine g_iastG C 0 0 (RWg_0 K b 233 _) rfl (RWs_0 K b 233 _ _) dX4_walkIn_32 ?_
    refine g_state (fun u6 => ?_)
    refine g_aload_n C 0 dX4_walkIn_33 rfl rfl ?_
    refine g_iload_n C 1 dX4_walkIn_34 rfl rfl ?_
    refine g_iconst C (v := (3 : Int32)) dX4_walkIn_35 ic_3 ?_
    refine g_callSi C (n := 2) (As := [.int v1, .int (3 : Int32)]) (rest := [.ref b]) (fun r h => mX4_visitorAt l D K _ _ r h) gE.nil (τ := ()) gX4_walkIn_X4_visitorAt rfl (by decide +kernel) ⟨Nat.le_of_ble_eq_true rfl, Nat.le_of_ble_eq_true rfl, rfl, rfl⟩ rfl rfl (Nat.le_of_ble_eq_true rfl) dX4_walkIn_36 (fun r7 _ => ?_)
    refine g_iload_n C 3 dX4_walkIn_39 rfl rfl ?_
    refine g_if_eq C 47 dX4_walkIn_40 (by decide) (fun _ => ?_) (fun _ => ?_)
    · refine g_iconst C (v := (0 : Int32)) dX4_walkIn_47 ic_0 ?_
      refine g_iastG C 0 0 (RWg_0 K b 233 _) rfl (RWs_0 K b 233 _ _) dX4_walkIn_48 ?_
      refine g_state (fun u8 => ?_)
      refine g_iconst C (v := (0 : Int32)) dX4_walkIn_49 ic_0 ?_
      refine g_istore C (lv' := [(4, .int (0 : Int32)), (0, .ref b), (1, .int v1), (2, .int v2), (3, .int v3)]) dX4_walkIn_50 (by decide) rfl ?_
      refine g_iconst C (v := (0 : Int32)) dX4_walkIn_52 ic_0 ?_
      refine g_istore C (lv' := [(5, .int (0 : Int32)), (4, .int (0 : Int32)), (0, .ref b), (1, .int v1), (2, .int v2), (3, .int v3)]) dX4_walkIn_53 (by decide) rfl ?_
      refine g_sub C (lv' := [(0, .ref b), (2, .int v2), (4, .int (0 : Int32)), (5, .int (0 : Int32))]) [2, 4, 1, 0] rfl ?_
      exact h_55 gFuel u8 v2 (0 : Int32) (0 : Int32)
    · refine g_iconst C (v := (1 : Int32)) dX4_walkIn_43 ic_1 ?_
      refine g_goto C 48 dX4_walkIn_44 (by decide) ?_
      refine g_iastG C 0 0 (RWg_0 K b 233 _) rfl (RWs_0 K b 233 _ _) dX4_walkIn_48 ?_
      refine g_state (fun u9 => ?_)
      refine g_iconst C (v := (0 : Int32)) dX4_walkIn_49 ic_0 ?_
      refine g_istore C (lv' := [(4, .int (0 : Int32)), (0, .ref b), (1, .int v1), (2, .int v2), (3, .int v3)]) dX4_walkIn_50 (by decide) rfl ?_
      refine g_iconst C (v := (0 : Int32)) dX4_walkIn_52 ic_0 ?_
      refine g_istore C (lv' := [(5, .int (0 : Int32)), (4, .int (0 : Int32)), (0, .ref b), (1, .int v1), (2, .int v2), (3, .int v3)]) dX4_walkIn_53 (by decide) rfl ?_
      refine g_sub C (lv' := [(0, .ref b), (2, .int v2), (4, .int (0 : Int32)), (5, .int (0 : Int32))]) [2, 4, 1, 0] rfl ?_
      exact h_55 gFuel u9 v2 (0 : Int32) (0 : Int32)
  refine g_aload_n C 0 dX4_walkIn_0 rfl rfl ?_
  refine g_iload_n C 1 dX4_walkIn_1 rfl rfl ?_
  refine g_iconst C (v := (0 : Int32)) dX4_walkIn_2 ic_0 ?_
  refine g_callSi C (n := 2) (As := [.int p1, .int (0 : Int32)]) (rest := [.ref b]) (fun r h => mX4_visitorAt l D K _ _ r h) gE.nil (τ := ()) gX4_walkIn_X4_visitorAt rfl (by decide +kernel) ⟨Nat.le_of_ble_eq_true rfl, Nat.le_of_ble_eq_true rfl, rfl, rfl⟩ rfl rfl (Nat.le_of_ble_eq_true rfl) dX4_walkIn_3 (fun r10 _ => ?_)
  refine g_iconst C (v := (1 : Int32)) dX4_walkIn_6 ic_1 ?_
  refine g_iastG C 0 0 (RWg_0 K b 233 _) rfl (RWs_0 K b 233 _ _) dX4_walkIn_7 ?_
  refine g_state (fun u11 => ?_)
  refine g_aload_n C 0 dX4_walkIn_8 rfl rfl ?_
  refine g_iload_n C 1 dX4_walkIn_9 rfl rfl ?_
  refine g_iconst C (v := (1 : Int32)) dX4_walkIn_10 ic_1 ?_
  refine g_callSi C (n := 2) (As := [.int p1, .int (1 : Int32)]) (rest := [.ref b]) (fun r h => mX4_visitorAt l D K _ _ r h) gE.nil (τ := ()) gX4_walkIn_X4_visitorAt rfl (by decide +kernel) ⟨Nat.le_of_ble_eq_true rfl, Nat.le_of_ble_eq_true rfl, rfl, rfl⟩ rfl rfl (Nat.le_of_ble_eq_true rfl) dX4_walkIn_11 (fun r12 _ => ?_)
  refine g_iload_n C 2 dX4_walkIn_14 rfl rfl ?_
  refine g_iastG C 0 0 (RWg_0 K b 233 _) rfl (RWs_0 K b 233 _ _) dX4_walkIn_15 ?_
  refine g_state (fun u13 => ?_)
  refine g_aload_n C 0 dX4_walkIn_16 rfl rfl ?_
  refine g_iload_n C 1 dX4_walkIn_17 rfl rfl ?_
  refine g_iconst C (v := (2 : Int32)) dX4_walkIn_18 ic_2 ?_
  refine g_callSi C (n := 2) (As := [.int p1, .int (2 : Int32)]) (rest := [.ref b]) (fun r h => mX4_visitorAt l D K _ _ r h) gE.nil (τ := ()) gX4_walkIn_X4_visitorAt rfl (by decide +kernel) ⟨Nat.le_of_ble_eq_true rfl, Nat.le_of_ble_eq_true rfl, rfl, rfl⟩ rfl rfl (Nat.le_of_ble_eq_true rfl) dX4_walkIn_19 (fun r14 _ => ?_)
  refine g_iload_n C 3 dX4_walkIn_22 rfl rfl ?_
  refine g_if_eq C 31 dX4_walkIn_23 (by decide) (fun _ => ?_) (fun _ => ?_)
  · refine g_iconst C (v := (3 : Int32)) dX4_walkIn_31 ic_3 ?_
    exact h_32 u13 p1 p2 p3 r14.1 (3 : Int32)
  · refine g_bipush C (v := (-3 : Int32)) dX4_walkIn_26 (by decide) ?_
    refine g_goto C 32 dX4_walkIn_28 (by decide) ?_
    exact h_32 u13 p1 p2 p3 r14.1 (-3 : Int32)
set_option maxHeartbeats 4000000 in
set_option maxRecDepth 100000 in
theorem mX4_isAtGate (l : Launch) (D : va_G) (K : Nat → ClassId) (b : Nat) (σ : (Nat → Int32)) (p1 : Int32) (r : (Int32 × (Nat → Int32))) (hf : fX4_isAtGate σ p1 = some r) : gMi l yX4_isAtGate wsX4_isAtGate { frames := 1, cells := 0, slots := 0, locals := 21 } D (gT K) (RW K b 233) [.ref b, .int p1] σ r := by
  refine mk_z (nL := 2) (cc := cX4_isAtGate) (by decide) rfl (Nat.le_of_ble_eq_true rfl) rfl rfl hf (fun g C => ?_)
  refine g_sub C (lv' := [(0, .ref b), (1, .int p1)]) [0, 1] rfl ?_
  unfold fX4_isAtGate
  refine g_aload_n C 0 dX4_isAtGate_0 rfl rfl ?_
  refine g_iload_n C 1 dX4_isAtGate_1 rfl rfl ?_
  refine g_iconst C (v := (0 : Int32)) dX4_isAtGate_2 ic_0 ?_
  refine g_callSi C (n := 2) (As := [.int p1, .int (0 : Int32)]) (rest := [.ref b]) (fun r h => mX4_visitorAt l D K _ _ r h) gE.nil (τ := ()) gX4_isAtGate_X4_visitorAt rfl (by decide +kernel) ⟨Nat.le_of_ble_eq_true rfl, Nat.le_of_ble_eq_true rfl, rfl, rfl⟩ rfl rfl (Nat.le_of_ble_eq_true rfl) dX4_isAtGate_3 (fun r1 _ => ?_)
  refine g_ialdG C 0 0 (RWg_0 K b 233 _) rfl dX4_isAtGate_6 ?_
  refine g_iconst C (v := (1 : Int32)) dX4_isAtGate_7 ic_1 ?_
  refine g_icmp_ne C 15 dX4_isAtGate_8 (by decide) (fun _ => ?_) (fun _ => ?_)
  · refine g_iconst C (v := (1 : Int32)) dX4_isAtGate_11 ic_1 ?_
    refine g_goto C 16 dX4_isAtGate_12 (by decide) ?_
    exact g_ret C ⟨dX4_isAtGate_16, rfl, rfl, Or.inr rfl⟩
  · refine g_iconst C (v := (0 : Int32)) dX4_isAtGate_15 ic_0 ?_
    exact g_ret C ⟨dX4_isAtGate_16, rfl, rfl, Or.inl rfl⟩
set_option maxHeartbeats 4000000 in
set_option maxRecDepth 100000 in
theorem mX4_turnIn (l : Launch) (D : va_G) (K : Nat → ClassId) (b : Nat) (σ : (Nat → Int32)) (p1 : Int32) (r : (Int32 × (Nat → Int32))) (hf : fX4_turnIn σ p1 = some r) : gMi l yX4_turnIn wsX4_turnIn { frames := 1, cells := 0, slots := 0, locals := 21 } D (gT K) (RW K b 233) [.ref b, .int p1] σ r := by
  refine mk_i (nL := 2) (cc := cX4_turnIn) (by decide) rfl (Nat.le_of_ble_eq_true rfl) rfl rfl hf (fun g C => ?_)
  refine g_sub C (lv' := [(0, .ref b), (1, .int p1)]) [0, 1] rfl ?_
  unfold fX4_turnIn
  refine g_aload_n C 0 dX4_turnIn_0 rfl rfl ?_
  refine g_iload_n C 1 dX4_turnIn_1 rfl rfl ?_
  refine g_iconst C (v := (3 : Int32)) dX4_turnIn_2 ic_3 ?_
  refine g_callSi C (n := 2) (As := [.int p1, .int (3 : Int32)]) (rest := [.ref b]) (fun r h => mX4_visitorAt l D K _ _ r h) gE.nil (τ := ()) gX4_turnIn_X4_visitorAt rfl (by decide +kernel) ⟨Nat.le_of_ble_eq_true rfl, Nat.le_of_ble_eq_true rfl, rfl, rfl⟩ rfl rfl (Nat.le_of_ble_eq_true rfl) dX4_turnIn_3 (fun r1 _ => ?_)
  refine g_iconst C (v := (1 : Int32)) dX4_turnIn_6 ic_1 ?_
  refine g_aload_n C 0 dX4_turnIn_7 rfl rfl ?_
  refine g_iload_n C 1 dX4_turnIn_8 rfl rfl ?_
  refine g_iconst C (v := (3 : Int32)) dX4_turnIn_9 ic_3 ?_
  refine g_callSi C (n := 2) (As := [.int p1, .int (3 : Int32)]) (rest := [.ref b, .int (1 : Int32), .int r1.1, .ref b]) (fun r h => mX4_visitorAt l D K _ _ r h) gE.nil (τ := ()) gX4_turnIn_X4_visitorAt rfl (by decide +kernel) ⟨Nat.le_of_ble_eq_true rfl, Nat.le_of_ble_eq_true rfl, rfl, rfl⟩ rfl rfl (Nat.le_of_ble_eq_true rfl) dX4_turnIn_10 (fun r2 _ => ?_)
  refine g_ialdG C 0 0 (RWg_0 K b 233 _) rfl dX4_turnIn_13 ?_
  refine g_isub C dX4_turnIn_14 ?_
  refine g_topi (fun t3 => ?_)
  refine g_iastG C 0 0 (RWg_0 K b 233 _) rfl (RWs_0 K b 233 _ _) dX4_turnIn_15 ?_
  refine g_state (fun u4 => ?_)
  refine g_aload_n C 0 dX4_turnIn_16 rfl rfl ?_
  refine g_iload_n C 1 dX4_turnIn_17 rfl rfl ?_
  refine g_iconst C (v := (3 : Int32)) dX4_turnIn_18 ic_3 ?_
  refine g_callSi C (n := 2) (As := [.int p1, .int (3 : Int32)]) (rest := [.ref b]) (fun r h => mX4_visitorAt l D K _ _ r h) gE.nil (τ := ()) gX4_turnIn_X4_visitorAt rfl (by decide +kernel) ⟨Nat.le_of_ble_eq_true rfl, Nat.le_of_ble_eq_true rfl, rfl, rfl⟩ rfl rfl (Nat.le_of_ble_eq_true rfl) dX4_turnIn_19 (fun r5 _ => ?_)
  refine g_ialdG C 0 0 (RWg_0 K b 233 _) rfl dX4_turnIn_22 ?_
  exact g_ret C ⟨dX4_turnIn_23, rfl, rfl⟩
set_option maxHeartbeats 4000000 in
set_option maxRecDepth 100000 in
theorem mX4_append (l : Launch) (D : va_G) (K : Nat → ClassId) (a : Nat → Nat) (σ : gS) (p1 : Int32) (r : (Int32 × gS)) (hf : fX4_append σ p1 = some r) : gMi l yX4_append wsX4_append { frames := 1, cells := 0, slots := 0, locals := 25 } D (gT K) (MW K a) [.ref (a 0), .int p1] σ r := by
  refine mk_i (nL := 2) (cc := cX4_append) (by decide) rfl (Nat.le_of_ble_eq_true rfl) rfl rfl hf (fun g C => ?_)
  refine g_sub C (lv' := [(0, .ref (a 0)), (1, .int p1)]) [0, 1] rfl ?_
  unfold fX4_append
  have h_31 : ∀ (σ : gS) (v1 : Int32) (s1 : Int32), g (fX4_append_L31 σ v1 s1) 31 [(0, .ref (a 0)), (1, .int v1)] [.int s1, .ref (a 0)] σ := by
    intro σ v1 s1
    unfold fX4_append_L31
    refine g_callVi C (n := 1) (As := [.int s1]) (rest := []) (fun r h => mX4_refused l D K a _ _ r h) gE.same gX4_append_X4_refused rfl (by decide +kernel) ⟨Nat.le_of_ble_eq_true rfl, Nat.le_of_ble_eq_true rfl, rfl, rfl⟩ 0 (MWg_0 K a _) rfl rfl rfl (Nat.le_of_ble_eq_true rfl) dX4_append_31 (fun r1 _ => ?_)
    refine g_if_eq C 39 dX4_append_34 (by decide) (fun _ => ?_) (fun _ => ?_)
    · refine g_aload_n C 0 dX4_append_39 rfl rfl ?_
      refine g_get C (fun _ h => List.mem_cons_of_mem _ (List.mem_append_right _ h)) 0 (MWg_0 K a _) rfl 1 (by decide) (List.mem_of_getElem? (i := 3) rfl) rfl rfl dX4_append_40 ?_
      refine g_aload_n C 0 dX4_append_43 rfl rfl ?_
      refine g_get C (fun _ h => List.mem_cons_of_mem _ (List.mem_append_right _ h)) 0 (MWg_0 K a _) rfl 2 (by decide) (List.mem_of_getElem? (i := 2) rfl) rfl rfl dX4_append_44 ?_
      refine g_iload_n C 1 dX4_append_47 rfl rfl ?_
      refine g_iastG C 1 0 (MWg_1 K a _) rfl (MWs_1 K a _ _) dX4_append_48 ?_
      refine g_state (fun u2 => ?_)
      refine g_aload_n C 0 dX4_append_49 rfl rfl ?_
      refine g_dup C dX4_append_50 rfl ?_
      refine g_get C (fun _ h => List.mem_cons_of_mem _ (List.mem_append_right _ h)) 0 (MWg_0 K a _) rfl 2 (by decide) (List.mem_of_getElem? (i := 2) rfl) rfl rfl dX4_append_51 ?_
      refine g_iconst C (v := (1 : Int32)) dX4_append_54 ic_1 ?_
      refine g_iadd C dX4_append_55 ?_
      refine g_topi (fun t3 => ?_)
      refine g_put C (ty := .int) (fun _ h => List.mem_cons_of_mem _ (List.mem_append_right _ h)) tyX4 tyX4_ok nmX4 0 (MWg_0 K a _) rfl 2 (by decide) (List.mem_of_getElem? (i := 2) rfl) rfl rfl (by decide +kernel) rfl rfl (Nat.le_of_ble_eq_true rfl) (MWp_0_2 K a _ _) dX4_append_56 ?_
      refine g_state (fun u4 => ?_)
      refine g_aload_n C 0 dX4_append_59 rfl rfl ?_
      refine g_get C (fun _ h => List.mem_cons_of_mem _ (List.mem_append_right _ h)) 0 (MWg_0 K a _) rfl 2 (by decide) (List.mem_of_getElem? (i := 2) rfl) rfl rfl dX4_append_60 ?_
      exact g_ret C ⟨dX4_append_63, rfl, rfl⟩
    · refine g_iconst C (v := (0 : Int32)) dX4_append_37 ic_0 ?_
      exact g_ret C ⟨dX4_append_38, rfl, rfl⟩
  refine g_aload_n C 0 dX4_append_0 rfl rfl ?_
  refine g_iload_n C 1 dX4_append_1 rfl rfl ?_
  refine g_i2l C dX4_append_2 ?_
  refine g_lconst C (v := (0 : Int64)) dX4_append_3 (by decide) ?_
  refine g_ldc2 C (v := (255 : Int64)) (List.mem_of_getElem? (i := 1) rfl) dX4_append_4 ?_
  refine g_callSi C (n := 3) (As := [.long (p1).toInt64, .long (0 : Int64), .long (255 : Int64)]) (rest := [.ref (a 0)]) (fun r h => mX4_in l D K _ _ _ r h) gE.nil (τ := ()) gX4_append_X4_in rfl (by decide +kernel) ⟨Nat.le_of_ble_eq_true rfl, Nat.le_of_ble_eq_true rfl, rfl, rfl⟩ rfl rfl (Nat.le_of_ble_eq_true rfl) dX4_append_7 (fun r5 _ => ?_)
  refine g_if_ne C 17 dX4_append_10 (by decide) (fun _ => ?_) (fun _ => ?_)
  · refine g_iconst C (v := (1 : Int32)) dX4_append_13 ic_1 ?_
    refine g_goto C 31 dX4_append_14 (by decide) ?_
    exact h_31 σ p1 (1 : Int32)
  · refine g_aload_n C 0 dX4_append_17 rfl rfl ?_
    refine g_get C (fun _ h => List.mem_cons_of_mem _ (List.mem_append_right _ h)) 0 (MWg_0 K a _) rfl 2 (by decide) (List.mem_of_getElem? (i := 2) rfl) rfl rfl dX4_append_18 ?_
    refine g_bipush C (v := (120 : Int32)) dX4_append_21 (by decide) ?_
    refine g_icmp_ne C 30 dX4_append_23 (by decide) (fun _ => ?_) (fun _ => ?_)
    · refine g_iconst C (v := (2 : Int32)) dX4_append_26 ic_2 ?_
      refine g_goto C 31 dX4_append_27 (by decide) ?_
      exact h_31 σ p1 (2 : Int32)
    · refine g_iconst C (v := (0 : Int32)) dX4_append_30 ic_0 ?_
      exact h_31 σ p1 (0 : Int32)
set_option maxHeartbeats 4000000 in
set_option maxRecDepth 100000 in
theorem mX4_clearText (l : Launch) (D : va_G) (K : Nat → ClassId) (a : Nat → Nat) (σ : gS) (r : (Int32 × gS)) (hf : fX4_clearText σ  = some r) : gMi l yX4_clearText wsX4_clearText { frames := 0, cells := 0, slots := 0, locals := 0 } D (gT K) (MW K a) [.ref (a 0)] σ r := by
  refine mk_i (nL := 2) (cc := cX4_clearText) (by decide) rfl (Nat.le_of_ble_eq_true rfl) rfl rfl hf (fun g C => ?_)
  refine g_sub C (lv' := [(0, .ref (a 0))]) [0] rfl ?_
  unfold fX4_clearText
  refine g_aload_n C 0 dX4_clearText_0 rfl rfl ?_
  refine g_iconst C (v := (0 : Int32)) dX4_clearText_1 ic_0 ?_
  refine g_put C (ty := .int) (fun _ h => List.mem_cons_of_mem _ (List.mem_append_right _ h)) tyX4 tyX4_ok nmX4 0 (MWg_0 K a _) rfl 0 (by decide) (List.mem_of_getElem? (i := 1) rfl) rfl rfl (by decide +kernel) rfl rfl (Nat.le_of_ble_eq_true rfl) (MWp_0_0 K a _ _) dX4_clearText_2 ?_
  refine g_state (fun u1 => ?_)
  refine g_aload_n C 0 dX4_clearText_5 rfl rfl ?_
  refine g_get C (fun _ h => List.mem_cons_of_mem _ (List.mem_append_right _ h)) 0 (MWg_0 K a _) rfl 2 (by decide) (List.mem_of_getElem? (i := 2) rfl) rfl rfl dX4_clearText_6 ?_
  refine g_topi (fun t2 => ?_)
  refine g_istore_n C (lv' := [(1, .int t2), (0, .ref (a 0))]) dX4_clearText_9 rfl (by decide) rfl ?_
  refine g_aload_n C 1 dX4_clearText_10 rfl rfl ?_
  refine g_iconst C (v := (0 : Int32)) dX4_clearText_11 ic_0 ?_
  refine g_put C (ty := .int) (fun _ h => List.mem_cons_of_mem _ (List.mem_append_right _ h)) tyX4 tyX4_ok nmX4 0 (MWg_0 K a _) rfl 2 (by decide) (List.mem_of_getElem? (i := 2) rfl) rfl rfl (by decide +kernel) rfl rfl (Nat.le_of_ble_eq_true rfl) (MWp_0_2 K a _ _) dX4_clearText_12 ?_
  refine g_state (fun u3 => ?_)
  refine g_iload_n C 0 dX4_clearText_15 rfl rfl ?_
  exact g_ret C ⟨dX4_clearText_16, rfl, rfl⟩
set_option maxHeartbeats 4000000 in
set_option maxRecDepth 100000 in
theorem mX4_accept (l : Launch) (D : va_G) (K : Nat → ClassId) (a : Nat → Nat) (σ : gS) (p1 : Int32) (r : gS) (hf : fX4_accept σ p1 = some r) : gMv l yX4_accept wsX4_accept { frames := 0, cells := 0, slots := 0, locals := 0 } D (gT K) (MW K a) [.ref (a 0), .int p1] σ r := by
  refine mk_v (nL := 2) (cc := cX4_accept) (by decide) rfl (Nat.le_of_ble_eq_true rfl) rfl rfl hf (fun g C => ?_)
  refine g_sub C (lv' := [(0, .ref (a 0)), (1, .int p1)]) [0, 1] rfl ?_
  unfold fX4_accept
  have h_17 : ∀ (σ : gS) (s1 : Int32), g (fX4_accept_L17 σ s1) 17 [(0, .ref (a 0))] [.int s1, .ref (a 0)] σ := by
    intro σ s1
    unfold fX4_accept_L17
    refine g_bool C (fun b1 => ?_)
    refine g_put C (ty := .boolean) (fun _ h => List.mem_cons_of_mem _ (List.mem_append_right _ h)) tyX4 tyX4_ok nmX4 0 (MWg_0 K a _) rfl 4 (by decide) (List.mem_of_getElem? (i := 1) rfl) rfl rfl (by decide +kernel) (bool_nar b1) (bool_fit b1) (Nat.le_of_ble_eq_true rfl) (MWp_0_4 K a _ _) dX4_accept_17 ?_
    refine g_state (fun u2 => ?_)
    refine g_aload_n C 0 dX4_accept_20 rfl rfl ?_
    refine g_dup C dX4_accept_21 rfl ?_
    refine g_get C (fun _ h => List.mem_cons_of_mem _ (List.mem_append_right _ h)) 0 (MWg_0 K a _) rfl 3 (by decide) (List.mem_of_getElem? (i := 2) rfl) rfl rfl dX4_accept_22 ?_
    refine g_aload_n C 0 dX4_accept_25 rfl rfl ?_
    refine g_get C (fun _ h => List.mem_cons_of_mem _ (List.mem_append_right _ h)) 0 (MWg_0 K a _) rfl 4 (by decide) (List.mem_of_getElem? (i := 1) rfl) rfl rfl dX4_accept_26 ?_
    refine g_if_eq C 36 dX4_accept_29 (by decide) (fun _ => ?_) (fun _ => ?_)
    · refine g_iconst C (v := (0 : Int32)) dX4_accept_36 ic_0 ?_
      refine g_iadd C dX4_accept_37 ?_
      refine g_topi (fun t3 => ?_)
      refine g_put C (ty := .int) (fun _ h => List.mem_cons_of_mem _ (List.mem_append_right _ h)) tyX4 tyX4_ok nmX4 0 (MWg_0 K a _) rfl 3 (by decide) (List.mem_of_getElem? (i := 2) rfl) rfl rfl (by decide +kernel) rfl rfl (Nat.le_of_ble_eq_true rfl) (MWp_0_3 K a _ _) dX4_accept_38 ?_
      refine g_state (fun u4 => ?_)
      exact g_ret C ⟨dX4_accept_41, rfl, rfl⟩
    · refine g_iconst C (v := (1 : Int32)) dX4_accept_32 ic_1 ?_
      refine g_goto C 37 dX4_accept_33 (by decide) ?_
      refine g_iadd C dX4_accept_37 ?_
      refine g_topi (fun t5 => ?_)
      refine g_put C (ty := .int) (fun _ h => List.mem_cons_of_mem _ (List.mem_append_right _ h)) tyX4 tyX4_ok nmX4 0 (MWg_0 K a _) rfl 3 (by decide) (List.mem_of_getElem? (i := 2) rfl) rfl rfl (by decide +kernel) rfl rfl (Nat.le_of_ble_eq_true rfl) (MWp_0_3 K a _ _) dX4_accept_38 ?_
      refine g_state (fun u6 => ?_)
      exact g_ret C ⟨dX4_accept_41, rfl, rfl⟩
  refine g_aload_n C 0 dX4_accept_0 rfl rfl ?_
  refine g_aload_n C 0 dX4_accept_1 rfl rfl ?_
  refine g_get C (fun _ h => List.mem_cons_of_mem _ (List.mem_append_right _ h)) 0 (MWg_0 K a _) rfl 4 (by decide) (List.mem_of_getElem? (i := 1) rfl) rfl rfl dX4_accept_2 ?_
  refine g_if_eq C 16 dX4_accept_5 (by decide) (fun _ => ?_) (fun _ => ?_)
  · refine g_iconst C (v := (0 : Int32)) dX4_accept_16 ic_0 ?_
    refine g_sub C (lv' := [(0, .ref (a 0))]) [0] rfl ?_
    exact h_17 σ (0 : Int32)
  · refine g_iload_n C 1 dX4_accept_8 rfl rfl ?_
    refine g_if_eq C 16 dX4_accept_9 (by decide) (fun _ => ?_) (fun _ => ?_)
    · refine g_iconst C (v := (0 : Int32)) dX4_accept_16 ic_0 ?_
      refine g_sub C (lv' := [(0, .ref (a 0))]) [0] rfl ?_
      exact h_17 σ (0 : Int32)
    · refine g_iconst C (v := (1 : Int32)) dX4_accept_12 ic_1 ?_
      refine g_goto C 17 dX4_accept_13 (by decide) ?_
      refine g_sub C (lv' := [(0, .ref (a 0))]) [0] rfl ?_
      exact h_17 σ (1 : Int32)
set_option maxHeartbeats 4000000 in
set_option maxRecDepth 100000 in
theorem mX4_digit (l : Launch) (D : va_G) (K : Nat → ClassId) (a : Nat → Nat) (σ : gS) (p1 : Int32) (p2 : Int32) (r : (Int32 × gS)) (hf : fX4_digit σ p1 p2 = some r) : gMi l yX4_digit wsX4_digit { frames := 1, cells := 0, slots := 0, locals := 25 } D (gT K) (MW K a) [.ref (a 0), .int p1, .int p2] σ r := by
  refine mk_i (nL := 4) (cc := cX4_digit) (by decide) rfl (Nat.le_of_ble_eq_true rfl) rfl rfl hf (fun g C => ?_)
  refine g_sub C (lv' := [(0, .ref (a 0)), (1, .int p1), (2, .int p2)]) [0, 1, 2] rfl ?_
  unfold fX4_digit
  have h_28 : ∀ (σ : gS) (v1 : Int32) (v2 : Int32) (s0 : Int32), g (fX4_digit_L28 σ v1 v2 s0) 28 [(0, .ref (a 0)), (1, .int v1), (2, .int v2)] [.int s0] σ := by
    have h_59 : ∀ (σ : gS) (v1 : Int32) (v3 : Int32) (s1 : Int32), g (fX4_digit_L59 σ v1 v3 s1) 59 [(0, .ref (a 0)), (1, .int v1), (3, .int v3)] [.int s1, .ref (a 0)] σ := by
      intro σ v1 v3 s1
      unfold fX4_digit_L59
      refine g_callVv C (n := 1) (As := [.int s1]) (rest := []) (fun r h => mX4_accept l D K a _ _ r h) gE.same gX4_digit_X4_accept rfl (by decide +kernel) ⟨Nat.le_of_ble_eq_true rfl, Nat.le_of_ble_eq_true rfl, rfl, rfl⟩ 0 (MWg_0 K a _) rfl rfl rfl (Nat.le_of_ble_eq_true rfl) dX4_digit_59 (fun r1 _ => ?_)
      refine g_aload_n C 0 dX4_digit_62 rfl rfl ?_
      refine g_get C (fun _ h => List.mem_cons_of_mem _ (List.mem_append_right _ h)) 0 (MWg_0 K a _) rfl 4 (by decide) (List.mem_of_getElem? (i := 5) rfl) rfl rfl dX4_digit_63 ?_
      refine g_if_eq C 73 dX4_digit_66 (by decide) (fun _ => ?_) (fun _ => ?_)
      · refine g_iload_n C 1 dX4_digit_73 rfl rfl ?_
        exact g_ret C ⟨dX4_digit_74, rfl, rfl⟩
      · refine g_iload_n C 2 dX4_digit_69 rfl rfl ?_
        refine g_goto C 74 dX4_digit_70 (by decide) ?_
        exact g_ret C ⟨dX4_digit_74, rfl, rfl⟩
    intro σ v1 v2 s0
    unfold fX4_digit_L28
    refine g_istore_n C (lv' := [(3, .int s0), (0, .ref (a 0)), (1, .int v1), (2, .int v2)]) dX4_digit_28 rfl (by decide) rfl ?_
    refine g_aload_n C 1 dX4_digit_29 rfl rfl ?_
    refine g_iload_n C 0 dX4_digit_30 rfl rfl ?_
    refine g_i2l C dX4_digit_31 ?_
    refine g_lconst C (v := (0 : Int64)) dX4_digit_32 (by decide) ?_
    refine g_ldc2 C (v := (9 : Int64)) (List.mem_of_getElem? (i := 4) rfl) dX4_digit_33 ?_
    refine g_callSi C (n := 3) (As := [.long (s0).toInt64, .long (0 : Int64), .long (9 : Int64)]) (rest := [.ref (a 0)]) (fun r h => mX4_in l D K _ _ _ r h) gE.nil (τ := ()) gX4_digit_X4_in rfl (by decide +kernel) ⟨Nat.le_of_ble_eq_true rfl, Nat.le_of_ble_eq_true rfl, rfl, rfl⟩ rfl rfl (Nat.le_of_ble_eq_true rfl) dX4_digit_36 (fun r2 _ => ?_)
    refine g_if_eq C 58 dX4_digit_39 (by decide) (fun _ => ?_) (fun _ => ?_)
    · refine g_iconst C (v := (0 : Int32)) dX4_digit_58 ic_0 ?_
      refine g_sub C (lv' := [(0, .ref (a 0)), (1, .int v1), (3, .int s0)]) [1, 2, 0] rfl ?_
      exact h_59 σ v1 s0 (0 : Int32)
    · refine g_iload_n C 0 dX4_digit_42 rfl rfl ?_
      refine g_i2l C dX4_digit_43 ?_
      refine g_iload_n C 2 dX4_digit_44 rfl rfl ?_
      refine g_i2l C dX4_digit_45 ?_
      refine g_iload_n C 3 dX4_digit_46 rfl rfl ?_
      refine g_i2l C dX4_digit_47 ?_
      refine g_callSi C (n := 3) (As := [.long (s0).toInt64, .long (v1).toInt64, .long (v2).toInt64]) (rest := [.ref (a 0)]) (fun r h => mX4_in l D K _ _ _ r h) gE.nil (τ := ()) gX4_digit_X4_in rfl (by decide +kernel) ⟨Nat.le_of_ble_eq_true rfl, Nat.le_of_ble_eq_true rfl, rfl, rfl⟩ rfl rfl (Nat.le_of_ble_eq_true rfl) dX4_digit_48 (fun r3 _ => ?_)
      refine g_if_eq C 58 dX4_digit_51 (by decide) (fun _ => ?_) (fun _ => ?_)
      · refine g_iconst C (v := (0 : Int32)) dX4_digit_58 ic_0 ?_
        refine g_sub C (lv' := [(0, .ref (a 0)), (1, .int v1), (3, .int s0)]) [1, 2, 0] rfl ?_
        exact h_59 σ v1 s0 (0 : Int32)
      · refine g_iconst C (v := (1 : Int32)) dX4_digit_54 ic_1 ?_
        refine g_goto C 59 dX4_digit_55 (by decide) ?_
        refine g_sub C (lv' := [(0, .ref (a 0)), (1, .int v1), (3, .int s0)]) [1, 2, 0] rfl ?_
        exact h_59 σ v1 s0 (1 : Int32)
  refine g_aload_n C 0 dX4_digit_0 rfl rfl ?_
  refine g_get C (fun _ h => List.mem_cons_of_mem _ (List.mem_append_right _ h)) 0 (MWg_0 K a _) rfl 3 (by decide) (List.mem_of_getElem? (i := 1) rfl) rfl rfl dX4_digit_1 ?_
  refine g_aload_n C 0 dX4_digit_4 rfl rfl ?_
  refine g_get C (fun _ h => List.mem_cons_of_mem _ (List.mem_append_right _ h)) 0 (MWg_0 K a _) rfl 2 (by decide) (List.mem_of_getElem? (i := 2) rfl) rfl rfl dX4_digit_5 ?_
  refine g_icmp_ge C 26 dX4_digit_8 (by decide) (fun _ => ?_) (fun _ => ?_)
  · refine g_bipush C (v := (-9 : Int32)) dX4_digit_26 (by decide) ?_
    exact h_28 σ p1 p2 (-9 : Int32)
  · refine g_aload_n C 0 dX4_digit_11 rfl rfl ?_
    refine g_get C (fun _ h => List.mem_cons_of_mem _ (List.mem_append_right _ h)) 0 (MWg_0 K a _) rfl 1 (by decide) (List.mem_of_getElem? (i := 3) rfl) rfl rfl dX4_digit_12 ?_
    refine g_aload_n C 0 dX4_digit_15 rfl rfl ?_
    refine g_get C (fun _ h => List.mem_cons_of_mem _ (List.mem_append_right _ h)) 0 (MWg_0 K a _) rfl 3 (by decide) (List.mem_of_getElem? (i := 1) rfl) rfl rfl dX4_digit_16 ?_
    refine g_ialdG C 1 0 (MWg_1 K a _) rfl dX4_digit_19 ?_
    refine g_bipush C (v := (48 : Int32)) dX4_digit_20 (by decide) ?_
    refine g_isub C dX4_digit_22 ?_
    refine g_goto C 28 dX4_digit_23 (by decide) ?_
    exact h_28 σ p1 p2 ((σ 1 (σ 0 3).toNatClampNeg) - (48 : Int32))
set_option maxHeartbeats 4000000 in
set_option maxRecDepth 100000 in
theorem mX4_two (l : Launch) (D : va_G) (K : Nat → ClassId) (a : Nat → Nat) (σ : gS) (p1 : Int32) (r : (Int32 × gS)) (hf : fX4_two σ p1 = some r) : gMi l yX4_two wsX4_two { frames := 2, cells := 0, slots := 0, locals := 48 } D (gT K) (MW K a) [.ref (a 0), .int p1] σ r := by
  refine mk_i (nL := 4) (cc := cX4_two) (by decide) rfl (Nat.le_of_ble_eq_true rfl) rfl rfl hf (fun g C => ?_)
  refine g_sub C (lv' := [(0, .ref (a 0)), (1, .int p1)]) [0, 1] rfl ?_
  unfold fX4_two
  refine g_aload_n C 0 dX4_two_0 rfl rfl ?_
  refine g_iconst C (v := (0 : Int32)) dX4_two_1 ic_0 ?_
  refine g_iload_n C 1 dX4_two_2 rfl rfl ?_
  refine g_bipush C (v := (10 : Int32)) dX4_two_3 (by decide) ?_
  refine g_idiv C dX4_two_5 (by decide) ?_
  refine g_callVi C (n := 2) (As := [.int (0 : Int32), .int (p1 / (10 : Int32))]) (rest := []) (fun r h => mX4_digit l D K a _ _ _ r h) gE.same gX4_two_X4_digit rfl (by decide +kernel) ⟨Nat.le_of_ble_eq_true rfl, Nat.le_of_ble_eq_true rfl, rfl, rfl⟩ 0 (MWg_0 K a _) rfl rfl rfl (Nat.le_of_ble_eq_true rfl) dX4_two_6 (fun r1 _ => ?_)
  refine g_istore_n C (lv' := [(2, .int r1.1), (0, .ref (a 0)), (1, .int p1)]) dX4_two_9 rfl (by decide) rfl ?_
  refine g_iload_n C 2 dX4_two_10 rfl rfl ?_
  refine g_bipush C (v := (10 : Int32)) dX4_two_11 (by decide) ?_
  refine g_iload_n C 0 dX4_two_13 rfl rfl ?_
  refine g_imul C dX4_two_14 ?_
  refine g_isub C dX4_two_15 ?_
  refine g_topi (fun t2 => ?_)
  refine g_istore_n C (lv' := [(3, .int t2), (2, .int r1.1), (0, .ref (a 0)), (1, .int p1)]) dX4_two_16 rfl (by decide) rfl ?_
  refine g_bipush C (v := (10 : Int32)) dX4_two_17 (by decide) ?_
  refine g_iload_n C 1 dX4_two_19 rfl rfl ?_
  refine g_imul C dX4_two_20 ?_
  refine g_aload_n C 2 dX4_two_21 rfl rfl ?_
  refine g_iconst C (v := (0 : Int32)) dX4_two_22 ic_0 ?_
  refine g_iload_n C 0 dX4_two_23 rfl rfl ?_
  refine g_bipush C (v := (9 : Int32)) dX4_two_24 (by decide) ?_
  refine g_icmp_le C 34 dX4_two_26 (by decide) (fun _ => ?_) (fun _ => ?_)
  · refine g_iload_n C 0 dX4_two_34 rfl rfl ?_
    refine g_callVi C (n := 2) (As := [.int (0 : Int32), .int t2]) (rest := [.int ((10 : Int32) * r1.1)]) (fun r h => mX4_digit l D K a _ _ _ r h) gE.same gX4_two_X4_digit rfl (by decide +kernel) ⟨Nat.le_of_ble_eq_true rfl, Nat.le_of_ble_eq_true rfl, rfl, rfl⟩ 0 (MWg_0 K a _) rfl rfl rfl (Nat.le_of_ble_eq_true rfl) dX4_two_35 (fun r3 _ => ?_)
    refine g_iadd C dX4_two_38 ?_
    exact g_ret C ⟨dX4_two_39, rfl, rfl⟩
  · refine g_bipush C (v := (9 : Int32)) dX4_two_29 (by decide) ?_
    refine g_goto C 35 dX4_two_31 (by decide) ?_
    refine g_callVi C (n := 2) (As := [.int (0 : Int32), .int (9 : Int32)]) (rest := [.int ((10 : Int32) * r1.1)]) (fun r h => mX4_digit l D K a _ _ _ r h) gE.same gX4_two_X4_digit rfl (by decide +kernel) ⟨Nat.le_of_ble_eq_true rfl, Nat.le_of_ble_eq_true rfl, rfl, rfl⟩ 0 (MWg_0 K a _) rfl rfl rfl (Nat.le_of_ble_eq_true rfl) dX4_two_35 (fun r4 _ => ?_)
    refine g_iadd C dX4_two_38 ?_
    exact g_ret C ⟨dX4_two_39, rfl, rfl⟩
set_option maxHeartbeats 4000000 in
set_option maxRecDepth 100000 in
theorem mX4_goes (l : Launch) (D : va_G) (K : Nat → ClassId) (a : Nat → Nat) (σ : gS) (p1 : Int32) (r : (Int32 × gS)) (hf : fX4_goes σ p1 = some r) : gMi l yX4_goes wsX4_goes { frames := 0, cells := 0, slots := 0, locals := 0 } D (gT K) (MW K a) [.ref (a 0), .int p1] σ r := by
  refine mk_z (nL := 2) (cc := cX4_goes) (by decide) rfl (Nat.le_of_ble_eq_true rfl) rfl rfl hf (fun g C => ?_)
  refine g_sub C (lv' := [(0, .ref (a 0)), (1, .int p1)]) [0, 1] rfl ?_
  unfold fX4_goes
  have h_21 : ∀ (σ : gS) (v1 : Int32) (s1 : Int32) (s2 : Int32), g (fX4_goes_L21 σ v1 s1 s2) 21 [(0, .ref (a 0)), (1, .int v1)] [.int s2, .int s1, .ref (a 0)] σ := by
    intro σ v1 s1 s2
    unfold fX4_goes_L21
    refine g_iadd C dX4_goes_21 ?_
    refine g_topi (fun t1 => ?_)
    refine g_put C (ty := .int) (fun _ h => List.mem_cons_of_mem _ (List.mem_append_right _ h)) tyX4 tyX4_ok nmX4 0 (MWg_0 K a _) rfl 5 (by decide) (List.mem_of_getElem? (i := 1) rfl) rfl rfl (by decide +kernel) rfl rfl (Nat.le_of_ble_eq_true rfl) (MWp_0_5 K a _ _) dX4_goes_22 ?_
    refine g_state (fun u2 => ?_)
    refine g_aload_n C 0 dX4_goes_25 rfl rfl ?_
    refine g_get C (fun _ h => List.mem_cons_of_mem _ (List.mem_append_right _ h)) 0 (MWg_0 K a _) rfl 4 (by decide) (List.mem_of_getElem? (i := 2) rfl) rfl rfl dX4_goes_26 ?_
    refine g_if_eq C 40 dX4_goes_29 (by decide) (fun _ => ?_) (fun _ => ?_)
    · refine g_iconst C (v := (0 : Int32)) dX4_goes_40 ic_0 ?_
      exact g_ret C ⟨dX4_goes_41, rfl, rfl, Or.inl rfl⟩
    · refine g_iload_n C 1 dX4_goes_32 rfl rfl ?_
      refine g_if_eq C 40 dX4_goes_33 (by decide) (fun _ => ?_) (fun _ => ?_)
      · refine g_iconst C (v := (0 : Int32)) dX4_goes_40 ic_0 ?_
        exact g_ret C ⟨dX4_goes_41, rfl, rfl, Or.inl rfl⟩
      · refine g_iconst C (v := (1 : Int32)) dX4_goes_36 ic_1 ?_
        refine g_goto C 41 dX4_goes_37 (by decide) ?_
        exact g_ret C ⟨dX4_goes_41, rfl, rfl, Or.inr rfl⟩
  refine g_aload_n C 0 dX4_goes_0 rfl rfl ?_
  refine g_dup C dX4_goes_1 rfl ?_
  refine g_get C (fun _ h => List.mem_cons_of_mem _ (List.mem_append_right _ h)) 0 (MWg_0 K a _) rfl 5 (by decide) (List.mem_of_getElem? (i := 1) rfl) rfl rfl dX4_goes_2 ?_
  refine g_aload_n C 0 dX4_goes_5 rfl rfl ?_
  refine g_get C (fun _ h => List.mem_cons_of_mem _ (List.mem_append_right _ h)) 0 (MWg_0 K a _) rfl 4 (by decide) (List.mem_of_getElem? (i := 2) rfl) rfl rfl dX4_goes_6 ?_
  refine g_if_eq C 20 dX4_goes_9 (by decide) (fun _ => ?_) (fun _ => ?_)
  · refine g_iconst C (v := (0 : Int32)) dX4_goes_20 ic_0 ?_
    exact h_21 σ p1 (σ 0 5) (0 : Int32)
  · refine g_iload_n C 1 dX4_goes_12 rfl rfl ?_
    refine g_if_ne C 20 dX4_goes_13 (by decide) (fun _ => ?_) (fun _ => ?_)
    · refine g_iconst C (v := (1 : Int32)) dX4_goes_16 ic_1 ?_
      refine g_goto C 21 dX4_goes_17 (by decide) ?_
      exact h_21 σ p1 (σ 0 5) (1 : Int32)
    · refine g_iconst C (v := (0 : Int32)) dX4_goes_20 ic_0 ?_
      exact h_21 σ p1 (σ 0 5) (0 : Int32)
set_option maxHeartbeats 4000000 in
set_option maxRecDepth 100000 in
theorem mX4_readBooks (l : Launch) (D : va_G) (K : Nat → ClassId) (a : Nat → Nat) (σ : gS) (p1 : Int32) (r : gS) (hf : fX4_readBooks σ p1 = some r) : gMv l yX4_readBooks wsX4_readBooks { frames := 4, cells := 0, slots := 0, locals := 85 } D (gT K) (MW K a) [.ref (a 0), .int p1] σ r := by
  refine mk_v (nL := 4) (cc := cX4_readBooks) (by decide) rfl (Nat.le_of_ble_eq_true rfl) rfl rfl hf (fun g C => ?_)
  refine g_sub C (lv' := [(0, .ref (a 0)), (1, .int p1)]) [0, 1] rfl ?_
  unfold fX4_readBooks
  have h_16 : ∀ (σ : gS) (v1 : Int32) (s0 : Int32), g (fX4_readBooks_L16 σ v1 s0) 16 [(0, .ref (a 0)), (1, .int v1)] [.int s0] σ := by
    intro σ v1 s0
    unfold fX4_readBooks_L16
    refine g_istore_n C (lv' := [(2, .int s0), (0, .ref (a 0)), (1, .int v1)]) dX4_readBooks_16 rfl (by decide) rfl ?_
    refine g_aload_n C 1 dX4_readBooks_17 rfl rfl ?_
    refine g_bipush C (v := (19 : Int32)) dX4_readBooks_18 (by decide) ?_
    refine g_callVi C (n := 1) (As := [.int (19 : Int32)]) (rest := []) (fun r h => mX4_two l D K a _ _ r h) gE.same gX4_readBooks_X4_two rfl (by decide +kernel) ⟨Nat.le_of_ble_eq_true rfl, Nat.le_of_ble_eq_true rfl, rfl, rfl⟩ 0 (MWg_0 K a _) rfl rfl rfl (Nat.le_of_ble_eq_true rfl) dX4_readBooks_20 (fun r1 _ => ?_)
    refine g_istore_n C (lv' := [(3, .int r1.1), (2, .int s0), (0, .ref (a 0)), (1, .int v1)]) dX4_readBooks_23 rfl (by decide) rfl ?_
    refine g_iload_n C 3 dX4_readBooks_24 rfl rfl ?_
    refine g_bipush C (v := (116 : Int32)) dX4_readBooks_25 (by decide) ?_
    refine g_icmp_ne C 62 dX4_readBooks_27 (by decide) (fun _ => ?_) (fun _ => ?_)
    · refine g_aload_n C 2 dX4_readBooks_30 rfl rfl ?_
      refine g_aload_n C 2 dX4_readBooks_31 rfl rfl ?_
      refine g_get C (fun _ h => List.mem_cons_of_mem _ (List.mem_append_right _ h)) 0 (MWg_0 K a _) rfl 6 (by decide) (List.mem_of_getElem? (i := 1) rfl) rfl rfl dX4_readBooks_32 ?_
      refine g_iload_n C 1 dX4_readBooks_35 rfl rfl ?_
      refine g_iload_n C 0 dX4_readBooks_36 rfl rfl ?_
      refine g_callSi C (n := 3) (As := [.ref (a 2), .int s0, .int r1.1]) (rest := [.ref (a 0)]) (fun r h => mX4_canTake l D K (a 2) _ _ _ r h) (MWe_2 D K a _) gX4_readBooks_X4_canTake rfl (by decide +kernel) ⟨Nat.le_of_ble_eq_true rfl, Nat.le_of_ble_eq_true rfl, rfl, rfl⟩ rfl rfl (Nat.le_of_ble_eq_true rfl) dX4_readBooks_37 (fun r2 _ => ?_)
      refine g_state (fun u3 => ?_)
      refine g_callVi C (n := 1) (As := [.int r2.1]) (rest := []) (fun r h => mX4_goes l D K a _ _ r h) gE.same gX4_readBooks_X4_goes rfl (by decide +kernel) ⟨Nat.le_of_ble_eq_true rfl, Nat.le_of_ble_eq_true rfl, rfl, rfl⟩ 0 (MWg_0 K a _) rfl rfl rfl (Nat.le_of_ble_eq_true rfl) dX4_readBooks_40 (fun r4 _ => ?_)
      refine g_if_eq C 134 dX4_readBooks_43 (by decide) (fun _ => ?_) (fun _ => ?_)
      · exact g_ret C ⟨dX4_readBooks_134, rfl, rfl⟩
      · refine g_aload_n C 2 dX4_readBooks_46 rfl rfl ?_
        refine g_get C (fun _ h => List.mem_cons_of_mem _ (List.mem_append_right _ h)) 0 (MWg_0 K a _) rfl 6 (by decide) (List.mem_of_getElem? (i := 1) rfl) rfl rfl dX4_readBooks_47 ?_
        refine g_iload_n C 0 dX4_readBooks_50 rfl rfl ?_
        refine g_iconst C (v := (0 : Int32)) dX4_readBooks_51 ic_0 ?_
        refine g_callSi C (n := 2) (As := [.int r1.1, .int (0 : Int32)]) (rest := [.ref (a 2)]) (fun r h => mX4_bookAt l D K _ _ r h) gE.nil (τ := ()) gX4_readBooks_X4_bookAt rfl (by decide +kernel) ⟨Nat.le_of_ble_eq_true rfl, Nat.le_of_ble_eq_true rfl, rfl, rfl⟩ rfl rfl (Nat.le_of_ble_eq_true rfl) dX4_readBooks_52 (fun r5 _ => ?_)
        refine g_iload_n C 1 dX4_readBooks_55 rfl rfl ?_
        refine g_iconst C (v := (1 : Int32)) dX4_readBooks_56 ic_1 ?_
        refine g_iadd C dX4_readBooks_57 ?_
        refine g_topi (fun t6 => ?_)
        refine g_iastG C 2 0 (MWg_2 K a _) rfl (MWs_2 K a _ _) dX4_readBooks_58 ?_
        refine g_state (fun u7 => ?_)
        refine g_goto C 134 dX4_readBooks_59 (by decide) ?_
        exact g_ret C ⟨dX4_readBooks_134, rfl, rfl⟩
    · refine g_iload_n C 3 dX4_readBooks_62 rfl rfl ?_
      refine g_bipush C (v := (112 : Int32)) dX4_readBooks_63 (by decide) ?_
      refine g_icmp_ne C 97 dX4_readBooks_65 (by decide) (fun _ => ?_) (fun _ => ?_)
      · refine g_aload_n C 2 dX4_readBooks_68 rfl rfl ?_
        refine g_aload_n C 2 dX4_readBooks_69 rfl rfl ?_
        refine g_get C (fun _ h => List.mem_cons_of_mem _ (List.mem_append_right _ h)) 0 (MWg_0 K a _) rfl 6 (by decide) (List.mem_of_getElem? (i := 1) rfl) rfl rfl dX4_readBooks_70 ?_
        refine g_iload_n C 0 dX4_readBooks_73 rfl rfl ?_
        refine g_callSi C (n := 2) (As := [.ref (a 2), .int r1.1]) (rest := [.ref (a 0)]) (fun r h => mX4_canPutBack l D K (a 2) _ _ r h) (MWe_2 D K a _) gX4_readBooks_X4_canPutBack rfl (by decide +kernel) ⟨Nat.le_of_ble_eq_true rfl, Nat.le_of_ble_eq_true rfl, rfl, rfl⟩ rfl rfl (Nat.le_of_ble_eq_true rfl) dX4_readBooks_74 (fun r8 _ => ?_)
        refine g_state (fun u9 => ?_)
        refine g_callVi C (n := 1) (As := [.int r8.1]) (rest := []) (fun r h => mX4_goes l D K a _ _ r h) gE.same gX4_readBooks_X4_goes rfl (by decide +kernel) ⟨Nat.le_of_ble_eq_true rfl, Nat.le_of_ble_eq_true rfl, rfl, rfl⟩ 0 (MWg_0 K a _) rfl rfl rfl (Nat.le_of_ble_eq_true rfl) dX4_readBooks_77 (fun r10 _ => ?_)
        refine g_if_eq C 134 dX4_readBooks_80 (by decide) (fun _ => ?_) (fun _ => ?_)
        · exact g_ret C ⟨dX4_readBooks_134, rfl, rfl⟩
        · refine g_aload_n C 2 dX4_readBooks_83 rfl rfl ?_
          refine g_get C (fun _ h => List.mem_cons_of_mem _ (List.mem_append_right _ h)) 0 (MWg_0 K a _) rfl 6 (by decide) (List.mem_of_getElem? (i := 1) rfl) rfl rfl dX4_readBooks_84 ?_
          refine g_iload_n C 0 dX4_readBooks_87 rfl rfl ?_
          refine g_iconst C (v := (0 : Int32)) dX4_readBooks_88 ic_0 ?_
          refine g_callSi C (n := 2) (As := [.int r1.1, .int (0 : Int32)]) (rest := [.ref (a 2)]) (fun r h => mX4_bookAt l D K _ _ r h) gE.nil (τ := ()) gX4_readBooks_X4_bookAt rfl (by decide +kernel) ⟨Nat.le_of_ble_eq_true rfl, Nat.le_of_ble_eq_true rfl, rfl, rfl⟩ rfl rfl (Nat.le_of_ble_eq_true rfl) dX4_readBooks_89 (fun r11 _ => ?_)
          refine g_iconst C (v := (0 : Int32)) dX4_readBooks_92 ic_0 ?_
          refine g_iastG C 2 0 (MWg_2 K a _) rfl (MWs_2 K a _ _) dX4_readBooks_93 ?_
          refine g_state (fun u12 => ?_)
          refine g_goto C 134 dX4_readBooks_94 (by decide) ?_
          exact g_ret C ⟨dX4_readBooks_134, rfl, rfl⟩
      · refine g_aload_n C 2 dX4_readBooks_97 rfl rfl ?_
        refine g_aload_n C 2 dX4_readBooks_98 rfl rfl ?_
        refine g_get C (fun _ h => List.mem_cons_of_mem _ (List.mem_append_right _ h)) 0 (MWg_0 K a _) rfl 6 (by decide) (List.mem_of_getElem? (i := 1) rfl) rfl rfl dX4_readBooks_99 ?_
        refine g_iload_n C 0 dX4_readBooks_102 rfl rfl ?_
        refine g_callSi C (n := 2) (As := [.ref (a 2), .int r1.1]) (rest := [.ref (a 0)]) (fun r h => mX4_isBookInside l D K (a 2) _ _ r h) (MWe_2 D K a _) gX4_readBooks_X4_isBookInside rfl (by decide +kernel) ⟨Nat.le_of_ble_eq_true rfl, Nat.le_of_ble_eq_true rfl, rfl, rfl⟩ rfl rfl (Nat.le_of_ble_eq_true rfl) dX4_readBooks_103 (fun r13 _ => ?_)
        refine g_state (fun u14 => ?_)
        refine g_callVi C (n := 1) (As := [.int r13.1]) (rest := []) (fun r h => mX4_goes l D K a _ _ r h) gE.same gX4_readBooks_X4_goes rfl (by decide +kernel) ⟨Nat.le_of_ble_eq_true rfl, Nat.le_of_ble_eq_true rfl, rfl, rfl⟩ 0 (MWg_0 K a _) rfl rfl rfl (Nat.le_of_ble_eq_true rfl) dX4_readBooks_106 (fun r15 _ => ?_)
        refine g_if_eq C 134 dX4_readBooks_109 (by decide) (fun _ => ?_) (fun _ => ?_)
        · exact g_ret C ⟨dX4_readBooks_134, rfl, rfl⟩
        · refine g_aload_n C 2 dX4_readBooks_112 rfl rfl ?_
          refine g_get C (fun _ h => List.mem_cons_of_mem _ (List.mem_append_right _ h)) 0 (MWg_0 K a _) rfl 6 (by decide) (List.mem_of_getElem? (i := 1) rfl) rfl rfl dX4_readBooks_113 ?_
          refine g_iload_n C 0 dX4_readBooks_116 rfl rfl ?_
          refine g_iconst C (v := (1 : Int32)) dX4_readBooks_117 ic_1 ?_
          refine g_callSi C (n := 2) (As := [.int r1.1, .int (1 : Int32)]) (rest := [.ref (a 2)]) (fun r h => mX4_bookAt l D K _ _ r h) gE.nil (τ := ()) gX4_readBooks_X4_bookAt rfl (by decide +kernel) ⟨Nat.le_of_ble_eq_true rfl, Nat.le_of_ble_eq_true rfl, rfl, rfl⟩ rfl rfl (Nat.le_of_ble_eq_true rfl) dX4_readBooks_118 (fun r16 _ => ?_)
          refine g_iconst C (v := (1 : Int32)) dX4_readBooks_121 ic_1 ?_
          refine g_aload_n C 2 dX4_readBooks_122 rfl rfl ?_
          refine g_get C (fun _ h => List.mem_cons_of_mem _ (List.mem_append_right _ h)) 0 (MWg_0 K a _) rfl 6 (by decide) (List.mem_of_getElem? (i := 1) rfl) rfl rfl dX4_readBooks_123 ?_
          refine g_iload_n C 0 dX4_readBooks_126 rfl rfl ?_
          refine g_iconst C (v := (1 : Int32)) dX4_readBooks_127 ic_1 ?_
          refine g_callSi C (n := 2) (As := [.int r1.1, .int (1 : Int32)]) (rest := [.ref (a 2), .int (1 : Int32), .int r16.1, .ref (a 2)]) (fun r h => mX4_bookAt l D K _ _ r h) gE.nil (τ := ()) gX4_readBooks_X4_bookAt rfl (by decide +kernel) ⟨Nat.le_of_ble_eq_true rfl, Nat.le_of_ble_eq_true rfl, rfl, rfl⟩ rfl rfl (Nat.le_of_ble_eq_true rfl) dX4_readBooks_128 (fun r17 _ => ?_)
          refine g_ialdG C 2 0 (MWg_2 K a _) rfl dX4_readBooks_131 ?_
          refine g_isub C dX4_readBooks_132 ?_
          refine g_topi (fun t18 => ?_)
          refine g_iastG C 2 0 (MWg_2 K a _) rfl (MWs_2 K a _ _) dX4_readBooks_133 ?_
          refine g_state (fun u19 => ?_)
          exact g_ret C ⟨dX4_readBooks_134, rfl, rfl⟩
  refine g_iload_n C 1 dX4_readBooks_0 rfl rfl ?_
  refine g_bipush C (v := (116 : Int32)) dX4_readBooks_1 (by decide) ?_
  refine g_icmp_ne C 15 dX4_readBooks_3 (by decide) (fun _ => ?_) (fun _ => ?_)
  · refine g_aload_n C 0 dX4_readBooks_6 rfl rfl ?_
    refine g_iconst C (v := (0 : Int32)) dX4_readBooks_7 ic_0 ?_
    refine g_iconst C (v := (5 : Int32)) dX4_readBooks_8 ic_5 ?_
    refine g_callVi C (n := 2) (As := [.int (0 : Int32), .int (5 : Int32)]) (rest := []) (fun r h => mX4_digit l D K a _ _ _ r h) gE.same gX4_readBooks_X4_digit rfl (by decide +kernel) ⟨Nat.le_of_ble_eq_true rfl, Nat.le_of_ble_eq_true rfl, rfl, rfl⟩ 0 (MWg_0 K a _) rfl rfl rfl (Nat.le_of_ble_eq_true rfl) dX4_readBooks_9 (fun r20 _ => ?_)
    refine g_goto C 16 dX4_readBooks_12 (by decide) ?_
    exact h_16 r20.2 p1 r20.1
  · refine g_iconst C (v := (0 : Int32)) dX4_readBooks_15 ic_0 ?_
    exact h_16 σ p1 (0 : Int32)
set_option maxHeartbeats 4000000 in
set_option maxRecDepth 100000 in
theorem mX4_readWays (l : Launch) (D : va_G) (K : Nat → ClassId) (a : Nat → Nat) (σ : gS) (p1 : Int32) (r : gS) (hf : fX4_readWays σ p1 = some r) : gMv l yX4_readWays wsX4_readWays { frames := 2, cells := 0, slots := 0, locals := 48 } D (gT K) (MW K a) [.ref (a 0), .int p1] σ r := by
  refine mk_v (nL := 4) (cc := cX4_readWays) (by decide) rfl (Nat.le_of_ble_eq_true rfl) rfl rfl hf (fun g C => ?_)
  refine g_sub C (lv' := [(0, .ref (a 0)), (1, .int p1)]) [0, 1] rfl ?_
  unfold fX4_readWays
  have h_62 : ∀ (σ : gS) (v1 : Int32) (v2 : Int32) (v3 : Int32) (s2 : Int32) (s3 : Int32), g (fX4_readWays_L62 σ v1 v2 v3 s2 s3) 62 [(0, .ref (a 0)), (1, .int v1), (2, .int v2), (3, .int v3)] [.int s3, .int s2, .ref (a 2), .ref (a 0)] σ := by
    intro σ v1 v2 v3 s2 s3
    unfold fX4_readWays_L62
    refine g_callSi C (n := 3) (As := [.ref (a 2), .int s2, .int s3]) (rest := [.ref (a 0)]) (fun r h => mX4_canWalk l D K (a 2) _ _ _ r h) (MWe_2 D K a _) gX4_readWays_X4_canWalk rfl (by decide +kernel) ⟨Nat.le_of_ble_eq_true rfl, Nat.le_of_ble_eq_true rfl, rfl, rfl⟩ rfl rfl (Nat.le_of_ble_eq_true rfl) dX4_readWays_62 (fun r1 _ => ?_)
    refine g_state (fun u2 => ?_)
    refine g_callVi C (n := 1) (As := [.int r1.1]) (rest := []) (fun r h => mX4_goes l D K a _ _ r h) gE.same gX4_readWays_X4_goes rfl (by decide +kernel) ⟨Nat.le_of_ble_eq_true rfl, Nat.le_of_ble_eq_true rfl, rfl, rfl⟩ 0 (MWg_0 K a _) rfl rfl rfl (Nat.le_of_ble_eq_true rfl) dX4_readWays_65 (fun r3 _ => ?_)
    refine g_if_eq C 92 dX4_readWays_68 (by decide) (fun _ => ?_) (fun _ => ?_)
    · exact g_ret C ⟨dX4_readWays_92, rfl, rfl⟩
    · refine g_aload_n C 0 dX4_readWays_71 rfl rfl ?_
      refine g_get C (fun _ h => List.mem_cons_of_mem _ (List.mem_append_right _ h)) 0 (MWg_0 K a _) rfl 6 (by decide) (List.mem_of_getElem? (i := 1) rfl) rfl rfl dX4_readWays_72 ?_
      refine g_iload_n C 2 dX4_readWays_75 rfl rfl ?_
      refine g_iload_n C 3 dX4_readWays_76 rfl rfl ?_
      refine g_iload_n C 1 dX4_readWays_77 rfl rfl ?_
      refine g_bipush C (v := (111 : Int32)) dX4_readWays_78 (by decide) ?_
      refine g_icmp_ne C 87 dX4_readWays_80 (by decide) (fun _ => ?_) (fun _ => ?_)
      · refine g_iconst C (v := (1 : Int32)) dX4_readWays_83 ic_1 ?_
        refine g_goto C 88 dX4_readWays_84 (by decide) ?_
        refine g_callSi C (n := 4) (As := [.ref (a 2), .int v2, .int v3, .int (1 : Int32)]) (rest := []) (fun r h => mX4_walkIn l D K (a 2) _ _ _ _ r h) (MWe_2 D K a _) gX4_readWays_X4_walkIn rfl (by decide +kernel) ⟨Nat.le_of_ble_eq_true rfl, Nat.le_of_ble_eq_true rfl, rfl, rfl⟩ rfl rfl (Nat.le_of_ble_eq_true rfl) dX4_readWays_88 (fun r4 _ => ?_)
        refine g_state (fun u5 => ?_)
        refine g_pop C dX4_readWays_91 rfl ?_
        exact g_ret C ⟨dX4_readWays_92, rfl, rfl⟩
      · refine g_iconst C (v := (0 : Int32)) dX4_readWays_87 ic_0 ?_
        refine g_callSi C (n := 4) (As := [.ref (a 2), .int v2, .int v3, .int (0 : Int32)]) (rest := []) (fun r h => mX4_walkIn l D K (a 2) _ _ _ _ r h) (MWe_2 D K a _) gX4_readWays_X4_walkIn rfl (by decide +kernel) ⟨Nat.le_of_ble_eq_true rfl, Nat.le_of_ble_eq_true rfl, rfl, rfl⟩ rfl rfl (Nat.le_of_ble_eq_true rfl) dX4_readWays_88 (fun r6 _ => ?_)
        refine g_state (fun u7 => ?_)
        refine g_pop C dX4_readWays_91 rfl ?_
        exact g_ret C ⟨dX4_readWays_92, rfl, rfl⟩
  refine g_aload_n C 0 dX4_readWays_0 rfl rfl ?_
  refine g_iconst C (v := (0 : Int32)) dX4_readWays_1 ic_0 ?_
  refine g_iconst C (v := (5 : Int32)) dX4_readWays_2 ic_5 ?_
  refine g_callVi C (n := 2) (As := [.int (0 : Int32), .int (5 : Int32)]) (rest := []) (fun r h => mX4_digit l D K a _ _ _ r h) gE.same gX4_readWays_X4_digit rfl (by decide +kernel) ⟨Nat.le_of_ble_eq_true rfl, Nat.le_of_ble_eq_true rfl, rfl, rfl⟩ 0 (MWg_0 K a _) rfl rfl rfl (Nat.le_of_ble_eq_true rfl) dX4_readWays_3 (fun r8 _ => ?_)
  refine g_istore_n C (lv' := [(2, .int r8.1), (0, .ref (a 0)), (1, .int p1)]) dX4_readWays_6 rfl (by decide) rfl ?_
  refine g_iload_n C 2 dX4_readWays_7 rfl rfl ?_
  refine g_bipush C (v := (114 : Int32)) dX4_readWays_8 (by decide) ?_
  refine g_icmp_ne C 38 dX4_readWays_10 (by decide) (fun _ => ?_) (fun _ => ?_)
  · refine g_aload_n C 1 dX4_readWays_13 rfl rfl ?_
    refine g_aload_n C 1 dX4_readWays_14 rfl rfl ?_
    refine g_get C (fun _ h => List.mem_cons_of_mem _ (List.mem_append_right _ h)) 0 (MWg_0 K a _) rfl 6 (by decide) (List.mem_of_getElem? (i := 1) rfl) rfl rfl dX4_readWays_15 ?_
    refine g_iload_n C 0 dX4_readWays_18 rfl rfl ?_
    refine g_callSi C (n := 2) (As := [.ref (a 2), .int r8.1]) (rest := [.ref (a 0)]) (fun r h => mX4_isAtGate l D K (a 2) _ _ r h) (MWe_2 D K a _) gX4_readWays_X4_isAtGate rfl (by decide +kernel) ⟨Nat.le_of_ble_eq_true rfl, Nat.le_of_ble_eq_true rfl, rfl, rfl⟩ rfl rfl (Nat.le_of_ble_eq_true rfl) dX4_readWays_19 (fun r9 _ => ?_)
    refine g_state (fun u10 => ?_)
    refine g_callVi C (n := 1) (As := [.int r9.1]) (rest := []) (fun r h => mX4_goes l D K a _ _ r h) gE.same gX4_readWays_X4_goes rfl (by decide +kernel) ⟨Nat.le_of_ble_eq_true rfl, Nat.le_of_ble_eq_true rfl, rfl, rfl⟩ 0 (MWg_0 K a _) rfl rfl rfl (Nat.le_of_ble_eq_true rfl) dX4_readWays_22 (fun r11 _ => ?_)
    refine g_if_eq C 37 dX4_readWays_25 (by decide) (fun _ => ?_) (fun _ => ?_)
    · exact g_ret C ⟨dX4_readWays_37, rfl, rfl⟩
    · refine g_aload_n C 1 dX4_readWays_28 rfl rfl ?_
      refine g_get C (fun _ h => List.mem_cons_of_mem _ (List.mem_append_right _ h)) 0 (MWg_0 K a _) rfl 6 (by decide) (List.mem_of_getElem? (i := 1) rfl) rfl rfl dX4_readWays_29 ?_
      refine g_iload_n C 0 dX4_readWays_32 rfl rfl ?_
      refine g_callSi C (n := 2) (As := [.ref (a 2), .int r8.1]) (rest := []) (fun r h => mX4_turnIn l D K (a 2) _ _ r h) (MWe_2 D K a _) gX4_readWays_X4_turnIn rfl (by decide +kernel) ⟨Nat.le_of_ble_eq_true rfl, Nat.le_of_ble_eq_true rfl, rfl, rfl⟩ rfl rfl (Nat.le_of_ble_eq_true rfl) dX4_readWays_33 (fun r12 _ => ?_)
      refine g_state (fun u13 => ?_)
      refine g_pop C dX4_readWays_36 rfl ?_
      exact g_ret C ⟨dX4_readWays_37, rfl, rfl⟩
  · refine g_aload_n C 1 dX4_readWays_38 rfl rfl ?_
    refine g_iconst C (v := (0 : Int32)) dX4_readWays_39 ic_0 ?_
    refine g_iconst C (v := (2 : Int32)) dX4_readWays_40 ic_2 ?_
    refine g_callVi C (n := 2) (As := [.int (0 : Int32), .int (2 : Int32)]) (rest := []) (fun r h => mX4_digit l D K a _ _ _ r h) gE.same gX4_readWays_X4_digit rfl (by decide +kernel) ⟨Nat.le_of_ble_eq_true rfl, Nat.le_of_ble_eq_true rfl, rfl, rfl⟩ 0 (MWg_0 K a _) rfl rfl rfl (Nat.le_of_ble_eq_true rfl) dX4_readWays_41 (fun r14 _ => ?_)
    refine g_istore_n C (lv' := [(3, .int r14.1), (2, .int r8.1), (0, .ref (a 0)), (1, .int p1)]) dX4_readWays_44 rfl (by decide) rfl ?_
    refine g_aload_n C 2 dX4_readWays_45 rfl rfl ?_
    refine g_aload_n C 2 dX4_readWays_46 rfl rfl ?_
    refine g_get C (fun _ h => List.mem_cons_of_mem _ (List.mem_append_right _ h)) 0 (MWg_0 K a _) rfl 6 (by decide) (List.mem_of_getElem? (i := 1) rfl) rfl rfl dX4_readWays_47 ?_
    refine g_iload_n C 1 dX4_readWays_50 rfl rfl ?_
    refine g_iload_n C 3 dX4_readWays_51 rfl rfl ?_
    refine g_bipush C (v := (111 : Int32)) dX4_readWays_52 (by decide) ?_
    refine g_icmp_ne C 61 dX4_readWays_54 (by decide) (fun _ => ?_) (fun _ => ?_)
    · refine g_iconst C (v := (1 : Int32)) dX4_readWays_57 ic_1 ?_
      refine g_goto C 62 dX4_readWays_58 (by decide) ?_
      refine g_sub C (lv' := [(0, .ref (a 0)), (1, .int p1), (2, .int r8.1), (3, .int r14.1)]) [2, 3, 1, 0] rfl ?_
      exact h_62 r14.2 p1 r8.1 r14.1 r8.1 (1 : Int32)
    · refine g_iconst C (v := (0 : Int32)) dX4_readWays_61 ic_0 ?_
      refine g_sub C (lv' := [(0, .ref (a 0)), (1, .int p1), (2, .int r8.1), (3, .int r14.1)]) [2, 3, 1, 0] rfl ?_
      exact h_62 r14.2 p1 r8.1 r14.1 r8.1 (0 : Int32)
set_option maxHeartbeats 4000000 in
set_option maxRecDepth 100000 in
theorem mX4_readCommand (l : Launch) (D : va_G) (K : Nat → ClassId) (a : Nat → Nat) (σ : gS) (r : gS) (hf : fX4_readCommand σ  = some r) : gMv l yX4_readCommand wsX4_readCommand { frames := 6, cells := 0, slots := 0, locals := 138 } D (gT K) (MW K a) [.ref (a 0)] σ r := by
  refine mk_v (nL := 3) (cc := cX4_readCommand) (by decide) rfl (Nat.le_of_ble_eq_true rfl) rfl rfl hf (fun g C => ?_)
  refine g_sub C (lv' := [(0, .ref (a 0))]) [0] rfl ?_
  unfold fX4_readCommand
  have h_58 : ∀ (σ : gS) (v1 : Int32) (s1 : Int32), g (fX4_readCommand_L58 σ v1 s1) 58 [(0, .ref (a 0)), (1, .int v1)] [.int s1, .ref (a 0)] σ := by
    intro σ v1 s1
    unfold fX4_readCommand_L58
    refine g_callVv C (n := 1) (As := [.int s1]) (rest := []) (fun r h => mX4_accept l D K a _ _ r h) gE.same gX4_readCommand_X4_accept rfl (by decide +kernel) ⟨Nat.le_of_ble_eq_true rfl, Nat.le_of_ble_eq_true rfl, rfl, rfl⟩ 0 (MWg_0 K a _) rfl rfl rfl (Nat.le_of_ble_eq_true rfl) dX4_readCommand_58 (fun r1 _ => ?_)
    refine g_aload_n C 0 dX4_readCommand_61 rfl rfl ?_
    refine g_get C (fun _ h => List.mem_cons_of_mem _ (List.mem_append_right _ h)) 0 (MWg_0 K a _) rfl 4 (by decide) (List.mem_of_getElem? (i := 3) rfl) rfl rfl dX4_readCommand_62 ?_
    refine g_if_ne C 69 dX4_readCommand_65 (by decide) (fun _ => ?_) (fun _ => ?_)
    · exact g_ret C ⟨dX4_readCommand_68, rfl, rfl⟩
    · refine g_iload_n C 1 dX4_readCommand_69 rfl rfl ?_
      refine g_bipush C (v := (110 : Int32)) dX4_readCommand_70 (by decide) ?_
      refine g_icmp_ne C 106 dX4_readCommand_72 (by decide) (fun _ => ?_) (fun _ => ?_)
      · refine g_aload_n C 0 dX4_readCommand_75 rfl rfl ?_
        refine g_iconst C (v := (1 : Int32)) dX4_readCommand_76 ic_1 ?_
        refine g_bipush C (v := (9 : Int32)) dX4_readCommand_77 (by decide) ?_
        refine g_callVi C (n := 2) (As := [.int (1 : Int32), .int (9 : Int32)]) (rest := []) (fun r h => mX4_digit l D K a _ _ _ r h) gE.same gX4_readCommand_X4_digit rfl (by decide +kernel) ⟨Nat.le_of_ble_eq_true rfl, Nat.le_of_ble_eq_true rfl, rfl, rfl⟩ 0 (MWg_0 K a _) rfl rfl rfl (Nat.le_of_ble_eq_true rfl) dX4_readCommand_79 (fun r2 _ => ?_)
        refine g_istore_n C (lv' := [(2, .int r2.1), (0, .ref (a 0)), (1, .int v1)]) dX4_readCommand_82 rfl (by decide) rfl ?_
        refine g_aload_n C 1 dX4_readCommand_83 rfl rfl ?_
        refine g_get C (fun _ h => List.mem_cons_of_mem _ (List.mem_append_right _ h)) 0 (MWg_0 K a _) rfl 6 (by decide) (List.mem_of_getElem? (i := 4) rfl) rfl rfl dX4_readCommand_84 ?_
        refine g_aload_n C 1 dX4_readCommand_87 rfl rfl ?_
        refine g_get C (fun _ h => List.mem_cons_of_mem _ (List.mem_append_right _ h)) 0 (MWg_0 K a _) rfl 4 (by decide) (List.mem_of_getElem? (i := 3) rfl) rfl rfl dX4_readCommand_88 ?_
        refine g_if_eq C 98 dX4_readCommand_91 (by decide) (fun _ => ?_) (fun _ => ?_)
        · refine g_iconst C (v := (0 : Int32)) dX4_readCommand_98 ic_0 ?_
          refine g_callSi C (n := 2) (As := [.ref (a 2), .int (0 : Int32)]) (rest := []) (fun r h => mX4_ticksIn l D K (a 2) _ _ r h) (MWe_2 D K a _) gX4_readCommand_X4_ticksIn rfl (by decide +kernel) ⟨Nat.le_of_ble_eq_true rfl, Nat.le_of_ble_eq_true rfl, rfl, rfl⟩ rfl rfl (Nat.le_of_ble_eq_true rfl) dX4_readCommand_99 (fun r3 _ => ?_)
          refine g_state (fun u4 => ?_)
          refine g_pop C dX4_readCommand_102 rfl ?_
          refine g_goto C 137 dX4_readCommand_103 (by decide) ?_
          exact g_ret C ⟨dX4_readCommand_137, rfl, rfl⟩
        · refine g_iload_n C 0 dX4_readCommand_94 rfl rfl ?_
          refine g_goto C 99 dX4_readCommand_95 (by decide) ?_
          refine g_callSi C (n := 2) (As := [.ref (a 2), .int r2.1]) (rest := []) (fun r h => mX4_ticksIn l D K (a 2) _ _ r h) (MWe_2 D K a _) gX4_readCommand_X4_ticksIn rfl (by decide +kernel) ⟨Nat.le_of_ble_eq_true rfl, Nat.le_of_ble_eq_true rfl, rfl, rfl⟩ rfl rfl (Nat.le_of_ble_eq_true rfl) dX4_readCommand_99 (fun r5 _ => ?_)
          refine g_state (fun u6 => ?_)
          refine g_pop C dX4_readCommand_102 rfl ?_
          refine g_goto C 137 dX4_readCommand_103 (by decide) ?_
          exact g_ret C ⟨dX4_readCommand_137, rfl, rfl⟩
      · refine g_iload_n C 1 dX4_readCommand_106 rfl rfl ?_
        refine g_bipush C (v := (116 : Int32)) dX4_readCommand_107 (by decide) ?_
        refine g_icmp_eq C 124 dX4_readCommand_109 (by decide) (fun _ => ?_) (fun _ => ?_)
        · refine g_aload_n C 0 dX4_readCommand_124 rfl rfl ?_
          refine g_iload_n C 1 dX4_readCommand_125 rfl rfl ?_
          refine g_callVv C (n := 1) (As := [.int v1]) (rest := []) (fun r h => mX4_readBooks l D K a _ _ r h) gE.same gX4_readCommand_X4_readBooks rfl (by decide +kernel) ⟨Nat.le_of_ble_eq_true rfl, Nat.le_of_ble_eq_true rfl, rfl, rfl⟩ 0 (MWg_0 K a _) rfl rfl rfl (Nat.le_of_ble_eq_true rfl) dX4_readCommand_126 (fun r7 _ => ?_)
          refine g_goto C 137 dX4_readCommand_129 (by decide) ?_
          exact g_ret C ⟨dX4_readCommand_137, rfl, rfl⟩
        · refine g_iload_n C 1 dX4_readCommand_112 rfl rfl ?_
          refine g_bipush C (v := (112 : Int32)) dX4_readCommand_113 (by decide) ?_
          refine g_icmp_eq C 124 dX4_readCommand_115 (by decide) (fun _ => ?_) (fun _ => ?_)
          · refine g_aload_n C 0 dX4_readCommand_124 rfl rfl ?_
            refine g_iload_n C 1 dX4_readCommand_125 rfl rfl ?_
            refine g_callVv C (n := 1) (As := [.int v1]) (rest := []) (fun r h => mX4_readBooks l D K a _ _ r h) gE.same gX4_readCommand_X4_readBooks rfl (by decide +kernel) ⟨Nat.le_of_ble_eq_true rfl, Nat.le_of_ble_eq_true rfl, rfl, rfl⟩ 0 (MWg_0 K a _) rfl rfl rfl (Nat.le_of_ble_eq_true rfl) dX4_readCommand_126 (fun r8 _ => ?_)
            refine g_goto C 137 dX4_readCommand_129 (by decide) ?_
            exact g_ret C ⟨dX4_readCommand_137, rfl, rfl⟩
          · refine g_iload_n C 1 dX4_readCommand_118 rfl rfl ?_
            refine g_bipush C (v := (98 : Int32)) dX4_readCommand_119 (by decide) ?_
            refine g_icmp_ne C 132 dX4_readCommand_121 (by decide) (fun _ => ?_) (fun _ => ?_)
            · refine g_aload_n C 0 dX4_readCommand_124 rfl rfl ?_
              refine g_iload_n C 1 dX4_readCommand_125 rfl rfl ?_
              refine g_callVv C (n := 1) (As := [.int v1]) (rest := []) (fun r h => mX4_readBooks l D K a _ _ r h) gE.same gX4_readCommand_X4_readBooks rfl (by decide +kernel) ⟨Nat.le_of_ble_eq_true rfl, Nat.le_of_ble_eq_true rfl, rfl, rfl⟩ 0 (MWg_0 K a _) rfl rfl rfl (Nat.le_of_ble_eq_true rfl) dX4_readCommand_126 (fun r9 _ => ?_)
              refine g_goto C 137 dX4_readCommand_129 (by decide) ?_
              exact g_ret C ⟨dX4_readCommand_137, rfl, rfl⟩
            · refine g_aload_n C 0 dX4_readCommand_132 rfl rfl ?_
              refine g_iload_n C 1 dX4_readCommand_133 rfl rfl ?_
              refine g_callVv C (n := 1) (As := [.int v1]) (rest := []) (fun r h => mX4_readWays l D K a _ _ r h) gE.same gX4_readCommand_X4_readWays rfl (by decide +kernel) ⟨Nat.le_of_ble_eq_true rfl, Nat.le_of_ble_eq_true rfl, rfl, rfl⟩ 0 (MWg_0 K a _) rfl rfl rfl (Nat.le_of_ble_eq_true rfl) dX4_readCommand_134 (fun r10 _ => ?_)
              exact g_ret C ⟨dX4_readCommand_137, rfl, rfl⟩
  refine g_aload_n C 0 dX4_readCommand_0 rfl rfl ?_
  refine g_get C (fun _ h => List.mem_cons_of_mem _ (List.mem_append_right _ h)) 0 (MWg_0 K a _) rfl 1 (by decide) (List.mem_of_getElem? (i := 1) rfl) rfl rfl dX4_readCommand_1 ?_
  refine g_aload_n C 0 dX4_readCommand_4 rfl rfl ?_
  refine g_get C (fun _ h => List.mem_cons_of_mem _ (List.mem_append_right _ h)) 0 (MWg_0 K a _) rfl 3 (by decide) (List.mem_of_getElem? (i := 2) rfl) rfl rfl dX4_readCommand_5 ?_
  refine g_ialdG C 1 0 (MWg_1 K a _) rfl dX4_readCommand_8 ?_
  refine g_topi (fun t11 => ?_)
  refine g_istore_n C (lv' := [(1, .int t11), (0, .ref (a 0))]) dX4_readCommand_9 rfl (by decide) rfl ?_
  refine g_aload_n C 1 dX4_readCommand_10 rfl rfl ?_
  refine g_iload_n C 0 dX4_readCommand_11 rfl rfl ?_
  refine g_bipush C (v := (116 : Int32)) dX4_readCommand_12 (by decide) ?_
  refine g_icmp_eq C 53 dX4_readCommand_14 (by decide) (fun _ => ?_) (fun _ => ?_)
  · refine g_iconst C (v := (1 : Int32)) dX4_readCommand_53 ic_1 ?_
    refine g_goto C 58 dX4_readCommand_54 (by decide) ?_
    refine g_sub C (lv' := [(0, .ref (a 0)), (1, .int t11)]) [1, 0] rfl ?_
    exact h_58 σ t11 (1 : Int32)
  · refine g_iload_n C 0 dX4_readCommand_17 rfl rfl ?_
    refine g_bipush C (v := (112 : Int32)) dX4_readCommand_18 (by decide) ?_
    refine g_icmp_eq C 53 dX4_readCommand_20 (by decide) (fun _ => ?_) (fun _ => ?_)
    · refine g_iconst C (v := (1 : Int32)) dX4_readCommand_53 ic_1 ?_
      refine g_goto C 58 dX4_readCommand_54 (by decide) ?_
      refine g_sub C (lv' := [(0, .ref (a 0)), (1, .int t11)]) [1, 0] rfl ?_
      exact h_58 σ t11 (1 : Int32)
    · refine g_iload_n C 0 dX4_readCommand_23 rfl rfl ?_
      refine g_bipush C (v := (98 : Int32)) dX4_readCommand_24 (by decide) ?_
      refine g_icmp_eq C 53 dX4_readCommand_26 (by decide) (fun _ => ?_) (fun _ => ?_)
      · refine g_iconst C (v := (1 : Int32)) dX4_readCommand_53 ic_1 ?_
        refine g_goto C 58 dX4_readCommand_54 (by decide) ?_
        refine g_sub C (lv' := [(0, .ref (a 0)), (1, .int t11)]) [1, 0] rfl ?_
        exact h_58 σ t11 (1 : Int32)
      · refine g_iload_n C 0 dX4_readCommand_29 rfl rfl ?_
        refine g_bipush C (v := (111 : Int32)) dX4_readCommand_30 (by decide) ?_
        refine g_icmp_eq C 53 dX4_readCommand_32 (by decide) (fun _ => ?_) (fun _ => ?_)
        · refine g_iconst C (v := (1 : Int32)) dX4_readCommand_53 ic_1 ?_
          refine g_goto C 58 dX4_readCommand_54 (by decide) ?_
          refine g_sub C (lv' := [(0, .ref (a 0)), (1, .int t11)]) [1, 0] rfl ?_
          exact h_58 σ t11 (1 : Int32)
        · refine g_iload_n C 0 dX4_readCommand_35 rfl rfl ?_
          refine g_bipush C (v := (105 : Int32)) dX4_readCommand_36 (by decide) ?_
          refine g_icmp_eq C 53 dX4_readCommand_38 (by decide) (fun _ => ?_) (fun _ => ?_)
          · refine g_iconst C (v := (1 : Int32)) dX4_readCommand_53 ic_1 ?_
            refine g_goto C 58 dX4_readCommand_54 (by decide) ?_
            refine g_sub C (lv' := [(0, .ref (a 0)), (1, .int t11)]) [1, 0] rfl ?_
            exact h_58 σ t11 (1 : Int32)
          · refine g_iload_n C 0 dX4_readCommand_41 rfl rfl ?_
            refine g_bipush C (v := (114 : Int32)) dX4_readCommand_42 (by decide) ?_
            refine g_icmp_eq C 53 dX4_readCommand_44 (by decide) (fun _ => ?_) (fun _ => ?_)
            · refine g_iconst C (v := (1 : Int32)) dX4_readCommand_53 ic_1 ?_
              refine g_goto C 58 dX4_readCommand_54 (by decide) ?_
              refine g_sub C (lv' := [(0, .ref (a 0)), (1, .int t11)]) [1, 0] rfl ?_
              exact h_58 σ t11 (1 : Int32)
            · refine g_iload_n C 0 dX4_readCommand_47 rfl rfl ?_
              refine g_bipush C (v := (110 : Int32)) dX4_readCommand_48 (by decide) ?_
              refine g_icmp_ne C 57 dX4_readCommand_50 (by decide) (fun _ => ?_) (fun _ => ?_)
              · refine g_iconst C (v := (1 : Int32)) dX4_readCommand_53 ic_1 ?_
                refine g_goto C 58 dX4_readCommand_54 (by decide) ?_
                refine g_sub C (lv' := [(0, .ref (a 0)), (1, .int t11)]) [1, 0] rfl ?_
                exact h_58 σ t11 (1 : Int32)
              · refine g_iconst C (v := (0 : Int32)) dX4_readCommand_57 ic_0 ?_
                refine g_sub C (lv' := [(0, .ref (a 0)), (1, .int t11)]) [1, 0] rfl ?_
                exact h_58 σ t11 (0 : Int32)
set_option maxHeartbeats 4000000 in
set_option maxRecDepth 100000 in
theorem mX4_readText (l : Launch) (D : va_G) (K : Nat → ClassId) (a : Nat → Nat) (σ : gS) (r : (Int32 × gS)) (hf : fX4_readText σ  = some r) : gMi l yX4_readText wsX4_readText { frames := 7, cells := 0, slots := 0, locals := 160 } D (gT K) (MW K a) [.ref (a 0)] σ r := by
  refine mk_i (nL := 2) (cc := cX4_readText) (by decide) rfl (Nat.le_of_ble_eq_true rfl) rfl rfl hf (fun g C => ?_)
  refine g_sub C (lv' := [(0, .ref (a 0))]) [0] rfl ?_
  unfold fX4_readText
  have h_58 : ∀ (n : Nat) (σ : gS) (v1 : Int32), g (fX4_readText_L58 n σ v1) 58 [(0, .ref (a 0)), (1, .int v1)] [] σ := by
    intro n
    induction n with
    | zero =>
      intro σ v1
      exact g_none C
    | succ n58 ih_58 =>
      have h_114 : ∀ (n : Nat) (σ : gS), g (fX4_readText_L114 n σ) 114 [(0, .ref (a 0))] [] σ := by
        intro n
        induction n with
        | zero =>
          intro σ
          exact g_none C
        | succ n114 ih_114 =>
          have h_139 : ∀ (σ : gS), g (fX4_readText_L139 σ) 139 [(0, .ref (a 0))] [] σ := by
            intro σ
            unfold fX4_readText_L139
            refine g_aload_n C 0 dX4_readText_139 rfl rfl ?_
            refine g_get C (fun _ h => List.mem_cons_of_mem _ (List.mem_append_right _ h)) 0 (MWg_0 K a _) rfl 4 (by decide) (List.mem_of_getElem? (i := 2) rfl) rfl rfl dX4_readText_140 ?_
            refine g_if_eq C 151 dX4_readText_143 (by decide) (fun _ => ?_) (fun _ => ?_)
            · refine g_aload_n C 0 dX4_readText_151 rfl rfl ?_
              refine g_get C (fun _ h => List.mem_cons_of_mem _ (List.mem_append_right _ h)) 0 (MWg_0 K a _) rfl 3 (by decide) (List.mem_of_getElem? (i := 1) rfl) rfl rfl dX4_readText_152 ?_
              exact g_ret C ⟨dX4_readText_155, rfl, rfl⟩
            · refine g_bipush C (v := (-9 : Int32)) dX4_readText_146 (by decide) ?_
              refine g_goto C 155 dX4_readText_148 (by decide) ?_
              exact g_ret C ⟨dX4_readText_155, rfl, rfl⟩
          intro σ
          unfold fX4_readText_L114
          refine g_aload_n C 0 dX4_readText_114 rfl rfl ?_
          refine g_get C (fun _ h => List.mem_cons_of_mem _ (List.mem_append_right _ h)) 0 (MWg_0 K a _) rfl 4 (by decide) (List.mem_of_getElem? (i := 2) rfl) rfl rfl dX4_readText_115 ?_
          refine g_if_eq C 139 dX4_readText_118 (by decide) (fun _ => ?_) (fun _ => ?_)
          · exact h_139 σ
          · refine g_aload_n C 0 dX4_readText_121 rfl rfl ?_
            refine g_get C (fun _ h => List.mem_cons_of_mem _ (List.mem_append_right _ h)) 0 (MWg_0 K a _) rfl 3 (by decide) (List.mem_of_getElem? (i := 1) rfl) rfl rfl dX4_readText_122 ?_
            refine g_aload_n C 0 dX4_readText_125 rfl rfl ?_
            refine g_get C (fun _ h => List.mem_cons_of_mem _ (List.mem_append_right _ h)) 0 (MWg_0 K a _) rfl 2 (by decide) (List.mem_of_getElem? (i := 5) rfl) rfl rfl dX4_readText_126 ?_
            refine g_icmp_ge C 139 dX4_readText_129 (by decide) (fun _ => ?_) (fun _ => ?_)
            · exact h_139 σ
            · refine g_aload_n C 0 dX4_readText_132 rfl rfl ?_
              refine g_callVv C (n := 0) (As := []) (rest := []) (fun r h => mX4_readCommand l D K a _ r h) gE.same gX4_readText_X4_readCommand rfl (by decide +kernel) ⟨Nat.le_of_ble_eq_true rfl, Nat.le_of_ble_eq_true rfl, rfl, rfl⟩ 0 (MWg_0 K a _) rfl rfl rfl (Nat.le_of_ble_eq_true rfl) dX4_readText_133 (fun r1 _ => ?_)
              refine g_goto C 114 dX4_readText_136 (by decide) ?_
              exact ih_114 r1
      intro σ v1
      unfold fX4_readText_L58
      refine g_iload_n C 1 dX4_readText_58 rfl rfl ?_
      refine g_iconst C (v := (3 : Int32)) dX4_readText_59 ic_3 ?_
      refine g_icmp_ge C 85 dX4_readText_60 (by decide) (fun _ => ?_) (fun _ => ?_)
      · refine g_aload_n C 0 dX4_readText_85 rfl rfl ?_
        refine g_get C (fun _ h => List.mem_cons_of_mem _ (List.mem_append_right _ h)) 0 (MWg_0 K a _) rfl 6 (by decide) (List.mem_of_getElem? (i := 4) rfl) rfl rfl dX4_readText_86 ?_
        refine g_sipush C (v := (196 : Int32)) dX4_readText_89 (by decide) ?_
        refine g_aload_n C 0 dX4_readText_92 rfl rfl ?_
        refine g_iconst C (v := (1 : Int32)) dX4_readText_93 ic_1 ?_
        refine g_iconst C (v := (3 : Int32)) dX4_readText_94 ic_3 ?_
        refine g_callVi C (n := 2) (As := [.int (1 : Int32), .int (3 : Int32)]) (rest := [.int (196 : Int32), .ref (a 2)]) (fun r h => mX4_digit l D K a _ _ _ r h) gE.same gX4_readText_X4_digit rfl (by decide +kernel) ⟨Nat.le_of_ble_eq_true rfl, Nat.le_of_ble_eq_true rfl, rfl, rfl⟩ 0 (MWg_0 K a _) rfl rfl rfl (Nat.le_of_ble_eq_true rfl) dX4_readText_95 (fun r2 _ => ?_)
        refine g_iast C 2 0 (MWg_2 K a _) rfl (by decide) (MWs_2 K a _ _) dX4_readText_98 ?_
        refine g_state (fun u3 => ?_)
        refine g_aload_n C 0 dX4_readText_99 rfl rfl ?_
        refine g_get C (fun _ h => List.mem_cons_of_mem _ (List.mem_append_right _ h)) 0 (MWg_0 K a _) rfl 6 (by decide) (List.mem_of_getElem? (i := 4) rfl) rfl rfl dX4_readText_100 ?_
        refine g_sipush C (v := (197 : Int32)) dX4_readText_103 (by decide) ?_
        refine g_aload_n C 0 dX4_readText_106 rfl rfl ?_
        refine g_iconst C (v := (0 : Int32)) dX4_readText_107 ic_0 ?_
        refine g_bipush C (v := (9 : Int32)) dX4_readText_108 (by decide) ?_
        refine g_callVi C (n := 2) (As := [.int (0 : Int32), .int (9 : Int32)]) (rest := [.int (197 : Int32), .ref (a 2)]) (fun r h => mX4_digit l D K a _ _ _ r h) gE.same gX4_readText_X4_digit rfl (by decide +kernel) ⟨Nat.le_of_ble_eq_true rfl, Nat.le_of_ble_eq_true rfl, rfl, rfl⟩ 0 (MWg_0 K a _) rfl rfl rfl (Nat.le_of_ble_eq_true rfl) dX4_readText_110 (fun r4 _ => ?_)
        refine g_iast C 2 0 (MWg_2 K a _) rfl (by decide) (MWs_2 K a _ _) dX4_readText_113 ?_
        refine g_state (fun u5 => ?_)
        refine g_sub C (lv' := [(0, .ref (a 0))]) [0] rfl ?_
        exact h_114 gFuel u5
      · refine g_aload_n C 0 dX4_readText_63 rfl rfl ?_
        refine g_get C (fun _ h => List.mem_cons_of_mem _ (List.mem_append_right _ h)) 0 (MWg_0 K a _) rfl 6 (by decide) (List.mem_of_getElem? (i := 4) rfl) rfl rfl dX4_readText_64 ?_
        refine g_iload_n C 1 dX4_readText_67 rfl rfl ?_
        refine g_iconst C (v := (0 : Int32)) dX4_readText_68 ic_0 ?_
        refine g_callSi C (n := 2) (As := [.int v1, .int (0 : Int32)]) (rest := [.ref (a 2)]) (fun r h => mX4_gateAt l D K _ _ r h) gE.nil (τ := ()) gX4_readText_X4_gateAt rfl (by decide +kernel) ⟨Nat.le_of_ble_eq_true rfl, Nat.le_of_ble_eq_true rfl, rfl, rfl⟩ rfl rfl (Nat.le_of_ble_eq_true rfl) dX4_readText_69 (fun r6 _ => ?_)
        refine g_aload_n C 0 dX4_readText_72 rfl rfl ?_
        refine g_bipush C (v := (15 : Int32)) dX4_readText_73 (by decide) ?_
        refine g_callVi C (n := 1) (As := [.int (15 : Int32)]) (rest := [.int r6.1, .ref (a 2)]) (fun r h => mX4_two l D K a _ _ r h) gE.same gX4_readText_X4_two rfl (by decide +kernel) ⟨Nat.le_of_ble_eq_true rfl, Nat.le_of_ble_eq_true rfl, rfl, rfl⟩ 0 (MWg_0 K a _) rfl rfl rfl (Nat.le_of_ble_eq_true rfl) dX4_readText_75 (fun r7 _ => ?_)
        refine g_iastG C 2 0 (MWg_2 K a _) rfl (MWs_2 K a _ _) dX4_readText_78 ?_
        refine g_state (fun u8 => ?_)
        refine g_iinc C (w := (1 : Int32)) (lv' := [(1, .int (v1 + (1 : Int32))), (0, .ref (a 0))]) 1 dX4_readText_79 rfl ic_1 (by decide) rfl ?_
        refine g_goto C 58 dX4_readText_82 (by decide) ?_
        refine g_sub C (lv' := [(0, .ref (a 0)), (1, .int (v1 + (1 : Int32)))]) [1, 0] rfl ?_
        exact ih_58 u8 (v1 + (1 : Int32))
  refine g_aload_n C 0 dX4_readText_0 rfl rfl ?_
  refine g_iconst C (v := (0 : Int32)) dX4_readText_1 ic_0 ?_
  refine g_put C (ty := .int) (fun _ h => List.mem_cons_of_mem _ (List.mem_append_right _ h)) tyX4 tyX4_ok nmX4 0 (MWg_0 K a _) rfl 3 (by decide) (List.mem_of_getElem? (i := 1) rfl) rfl rfl (by decide +kernel) rfl rfl (Nat.le_of_ble_eq_true rfl) (MWp_0_3 K a _ _) dX4_readText_2 ?_
  refine g_state (fun u9 => ?_)
  refine g_aload_n C 0 dX4_readText_5 rfl rfl ?_
  refine g_iconst C (v := (1 : Int32)) dX4_readText_6 ic_1 ?_
  refine g_put C (ty := .boolean) (fun _ h => List.mem_cons_of_mem _ (List.mem_append_right _ h)) tyX4 tyX4_ok nmX4 0 (MWg_0 K a _) rfl 4 (by decide) (List.mem_of_getElem? (i := 2) rfl) rfl rfl (by decide +kernel) rfl rfl (Nat.le_of_ble_eq_true rfl) (MWp_0_4 K a _ _) dX4_readText_7 ?_
  refine g_state (fun u10 => ?_)
  refine g_aload_n C 0 dX4_readText_10 rfl rfl ?_
  refine g_iconst C (v := (0 : Int32)) dX4_readText_11 ic_0 ?_
  refine g_put C (ty := .int) (fun _ h => List.mem_cons_of_mem _ (List.mem_append_right _ h)) tyX4 tyX4_ok nmX4 0 (MWg_0 K a _) rfl 5 (by decide) (List.mem_of_getElem? (i := 3) rfl) rfl rfl (by decide +kernel) rfl rfl (Nat.le_of_ble_eq_true rfl) (MWp_0_5 K a _ _) dX4_readText_12 ?_
  refine g_state (fun u11 => ?_)
  refine g_aload_n C 0 dX4_readText_15 rfl rfl ?_
  refine g_get C (fun _ h => List.mem_cons_of_mem _ (List.mem_append_right _ h)) 0 (MWg_0 K a _) rfl 6 (by decide) (List.mem_of_getElem? (i := 4) rfl) rfl rfl dX4_readText_16 ?_
  refine g_callSv C (n := 1) (As := [.ref (a 2)]) (rest := []) (fun r h => mX4_clean l D K (a 2) _ r h) (MWe_2 D K a _) gX4_readText_X4_clean rfl (by decide +kernel) ⟨Nat.le_of_ble_eq_true rfl, Nat.le_of_ble_eq_true rfl, rfl, rfl⟩ rfl rfl (Nat.le_of_ble_eq_true rfl) dX4_readText_19 (fun r12 _ => ?_)
  refine g_state (fun u13 => ?_)
  refine g_aload_n C 0 dX4_readText_22 rfl rfl ?_
  refine g_aload_n C 0 dX4_readText_23 rfl rfl ?_
  refine g_get C (fun _ h => List.mem_cons_of_mem _ (List.mem_append_right _ h)) 0 (MWg_0 K a _) rfl 3 (by decide) (List.mem_of_getElem? (i := 1) rfl) rfl rfl dX4_readText_24 ?_
  refine g_aload_n C 0 dX4_readText_27 rfl rfl ?_
  refine g_get C (fun _ h => List.mem_cons_of_mem _ (List.mem_append_right _ h)) 0 (MWg_0 K a _) rfl 2 (by decide) (List.mem_of_getElem? (i := 5) rfl) rfl rfl dX4_readText_28 ?_
  refine g_icmp_ge C 52 dX4_readText_31 (by decide) (fun _ => ?_) (fun _ => ?_)
  · refine g_iconst C (v := (0 : Int32)) dX4_readText_52 ic_0 ?_
    refine g_callVv C (n := 1) (As := [.int (0 : Int32)]) (rest := []) (fun r h => mX4_accept l D K a _ _ r h) gE.same gX4_readText_X4_accept rfl (by decide +kernel) ⟨Nat.le_of_ble_eq_true rfl, Nat.le_of_ble_eq_true rfl, rfl, rfl⟩ 0 (MWg_0 K a _) rfl rfl rfl (Nat.le_of_ble_eq_true rfl) dX4_readText_53 (fun r14 _ => ?_)
    refine g_iconst C (v := (0 : Int32)) dX4_readText_56 ic_0 ?_
    refine g_istore_n C (lv' := [(1, .int (0 : Int32)), (0, .ref (a 0))]) dX4_readText_57 rfl (by decide) rfl ?_
    refine g_sub C (lv' := [(0, .ref (a 0)), (1, .int (0 : Int32))]) [1, 0] rfl ?_
    exact h_58 gFuel r14 (0 : Int32)
  · refine g_aload_n C 0 dX4_readText_34 rfl rfl ?_
    refine g_get C (fun _ h => List.mem_cons_of_mem _ (List.mem_append_right _ h)) 0 (MWg_0 K a _) rfl 1 (by decide) (List.mem_of_getElem? (i := 6) rfl) rfl rfl dX4_readText_35 ?_
    refine g_aload_n C 0 dX4_readText_38 rfl rfl ?_
    refine g_get C (fun _ h => List.mem_cons_of_mem _ (List.mem_append_right _ h)) 0 (MWg_0 K a _) rfl 3 (by decide) (List.mem_of_getElem? (i := 1) rfl) rfl rfl dX4_readText_39 ?_
    refine g_ialdG C 1 0 (MWg_1 K a _) rfl dX4_readText_42 ?_
    refine g_bipush C (v := (76 : Int32)) dX4_readText_43 (by decide) ?_
    refine g_icmp_ne C 52 dX4_readText_45 (by decide) (fun _ => ?_) (fun _ => ?_)
    · refine g_iconst C (v := (1 : Int32)) dX4_readText_48 ic_1 ?_
      refine g_goto C 53 dX4_readText_49 (by decide) ?_
      refine g_callVv C (n := 1) (As := [.int (1 : Int32)]) (rest := []) (fun r h => mX4_accept l D K a _ _ r h) gE.same gX4_readText_X4_accept rfl (by decide +kernel) ⟨Nat.le_of_ble_eq_true rfl, Nat.le_of_ble_eq_true rfl, rfl, rfl⟩ 0 (MWg_0 K a _) rfl rfl rfl (Nat.le_of_ble_eq_true rfl) dX4_readText_53 (fun r15 _ => ?_)
      refine g_iconst C (v := (0 : Int32)) dX4_readText_56 ic_0 ?_
      refine g_istore_n C (lv' := [(1, .int (0 : Int32)), (0, .ref (a 0))]) dX4_readText_57 rfl (by decide) rfl ?_
      refine g_sub C (lv' := [(0, .ref (a 0)), (1, .int (0 : Int32))]) [1, 0] rfl ?_
      exact h_58 gFuel r15 (0 : Int32)
    · refine g_iconst C (v := (0 : Int32)) dX4_readText_52 ic_0 ?_
      refine g_callVv C (n := 1) (As := [.int (0 : Int32)]) (rest := []) (fun r h => mX4_accept l D K a _ _ r h) gE.same gX4_readText_X4_accept rfl (by decide +kernel) ⟨Nat.le_of_ble_eq_true rfl, Nat.le_of_ble_eq_true rfl, rfl, rfl⟩ 0 (MWg_0 K a _) rfl rfl rfl (Nat.le_of_ble_eq_true rfl) dX4_readText_53 (fun r16 _ => ?_)
      refine g_iconst C (v := (0 : Int32)) dX4_readText_56 ic_0 ?_
      refine g_istore_n C (lv' := [(1, .int (0 : Int32)), (0, .ref (a 0))]) dX4_readText_57 rfl (by decide) rfl ?_
      refine g_sub C (lv' := [(0, .ref (a 0)), (1, .int (0 : Int32))]) [1, 0] rfl ?_
      exact h_58 gFuel r16 (0 : Int32)
set_option maxHeartbeats 4000000 in
set_option maxRecDepth 100000 in
theorem mX4_errorPosition (l : Launch) (D : va_G) (K : Nat → ClassId) (a : Nat → Nat) (σ : gS) (r : (Int32 × gS)) (hf : fX4_errorPosition σ  = some r) : gMi l yX4_errorPosition wsX4_errorPosition { frames := 8, cells := 0, slots := 0, locals := 181 } D (gT K) (MW K a) [.ref (a 0)] σ r := by
  refine mk_i (nL := 1) (cc := cX4_errorPosition) (by decide) rfl (Nat.le_of_ble_eq_true rfl) rfl rfl hf (fun g C => ?_)
  refine g_sub C (lv' := [(0, .ref (a 0))]) [0] rfl ?_
  unfold fX4_errorPosition
  refine g_aload_n C 0 dX4_errorPosition_0 rfl rfl ?_
  refine g_iconst C (v := (0 : Int32)) dX4_errorPosition_1 ic_0 ?_
  refine g_put C (ty := .int) (fun _ h => List.mem_cons_of_mem _ (List.mem_append_right _ h)) tyX4 tyX4_ok nmX4 0 (MWg_0 K a _) rfl 0 (by decide) (List.mem_of_getElem? (i := 1) rfl) rfl rfl (by decide +kernel) rfl rfl (Nat.le_of_ble_eq_true rfl) (MWp_0_0 K a _ _) dX4_errorPosition_2 ?_
  refine g_state (fun u1 => ?_)
  refine g_aload_n C 0 dX4_errorPosition_5 rfl rfl ?_
  refine g_callVi C (n := 0) (As := []) (rest := []) (fun r h => mX4_readText l D K a _ r h) gE.same gX4_errorPosition_X4_readText rfl (by decide +kernel) ⟨Nat.le_of_ble_eq_true rfl, Nat.le_of_ble_eq_true rfl, rfl, rfl⟩ 0 (MWg_0 K a _) rfl rfl rfl (Nat.le_of_ble_eq_true rfl) dX4_errorPosition_6 (fun r2 _ => ?_)
  exact g_ret C ⟨dX4_errorPosition_9, rfl, rfl⟩
set_option maxHeartbeats 4000000 in
set_option maxRecDepth 100000 in
theorem mX4_load (l : Launch) (D : va_G) (K : Nat → ClassId) (a : Nat → Nat) (σ : gS) (r : (Int32 × gS)) (hf : fX4_load σ  = some r) : gMi l yX4_load wsX4_load { frames := 8, cells := 0, slots := 0, locals := 181 } D (gT K) (MW K a) [.ref (a 0)] σ r := by
  refine mk_i (nL := 1) (cc := cX4_load) (by decide) rfl (Nat.le_of_ble_eq_true rfl) rfl rfl hf (fun g C => ?_)
  refine g_sub C (lv' := [(0, .ref (a 0))]) [0] rfl ?_
  unfold fX4_load
  have h_15 : ∀ (σ : gS) (s1 : Int32), g (fX4_load_L15 σ s1) 15 [(0, .ref (a 0))] [.int s1, .ref (a 0)] σ := by
    intro σ s1
    unfold fX4_load_L15
    refine g_callVi C (n := 1) (As := [.int s1]) (rest := []) (fun r h => mX4_refused l D K a _ _ r h) gE.same gX4_load_X4_refused rfl (by decide +kernel) ⟨Nat.le_of_ble_eq_true rfl, Nat.le_of_ble_eq_true rfl, rfl, rfl⟩ 0 (MWg_0 K a _) rfl rfl rfl (Nat.le_of_ble_eq_true rfl) dX4_load_15 (fun r1 _ => ?_)
    refine g_if_eq C 23 dX4_load_18 (by decide) (fun _ => ?_) (fun _ => ?_)
    · refine g_aload_n C 0 dX4_load_23 rfl rfl ?_
      refine g_get C (fun _ h => List.mem_cons_of_mem _ (List.mem_append_right _ h)) 0 (MWg_0 K a _) rfl 6 (by decide) (List.mem_of_getElem? (i := 1) rfl) rfl rfl dX4_load_24 ?_
      refine g_iconst C (v := (0 : Int32)) dX4_load_27 ic_0 ?_
      refine g_aload_n C 0 dX4_load_28 rfl rfl ?_
      refine g_get C (fun _ h => List.mem_cons_of_mem _ (List.mem_append_right _ h)) 0 (MWg_0 K a _) rfl 7 (by decide) (List.mem_of_getElem? (i := 2) rfl) rfl rfl dX4_load_29 ?_
      refine g_iconst C (v := (0 : Int32)) dX4_load_32 ic_0 ?_
      refine g_sipush C (v := (233 : Int32)) dX4_load_33 (by decide) ?_
      refine g_callSv C (n := 5) (As := [.ref (a 2), .int (0 : Int32), .ref (a 3), .int (0 : Int32), .int (233 : Int32)]) (rest := []) (fun r h => mX4_copy_233_233 l D K (a 2) (a 3) _ _ _ _ r h) (MWc_2_3 D K a _) gX4_load_X4_copy rfl (by decide +kernel) ⟨Nat.le_of_ble_eq_true rfl, Nat.le_of_ble_eq_true rfl, rfl, rfl⟩ rfl rfl (Nat.le_of_ble_eq_true rfl) dX4_load_36 (fun r2 _ => ?_)
      refine g_state (fun u3 => ?_)
      refine g_aload_n C 0 dX4_load_39 rfl rfl ?_
      refine g_iconst C (v := (0 : Int32)) dX4_load_40 ic_0 ?_
      refine g_put C (ty := .int) (fun _ h => List.mem_cons_of_mem _ (List.mem_append_right _ h)) tyX4 tyX4_ok nmX4 0 (MWg_0 K a _) rfl 10 (by decide) (List.mem_of_getElem? (i := 3) rfl) rfl rfl (by decide +kernel) rfl rfl (Nat.le_of_ble_eq_true rfl) (MWp_0_10 K a _ _) dX4_load_41 ?_
      refine g_state (fun u4 => ?_)
      refine g_aload_n C 0 dX4_load_44 rfl rfl ?_
      refine g_get C (fun _ h => List.mem_cons_of_mem _ (List.mem_append_right _ h)) 0 (MWg_0 K a _) rfl 12 (by decide) (List.mem_of_getElem? (i := 4) rfl) rfl rfl dX4_load_45 ?_
      refine g_iconst C (v := (0 : Int32)) dX4_load_48 ic_0 ?_
      refine g_iconst C (v := (0 : Int32)) dX4_load_49 ic_0 ?_
      refine g_zast C 7 1 (MWg_7 K a _) rfl (by decide) (Or.inl rfl) (MWs_7 K a _ _) dX4_load_50 ?_
      refine g_state (fun u5 => ?_)
      refine g_aload_n C 0 dX4_load_51 rfl rfl ?_
      refine g_get C (fun _ h => List.mem_cons_of_mem _ (List.mem_append_right _ h)) 0 (MWg_0 K a _) rfl 12 (by decide) (List.mem_of_getElem? (i := 4) rfl) rfl rfl dX4_load_52 ?_
      refine g_iconst C (v := (1 : Int32)) dX4_load_55 ic_1 ?_
      refine g_iconst C (v := (0 : Int32)) dX4_load_56 ic_0 ?_
      refine g_zast C 7 1 (MWg_7 K a _) rfl (by decide) (Or.inl rfl) (MWs_7 K a _ _) dX4_load_57 ?_
      refine g_state (fun u6 => ?_)
      refine g_aload_n C 0 dX4_load_58 rfl rfl ?_
      refine g_get C (fun _ h => List.mem_cons_of_mem _ (List.mem_append_right _ h)) 0 (MWg_0 K a _) rfl 5 (by decide) (List.mem_of_getElem? (i := 5) rfl) rfl rfl dX4_load_59 ?_
      exact g_ret C ⟨dX4_load_62, rfl, rfl⟩
    · refine g_iconst C (v := (0 : Int32)) dX4_load_21 ic_0 ?_
      exact g_ret C ⟨dX4_load_22, rfl, rfl⟩
  refine g_aload_n C 0 dX4_load_0 rfl rfl ?_
  refine g_aload_n C 0 dX4_load_1 rfl rfl ?_
  refine g_callVi C (n := 0) (As := []) (rest := [.ref (a 0)]) (fun r h => mX4_readText l D K a _ r h) gE.same gX4_load_X4_readText rfl (by decide +kernel) ⟨Nat.le_of_ble_eq_true rfl, Nat.le_of_ble_eq_true rfl, rfl, rfl⟩ 0 (MWg_0 K a _) rfl rfl rfl (Nat.le_of_ble_eq_true rfl) dX4_load_2 (fun r7 _ => ?_)
  refine g_bipush C (v := (-9 : Int32)) dX4_load_5 (by decide) ?_
  refine g_icmp_ne C 14 dX4_load_7 (by decide) (fun _ => ?_) (fun _ => ?_)
  · refine g_iconst C (v := (0 : Int32)) dX4_load_10 ic_0 ?_
    refine g_goto C 15 dX4_load_11 (by decide) ?_
    exact h_15 r7.2 (0 : Int32)
  · refine g_iconst C (v := (1 : Int32)) dX4_load_14 ic_1 ?_
    exact h_15 r7.2 (1 : Int32)
set_option maxHeartbeats 4000000 in
set_option maxRecDepth 100000 in
theorem mX4_visitorsAt (l : Launch) (D : va_G) (K : Nat → ClassId) (a : Nat → Nat) (σ : gS) (p1 : Int32) (r : (Int32 × gS)) (hf : fX4_visitorsAt σ p1 = some r) : gMi l yX4_visitorsAt wsX4_visitorsAt { frames := 1, cells := 0, slots := 0, locals := 21 } D (gT K) (MW K a) [.ref (a 0), .int p1] σ r := by
  refine mk_i (nL := 4) (cc := cX4_visitorsAt) (by decide) rfl (Nat.le_of_ble_eq_true rfl) rfl rfl hf (fun g C => ?_)
  refine g_sub C (lv' := [(0, .ref (a 0)), (1, .int p1)]) [0, 1] rfl ?_
  unfold fX4_visitorsAt
  have h_4 : ∀ (n : Nat) (σ : gS) (v1 : Int32) (v2 : Int32) (v3 : Int32), g (fX4_visitorsAt_L4 n σ v1 v2 v3) 4 [(0, .ref (a 0)), (1, .int v1), (2, .int v2), (3, .int v3)] [] σ := by
    intro n
    induction n with
    | zero =>
      intro σ v1 v2 v3
      exact g_none C
    | succ n4 ih_4 =>
      intro σ v1 v2 v3
      unfold fX4_visitorsAt_L4
      refine g_iload_n C 3 dX4_visitorsAt_4 rfl rfl ?_
      refine g_bipush C (v := (6 : Int32)) dX4_visitorsAt_5 (by decide) ?_
      refine g_icmp_ge C 38 dX4_visitorsAt_7 (by decide) (fun _ => ?_) (fun _ => ?_)
      · refine g_iload_n C 2 dX4_visitorsAt_38 rfl rfl ?_
        exact g_ret C ⟨dX4_visitorsAt_39, rfl, rfl⟩
      · refine g_iload_n C 2 dX4_visitorsAt_10 rfl rfl ?_
        refine g_aload_n C 0 dX4_visitorsAt_11 rfl rfl ?_
        refine g_get C (fun _ h => List.mem_cons_of_mem _ (List.mem_append_right _ h)) 0 (MWg_0 K a _) rfl 7 (by decide) (List.mem_of_getElem? (i := 1) rfl) rfl rfl dX4_visitorsAt_12 ?_
        refine g_iload_n C 3 dX4_visitorsAt_15 rfl rfl ?_
        refine g_iconst C (v := (0 : Int32)) dX4_visitorsAt_16 ic_0 ?_
        refine g_callSi C (n := 2) (As := [.int v3, .int (0 : Int32)]) (rest := [.ref (a 3), .int v2]) (fun r h => mX4_visitorAt l D K _ _ r h) gE.nil (τ := ()) gX4_visitorsAt_X4_visitorAt rfl (by decide +kernel) ⟨Nat.le_of_ble_eq_true rfl, Nat.le_of_ble_eq_true rfl, rfl, rfl⟩ rfl rfl (Nat.le_of_ble_eq_true rfl) dX4_visitorsAt_17 (fun r1 _ => ?_)
        refine g_ialdG C 3 0 (MWg_3 K a _) rfl dX4_visitorsAt_20 ?_
        refine g_iload_n C 1 dX4_visitorsAt_21 rfl rfl ?_
        refine g_icmp_ne C 29 dX4_visitorsAt_22 (by decide) (fun _ => ?_) (fun _ => ?_)
        · refine g_iconst C (v := (1 : Int32)) dX4_visitorsAt_25 ic_1 ?_
          refine g_goto C 30 dX4_visitorsAt_26 (by decide) ?_
          refine g_iadd C dX4_visitorsAt_30 ?_
          refine g_topi (fun t2 => ?_)
          refine g_istore_n C (lv' := [(2, .int t2), (0, .ref (a 0)), (1, .int v1), (3, .int v3)]) dX4_visitorsAt_31 rfl (by decide) rfl ?_
          refine g_iinc C (w := (1 : Int32)) (lv' := [(3, .int (v3 + (1 : Int32))), (2, .int t2), (0, .ref (a 0)), (1, .int v1)]) 3 dX4_visitorsAt_32 rfl ic_1 (by decide) rfl ?_
          refine g_goto C 4 dX4_visitorsAt_35 (by decide) ?_
          refine g_sub C (lv' := [(0, .ref (a 0)), (1, .int v1), (2, .int t2), (3, .int (v3 + (1 : Int32)))]) [2, 3, 1, 0] rfl ?_
          exact ih_4 σ v1 t2 (v3 + (1 : Int32))
        · refine g_iconst C (v := (0 : Int32)) dX4_visitorsAt_29 ic_0 ?_
          refine g_iadd C dX4_visitorsAt_30 ?_
          refine g_topi (fun t3 => ?_)
          refine g_istore_n C (lv' := [(2, .int t3), (0, .ref (a 0)), (1, .int v1), (3, .int v3)]) dX4_visitorsAt_31 rfl (by decide) rfl ?_
          refine g_iinc C (w := (1 : Int32)) (lv' := [(3, .int (v3 + (1 : Int32))), (2, .int t3), (0, .ref (a 0)), (1, .int v1)]) 3 dX4_visitorsAt_32 rfl ic_1 (by decide) rfl ?_
          refine g_goto C 4 dX4_visitorsAt_35 (by decide) ?_
          refine g_sub C (lv' := [(0, .ref (a 0)), (1, .int v1), (2, .int t3), (3, .int (v3 + (1 : Int32)))]) [2, 3, 1, 0] rfl ?_
          exact ih_4 σ v1 t3 (v3 + (1 : Int32))
  refine g_iconst C (v := (0 : Int32)) dX4_visitorsAt_0 ic_0 ?_
  refine g_istore_n C (lv' := [(2, .int (0 : Int32)), (0, .ref (a 0)), (1, .int p1)]) dX4_visitorsAt_1 rfl (by decide) rfl ?_
  refine g_iconst C (v := (0 : Int32)) dX4_visitorsAt_2 ic_0 ?_
  refine g_istore_n C (lv' := [(3, .int (0 : Int32)), (2, .int (0 : Int32)), (0, .ref (a 0)), (1, .int p1)]) dX4_visitorsAt_3 rfl (by decide) rfl ?_
  refine g_sub C (lv' := [(0, .ref (a 0)), (1, .int p1), (2, .int (0 : Int32)), (3, .int (0 : Int32))]) [2, 3, 1, 0] rfl ?_
  exact h_4 gFuel σ p1 (0 : Int32) (0 : Int32)
set_option maxHeartbeats 4000000 in
set_option maxRecDepth 100000 in
theorem mX4_waiting (l : Launch) (D : va_G) (K : Nat → ClassId) (a : Nat → Nat) (σ : gS) (r : (Int32 × gS)) (hf : fX4_waiting σ  = some r) : gMi l yX4_waiting wsX4_waiting { frames := 1, cells := 0, slots := 0, locals := 21 } D (gT K) (MW K a) [.ref (a 0)] σ r := by
  refine mk_i (nL := 3) (cc := cX4_waiting) (by decide) rfl (Nat.le_of_ble_eq_true rfl) rfl rfl hf (fun g C => ?_)
  refine g_sub C (lv' := [(0, .ref (a 0))]) [0] rfl ?_
  unfold fX4_waiting
  have h_4 : ∀ (n : Nat) (σ : gS) (v1 : Int32) (v2 : Int32), g (fX4_waiting_L4 n σ v1 v2) 4 [(0, .ref (a 0)), (1, .int v1), (2, .int v2)] [] σ := by
    intro n
    induction n with
    | zero =>
      intro σ v1 v2
      exact g_none C
    | succ n4 ih_4 =>
      intro σ v1 v2
      unfold fX4_waiting_L4
      refine g_iload_n C 2 dX4_waiting_4 rfl rfl ?_
      refine g_iconst C (v := (3 : Int32)) dX4_waiting_5 ic_3 ?_
      refine g_icmp_ge C 28 dX4_waiting_6 (by decide) (fun _ => ?_) (fun _ => ?_)
      · refine g_iload_n C 1 dX4_waiting_28 rfl rfl ?_
        exact g_ret C ⟨dX4_waiting_29, rfl, rfl⟩
      · refine g_iload_n C 1 dX4_waiting_9 rfl rfl ?_
        refine g_aload_n C 0 dX4_waiting_10 rfl rfl ?_
        refine g_get C (fun _ h => List.mem_cons_of_mem _ (List.mem_append_right _ h)) 0 (MWg_0 K a _) rfl 7 (by decide) (List.mem_of_getElem? (i := 1) rfl) rfl rfl dX4_waiting_11 ?_
        refine g_iload_n C 2 dX4_waiting_14 rfl rfl ?_
        refine g_iconst C (v := (2 : Int32)) dX4_waiting_15 ic_2 ?_
        refine g_callSi C (n := 2) (As := [.int v2, .int (2 : Int32)]) (rest := [.ref (a 3), .int v1]) (fun r h => mX4_gateAt l D K _ _ r h) gE.nil (τ := ()) gX4_waiting_X4_gateAt rfl (by decide +kernel) ⟨Nat.le_of_ble_eq_true rfl, Nat.le_of_ble_eq_true rfl, rfl, rfl⟩ rfl rfl (Nat.le_of_ble_eq_true rfl) dX4_waiting_16 (fun r1 _ => ?_)
        refine g_ialdG C 3 0 (MWg_3 K a _) rfl dX4_waiting_19 ?_
        refine g_iadd C dX4_waiting_20 ?_
        refine g_topi (fun t2 => ?_)
        refine g_istore_n C (lv' := [(1, .int t2), (0, .ref (a 0)), (2, .int v2)]) dX4_waiting_21 rfl (by decide) rfl ?_
        refine g_iinc C (w := (1 : Int32)) (lv' := [(2, .int (v2 + (1 : Int32))), (1, .int t2), (0, .ref (a 0))]) 2 dX4_waiting_22 rfl ic_1 (by decide) rfl ?_
        refine g_goto C 4 dX4_waiting_25 (by decide) ?_
        refine g_sub C (lv' := [(0, .ref (a 0)), (1, .int t2), (2, .int (v2 + (1 : Int32)))]) [2, 1, 0] rfl ?_
        exact ih_4 σ t2 (v2 + (1 : Int32))
  refine g_iconst C (v := (0 : Int32)) dX4_waiting_0 ic_0 ?_
  refine g_istore_n C (lv' := [(1, .int (0 : Int32)), (0, .ref (a 0))]) dX4_waiting_1 rfl (by decide) rfl ?_
  refine g_iconst C (v := (0 : Int32)) dX4_waiting_2 ic_0 ?_
  refine g_istore_n C (lv' := [(2, .int (0 : Int32)), (1, .int (0 : Int32)), (0, .ref (a 0))]) dX4_waiting_3 rfl (by decide) rfl ?_
  refine g_sub C (lv' := [(0, .ref (a 0)), (1, .int (0 : Int32)), (2, .int (0 : Int32))]) [2, 1, 0] rfl ?_
  exact h_4 gFuel σ (0 : Int32) (0 : Int32)
set_option maxHeartbeats 4000000 in
set_option maxRecDepth 100000 in
theorem mX4_inBags (l : Launch) (D : va_G) (K : Nat → ClassId) (a : Nat → Nat) (σ : gS) (r : (Int32 × gS)) (hf : fX4_inBags σ  = some r) : gMi l yX4_inBags wsX4_inBags { frames := 2, cells := 0, slots := 0, locals := 44 } D (gT K) (MW K a) [.ref (a 0)] σ r := by
  refine mk_i (nL := 3) (cc := cX4_inBags) (by decide) rfl (Nat.le_of_ble_eq_true rfl) rfl rfl hf (fun g C => ?_)
  refine g_sub C (lv' := [(0, .ref (a 0))]) [0] rfl ?_
  unfold fX4_inBags
  have h_4 : ∀ (n : Nat) (σ : gS) (v1 : Int32) (v2 : Int32), g (fX4_inBags_L4 n σ v1 v2) 4 [(0, .ref (a 0)), (1, .int v1), (2, .int v2)] [] σ := by
    intro n
    induction n with
    | zero =>
      intro σ v1 v2
      exact g_none C
    | succ n4 ih_4 =>
      intro σ v1 v2
      unfold fX4_inBags_L4
      refine g_iload_n C 2 dX4_inBags_4 rfl rfl ?_
      refine g_bipush C (v := (6 : Int32)) dX4_inBags_5 (by decide) ?_
      refine g_icmp_ge C 27 dX4_inBags_7 (by decide) (fun _ => ?_) (fun _ => ?_)
      · refine g_iload_n C 1 dX4_inBags_27 rfl rfl ?_
        exact g_ret C ⟨dX4_inBags_28, rfl, rfl⟩
      · refine g_iload_n C 1 dX4_inBags_10 rfl rfl ?_
        refine g_aload_n C 0 dX4_inBags_11 rfl rfl ?_
        refine g_get C (fun _ h => List.mem_cons_of_mem _ (List.mem_append_right _ h)) 0 (MWg_0 K a _) rfl 7 (by decide) (List.mem_of_getElem? (i := 1) rfl) rfl rfl dX4_inBags_12 ?_
        refine g_iload_n C 2 dX4_inBags_15 rfl rfl ?_
        refine g_callSi C (n := 2) (As := [.ref (a 3), .int v2]) (rest := [.int v1]) (fun r h => mX4_bag l D K (a 3) _ _ r h) (MWe_3 D K a _) gX4_inBags_X4_bag rfl (by decide +kernel) ⟨Nat.le_of_ble_eq_true rfl, Nat.le_of_ble_eq_true rfl, rfl, rfl⟩ rfl rfl (Nat.le_of_ble_eq_true rfl) dX4_inBags_16 (fun r1 _ => ?_)
        refine g_state (fun u2 => ?_)
        refine g_iadd C dX4_inBags_19 ?_
        refine g_topi (fun t3 => ?_)
        refine g_istore_n C (lv' := [(1, .int t3), (0, .ref (a 0)), (2, .int v2)]) dX4_inBags_20 rfl (by decide) rfl ?_
        refine g_iinc C (w := (1 : Int32)) (lv' := [(2, .int (v2 + (1 : Int32))), (1, .int t3), (0, .ref (a 0))]) 2 dX4_inBags_21 rfl ic_1 (by decide) rfl ?_
        refine g_goto C 4 dX4_inBags_24 (by decide) ?_
        refine g_sub C (lv' := [(0, .ref (a 0)), (1, .int t3), (2, .int (v2 + (1 : Int32)))]) [2, 1, 0] rfl ?_
        exact ih_4 u2 t3 (v2 + (1 : Int32))
  refine g_iconst C (v := (0 : Int32)) dX4_inBags_0 ic_0 ?_
  refine g_istore_n C (lv' := [(1, .int (0 : Int32)), (0, .ref (a 0))]) dX4_inBags_1 rfl (by decide) rfl ?_
  refine g_iconst C (v := (0 : Int32)) dX4_inBags_2 ic_0 ?_
  refine g_istore_n C (lv' := [(2, .int (0 : Int32)), (1, .int (0 : Int32)), (0, .ref (a 0))]) dX4_inBags_3 rfl (by decide) rfl ?_
  refine g_sub C (lv' := [(0, .ref (a 0)), (1, .int (0 : Int32)), (2, .int (0 : Int32))]) [2, 1, 0] rfl ?_
  exact h_4 gFuel σ (0 : Int32) (0 : Int32)
set_option maxHeartbeats 4000000 in
set_option maxRecDepth 100000 in
theorem mX4_about (l : Launch) (D : va_G) (K : Nat → ClassId) (a : Nat → Nat) (σ : gS) (p1 : Int32) (r : (Int32 × gS)) (hf : fX4_about σ p1 = some r) : gMi l yX4_about wsX4_about { frames := 3, cells := 0, slots := 0, locals := 66 } D (gT K) (MW K a) [.ref (a 0), .int p1] σ r := by
  refine mk_i (nL := 2) (cc := cX4_about) (by decide) rfl (Nat.le_of_ble_eq_true rfl) rfl rfl hf (fun g C => ?_)
  refine g_sub C (lv' := [(0, .ref (a 0)), (1, .int p1)]) [0, 1] rfl ?_
  unfold fX4_about
  have h_18 : ∀ (σ : gS) (v1 : Int32) (s1 : Int32), g (fX4_about_L18 σ v1 s1) 18 [(0, .ref (a 0)), (1, .int v1)] [.int s1, .ref (a 0)] σ := by
    intro σ v1 s1
    unfold fX4_about_L18
    refine g_callVi C (n := 1) (As := [.int s1]) (rest := []) (fun r h => mX4_refused l D K a _ _ r h) gE.same gX4_about_X4_refused rfl (by decide +kernel) ⟨Nat.le_of_ble_eq_true rfl, Nat.le_of_ble_eq_true rfl, rfl, rfl⟩ 0 (MWg_0 K a _) rfl rfl rfl (Nat.le_of_ble_eq_true rfl) dX4_about_18 (fun r1 _ => ?_)
    refine g_if_eq C 26 dX4_about_21 (by decide) (fun _ => ?_) (fun _ => ?_)
    · refine g_iload_n C 1 dX4_about_26 rfl rfl ?_
      refine g_tcase C 80 (0 : Int32) dX4_about_27 (by decide) (by decide) rfl (by decide) (fun _ => ?_) (fun h2 => ?_)
      · refine g_aload_n C 0 dX4_about_80 rfl rfl ?_
        refine g_get C (fun _ h => List.mem_cons_of_mem _ (List.mem_append_right _ h)) 0 (MWg_0 K a _) rfl 7 (by decide) (List.mem_of_getElem? (i := 2) rfl) rfl rfl dX4_about_81 ?_
        refine g_sipush C (v := (198 : Int32)) dX4_about_84 (by decide) ?_
        refine g_iald C 3 0 (MWg_3 K a _) rfl (by decide) dX4_about_87 ?_
        exact g_ret C ⟨dX4_about_88, rfl, rfl⟩
      refine g_tcase C 89 (1 : Int32) dX4_about_27 (by decide) (by decide) rfl (by decide) (fun _ => ?_) (fun h3 => ?_)
      · refine g_aload_n C 0 dX4_about_89 rfl rfl ?_
        refine g_get C (fun _ h => List.mem_cons_of_mem _ (List.mem_append_right _ h)) 0 (MWg_0 K a _) rfl 7 (by decide) (List.mem_of_getElem? (i := 2) rfl) rfl rfl dX4_about_90 ?_
        refine g_sipush C (v := (199 : Int32)) dX4_about_93 (by decide) ?_
        refine g_iald C 3 0 (MWg_3 K a _) rfl (by decide) dX4_about_96 ?_
        exact g_ret C ⟨dX4_about_97, rfl, rfl⟩
      refine g_tcase C 98 (2 : Int32) dX4_about_27 (by decide) (by decide) rfl (by decide) (fun _ => ?_) (fun h4 => ?_)
      · refine g_aload_n C 0 dX4_about_98 rfl rfl ?_
        refine g_callVi C (n := 0) (As := []) (rest := []) (fun r h => mX4_waiting l D K a _ r h) gE.same gX4_about_X4_waiting rfl (by decide +kernel) ⟨Nat.le_of_ble_eq_true rfl, Nat.le_of_ble_eq_true rfl, rfl, rfl⟩ 0 (MWg_0 K a _) rfl rfl rfl (Nat.le_of_ble_eq_true rfl) dX4_about_99 (fun r5 _ => ?_)
        exact g_ret C ⟨dX4_about_102, rfl, rfl⟩
      refine g_tcase C 103 (3 : Int32) dX4_about_27 (by decide) (by decide) rfl (by decide) (fun _ => ?_) (fun h6 => ?_)
      · refine g_aload_n C 0 dX4_about_103 rfl rfl ?_
        refine g_get C (fun _ h => List.mem_cons_of_mem _ (List.mem_append_right _ h)) 0 (MWg_0 K a _) rfl 7 (by decide) (List.mem_of_getElem? (i := 2) rfl) rfl rfl dX4_about_104 ?_
        refine g_sipush C (v := (200 : Int32)) dX4_about_107 (by decide) ?_
        refine g_iald C 3 0 (MWg_3 K a _) rfl (by decide) dX4_about_110 ?_
        exact g_ret C ⟨dX4_about_111, rfl, rfl⟩
      refine g_tcase C 112 (4 : Int32) dX4_about_27 (by decide) (by decide) rfl (by decide) (fun _ => ?_) (fun h7 => ?_)
      · refine g_aload_n C 0 dX4_about_112 rfl rfl ?_
        refine g_get C (fun _ h => List.mem_cons_of_mem _ (List.mem_append_right _ h)) 0 (MWg_0 K a _) rfl 7 (by decide) (List.mem_of_getElem? (i := 2) rfl) rfl rfl dX4_about_113 ?_
        refine g_sipush C (v := (201 : Int32)) dX4_about_116 (by decide) ?_
        refine g_iald C 3 0 (MWg_3 K a _) rfl (by decide) dX4_about_119 ?_
        exact g_ret C ⟨dX4_about_120, rfl, rfl⟩
      refine g_tcase C 121 (5 : Int32) dX4_about_27 (by decide) (by decide) rfl (by decide) (fun _ => ?_) (fun h8 => ?_)
      · refine g_aload_n C 0 dX4_about_121 rfl rfl ?_
        refine g_get C (fun _ h => List.mem_cons_of_mem _ (List.mem_append_right _ h)) 0 (MWg_0 K a _) rfl 7 (by decide) (List.mem_of_getElem? (i := 2) rfl) rfl rfl dX4_about_122 ?_
        refine g_callSi C (n := 1) (As := [.ref (a 3)]) (rest := []) (fun r h => mX4_borrowed l D K (a 3) _ r h) (MWe_3 D K a _) gX4_about_X4_borrowed rfl (by decide +kernel) ⟨Nat.le_of_ble_eq_true rfl, Nat.le_of_ble_eq_true rfl, rfl, rfl⟩ rfl rfl (Nat.le_of_ble_eq_true rfl) dX4_about_125 (fun r9 _ => ?_)
        refine g_state (fun u10 => ?_)
        exact g_ret C ⟨dX4_about_128, rfl, rfl⟩
      refine g_tcase C 129 (6 : Int32) dX4_about_27 (by decide) (by decide) rfl (by decide) (fun _ => ?_) (fun h11 => ?_)
      · refine g_aload_n C 0 dX4_about_129 rfl rfl ?_
        refine g_callVi C (n := 0) (As := []) (rest := []) (fun r h => mX4_inBags l D K a _ r h) gE.same gX4_about_X4_inBags rfl (by decide +kernel) ⟨Nat.le_of_ble_eq_true rfl, Nat.le_of_ble_eq_true rfl, rfl, rfl⟩ 0 (MWg_0 K a _) rfl rfl rfl (Nat.le_of_ble_eq_true rfl) dX4_about_130 (fun r12 _ => ?_)
        exact g_ret C ⟨dX4_about_133, rfl, rfl⟩
      refine g_tcase C 134 (7 : Int32) dX4_about_27 (by decide) (by decide) rfl (by decide) (fun _ => ?_) (fun h13 => ?_)
      · refine g_aload_n C 0 dX4_about_134 rfl rfl ?_
        refine g_iconst C (v := (1 : Int32)) dX4_about_135 ic_1 ?_
        refine g_callVi C (n := 1) (As := [.int (1 : Int32)]) (rest := []) (fun r h => mX4_visitorsAt l D K a _ _ r h) gE.same gX4_about_X4_visitorsAt rfl (by decide +kernel) ⟨Nat.le_of_ble_eq_true rfl, Nat.le_of_ble_eq_true rfl, rfl, rfl⟩ 0 (MWg_0 K a _) rfl rfl rfl (Nat.le_of_ble_eq_true rfl) dX4_about_136 (fun r14 _ => ?_)
        exact g_ret C ⟨dX4_about_139, rfl, rfl⟩
      refine g_tcase C 140 (8 : Int32) dX4_about_27 (by decide) (by decide) rfl (by decide) (fun _ => ?_) (fun h15 => ?_)
      · refine g_aload_n C 0 dX4_about_140 rfl rfl ?_
        refine g_iconst C (v := (2 : Int32)) dX4_about_141 ic_2 ?_
        refine g_callVi C (n := 1) (As := [.int (2 : Int32)]) (rest := []) (fun r h => mX4_visitorsAt l D K a _ _ r h) gE.same gX4_about_X4_visitorsAt rfl (by decide +kernel) ⟨Nat.le_of_ble_eq_true rfl, Nat.le_of_ble_eq_true rfl, rfl, rfl⟩ 0 (MWg_0 K a _) rfl rfl rfl (Nat.le_of_ble_eq_true rfl) dX4_about_142 (fun r16 _ => ?_)
        exact g_ret C ⟨dX4_about_145, rfl, rfl⟩
      refine g_tcase C 146 (9 : Int32) dX4_about_27 (by decide) (by decide) rfl (by decide) (fun _ => ?_) (fun h17 => ?_)
      · refine g_aload_n C 0 dX4_about_146 rfl rfl ?_
        refine g_get C (fun _ h => List.mem_cons_of_mem _ (List.mem_append_right _ h)) 0 (MWg_0 K a _) rfl 7 (by decide) (List.mem_of_getElem? (i := 2) rfl) rfl rfl dX4_about_147 ?_
        refine g_sipush C (v := (196 : Int32)) dX4_about_150 (by decide) ?_
        refine g_iald C 3 0 (MWg_3 K a _) rfl (by decide) dX4_about_153 ?_
        exact g_ret C ⟨dX4_about_154, rfl, rfl⟩
      refine g_tdef2 C 155 [0, 1, 2, 3, 4, 5, 6, 7, 8, 9] dX4_about_27 (List.forall_mem_cons.mpr ⟨i32nz h2 (by decide), (List.forall_mem_cons.mpr ⟨i32nz h3 (by decide), (List.forall_mem_cons.mpr ⟨i32nz h4 (by decide), (List.forall_mem_cons.mpr ⟨i32nz h6 (by decide), (List.forall_mem_cons.mpr ⟨i32nz h7 (by decide), (List.forall_mem_cons.mpr ⟨i32nz h8 (by decide), (List.forall_mem_cons.mpr ⟨i32nz h11 (by decide), (List.forall_mem_cons.mpr ⟨i32nz h13 (by decide), (List.forall_mem_cons.mpr ⟨i32nz h15 (by decide), (List.forall_mem_cons.mpr ⟨i32nz h17 (by decide), (fun _ h9 => absurd h9 List.not_mem_nil)⟩)⟩)⟩)⟩)⟩)⟩)⟩)⟩)⟩)⟩) (by decide) (by decide) (by decide) ?_
      refine g_aload_n C 0 dX4_about_155 rfl rfl ?_
      refine g_get C (fun _ h => List.mem_cons_of_mem _ (List.mem_append_right _ h)) 0 (MWg_0 K a _) rfl 7 (by decide) (List.mem_of_getElem? (i := 2) rfl) rfl rfl dX4_about_156 ?_
      refine g_sipush C (v := (197 : Int32)) dX4_about_159 (by decide) ?_
      refine g_iald C 3 0 (MWg_3 K a _) rfl (by decide) dX4_about_162 ?_
      exact g_ret C ⟨dX4_about_163, rfl, rfl⟩
    · refine g_iconst C (v := (0 : Int32)) dX4_about_24 ic_0 ?_
      exact g_ret C ⟨dX4_about_25, rfl, rfl⟩
  refine g_aload_n C 0 dX4_about_0 rfl rfl ?_
  refine g_iload_n C 1 dX4_about_1 rfl rfl ?_
  refine g_i2l C dX4_about_2 ?_
  refine g_lconst C (v := (0 : Int64)) dX4_about_3 (by decide) ?_
  refine g_ldc2 C (v := (10 : Int64)) (List.mem_of_getElem? (i := 1) rfl) dX4_about_4 ?_
  refine g_callSi C (n := 3) (As := [.long (p1).toInt64, .long (0 : Int64), .long (10 : Int64)]) (rest := [.ref (a 0)]) (fun r h => mX4_in l D K _ _ _ r h) gE.nil (τ := ()) gX4_about_X4_in rfl (by decide +kernel) ⟨Nat.le_of_ble_eq_true rfl, Nat.le_of_ble_eq_true rfl, rfl, rfl⟩ rfl rfl (Nat.le_of_ble_eq_true rfl) dX4_about_7 (fun r18 _ => ?_)
  refine g_if_eq C 17 dX4_about_10 (by decide) (fun _ => ?_) (fun _ => ?_)
  · refine g_iconst C (v := (1 : Int32)) dX4_about_17 ic_1 ?_
    exact h_18 σ p1 (1 : Int32)
  · refine g_iconst C (v := (0 : Int32)) dX4_about_13 ic_0 ?_
    refine g_goto C 18 dX4_about_14 (by decide) ?_
    exact h_18 σ p1 (0 : Int32)
set_option maxHeartbeats 4000000 in
set_option maxRecDepth 100000 in
theorem mX4_isBook (l : Launch) (D : va_G) (K : Nat → ClassId) (p0 : Int32) (r : (Int32 × Unit)) (hf : fX4_isBook p0 = some r) : gMi l yX4_isBook wsX4_isBook { frames := 1, cells := 0, slots := 0, locals := 25 } D (gT K) (fun _ : Unit => []) [.int p0] () r := by
  refine mk_z (nL := 1) (cc := cX4_isBook) (by decide) rfl (Nat.le_of_ble_eq_true rfl) rfl rfl hf (fun g C => ?_)
  refine g_sub C (lv' := [(0, .int p0)]) [0] rfl ?_
  unfold fX4_isBook
  refine g_iload_n C 0 dX4_isBook_0 rfl rfl ?_
  refine g_i2l C dX4_isBook_1 ?_
  refine g_lconst C (v := (0 : Int64)) dX4_isBook_2 (by decide) ?_
  refine g_ldc2 C (v := (19 : Int64)) (List.mem_of_getElem? (i := 1) rfl) dX4_isBook_3 ?_
  refine g_callSi C (n := 3) (As := [.long (p0).toInt64, .long (0 : Int64), .long (19 : Int64)]) (rest := []) (fun r h => mX4_in l D K _ _ _ r h) gE.nil (τ := ()) gX4_isBook_X4_in rfl (by decide +kernel) ⟨Nat.le_of_ble_eq_true rfl, Nat.le_of_ble_eq_true rfl, rfl, rfl⟩ rfl rfl (Nat.le_of_ble_eq_true rfl) dX4_isBook_6 (fun r1 _ => ?_)
  refine g_bool C (fun h9 => ?_)
  exact g_ret C ⟨dX4_isBook_9, rfl, rfl, h9⟩
set_option maxHeartbeats 4000000 in
set_option maxRecDepth 100000 in
theorem mX4_isVisitor (l : Launch) (D : va_G) (K : Nat → ClassId) (p0 : Int32) (r : (Int32 × Unit)) (hf : fX4_isVisitor p0 = some r) : gMi l yX4_isVisitor wsX4_isVisitor { frames := 1, cells := 0, slots := 0, locals := 25 } D (gT K) (fun _ : Unit => []) [.int p0] () r := by
  refine mk_z (nL := 1) (cc := cX4_isVisitor) (by decide) rfl (Nat.le_of_ble_eq_true rfl) rfl rfl hf (fun g C => ?_)
  refine g_sub C (lv' := [(0, .int p0)]) [0] rfl ?_
  unfold fX4_isVisitor
  refine g_iload_n C 0 dX4_isVisitor_0 rfl rfl ?_
  refine g_i2l C dX4_isVisitor_1 ?_
  refine g_lconst C (v := (0 : Int64)) dX4_isVisitor_2 (by decide) ?_
  refine g_ldc2 C (v := (5 : Int64)) (List.mem_of_getElem? (i := 1) rfl) dX4_isVisitor_3 ?_
  refine g_callSi C (n := 3) (As := [.long (p0).toInt64, .long (0 : Int64), .long (5 : Int64)]) (rest := []) (fun r h => mX4_in l D K _ _ _ r h) gE.nil (τ := ()) gX4_isVisitor_X4_in rfl (by decide +kernel) ⟨Nat.le_of_ble_eq_true rfl, Nat.le_of_ble_eq_true rfl, rfl, rfl⟩ rfl rfl (Nat.le_of_ble_eq_true rfl) dX4_isVisitor_6 (fun r1 _ => ?_)
  refine g_bool C (fun h9 => ?_)
  exact g_ret C ⟨dX4_isVisitor_9, rfl, rfl, h9⟩
set_option maxHeartbeats 4000000 in
set_option maxRecDepth 100000 in
theorem mX4_isGate (l : Launch) (D : va_G) (K : Nat → ClassId) (p0 : Int32) (r : (Int32 × Unit)) (hf : fX4_isGate p0 = some r) : gMi l yX4_isGate wsX4_isGate { frames := 1, cells := 0, slots := 0, locals := 25 } D (gT K) (fun _ : Unit => []) [.int p0] () r := by
  refine mk_z (nL := 1) (cc := cX4_isGate) (by decide) rfl (Nat.le_of_ble_eq_true rfl) rfl rfl hf (fun g C => ?_)
  refine g_sub C (lv' := [(0, .int p0)]) [0] rfl ?_
  unfold fX4_isGate
  refine g_iload_n C 0 dX4_isGate_0 rfl rfl ?_
  refine g_i2l C dX4_isGate_1 ?_
  refine g_lconst C (v := (0 : Int64)) dX4_isGate_2 (by decide) ?_
  refine g_ldc2 C (v := (2 : Int64)) (List.mem_of_getElem? (i := 1) rfl) dX4_isGate_3 ?_
  refine g_callSi C (n := 3) (As := [.long (p0).toInt64, .long (0 : Int64), .long (2 : Int64)]) (rest := []) (fun r h => mX4_in l D K _ _ _ r h) gE.nil (τ := ()) gX4_isGate_X4_in rfl (by decide +kernel) ⟨Nat.le_of_ble_eq_true rfl, Nat.le_of_ble_eq_true rfl, rfl, rfl⟩ rfl rfl (Nat.le_of_ble_eq_true rfl) dX4_isGate_6 (fun r1 _ => ?_)
  refine g_bool C (fun h9 => ?_)
  exact g_ret C ⟨dX4_isGate_9, rfl, rfl, h9⟩
set_option maxHeartbeats 4000000 in
set_option maxRecDepth 100000 in
theorem mX4_book (l : Launch) (D : va_G) (K : Nat → ClassId) (a : Nat → Nat) (σ : gS) (p1 : Int32) (p2 : Int32) (r : (Int32 × gS)) (hf : fX4_book σ p1 p2 = some r) : gMi l yX4_book wsX4_book { frames := 2, cells := 0, slots := 0, locals := 45 } D (gT K) (MW K a) [.ref (a 0), .int p1, .int p2] σ r := by
  refine mk_i (nL := 3) (cc := cX4_book) (by decide) rfl (Nat.le_of_ble_eq_true rfl) rfl rfl hf (fun g C => ?_)
  refine g_sub C (lv' := [(0, .ref (a 0)), (1, .int p1), (2, .int p2)]) [0, 1, 2] rfl ?_
  unfold fX4_book
  have h_29 : ∀ (σ : gS) (v1 : Int32) (v2 : Int32) (s1 : Int32), g (fX4_book_L29 σ v1 v2 s1) 29 [(0, .ref (a 0)), (1, .int v1), (2, .int v2)] [.int s1, .ref (a 0)] σ := by
    intro σ v1 v2 s1
    unfold fX4_book_L29
    refine g_callVi C (n := 1) (As := [.int s1]) (rest := []) (fun r h => mX4_refused l D K a _ _ r h) gE.same gX4_book_X4_refused rfl (by decide +kernel) ⟨Nat.le_of_ble_eq_true rfl, Nat.le_of_ble_eq_true rfl, rfl, rfl⟩ 0 (MWg_0 K a _) rfl rfl rfl (Nat.le_of_ble_eq_true rfl) dX4_book_29 (fun r1 _ => ?_)
    refine g_if_eq C 37 dX4_book_32 (by decide) (fun _ => ?_) (fun _ => ?_)
    · refine g_iload_n C 2 dX4_book_37 rfl rfl ?_
      refine g_if_le C 54 dX4_book_38 (by decide) (fun _ => ?_) (fun _ => ?_)
      · refine g_aload_n C 0 dX4_book_54 rfl rfl ?_
        refine g_get C (fun _ h => List.mem_cons_of_mem _ (List.mem_append_right _ h)) 0 (MWg_0 K a _) rfl 7 (by decide) (List.mem_of_getElem? (i := 2) rfl) rfl rfl dX4_book_55 ?_
        refine g_iload_n C 1 dX4_book_58 rfl rfl ?_
        refine g_iconst C (v := (0 : Int32)) dX4_book_59 ic_0 ?_
        refine g_callSi C (n := 2) (As := [.int v1, .int (0 : Int32)]) (rest := [.ref (a 3)]) (fun r h => mX4_bookAt l D K _ _ r h) gE.nil (τ := ()) gX4_book_X4_bookAt rfl (by decide +kernel) ⟨Nat.le_of_ble_eq_true rfl, Nat.le_of_ble_eq_true rfl, rfl, rfl⟩ rfl rfl (Nat.le_of_ble_eq_true rfl) dX4_book_60 (fun r2 _ => ?_)
        refine g_ialdG C 3 0 (MWg_3 K a _) rfl dX4_book_63 ?_
        refine g_if_ne C 72 dX4_book_64 (by decide) (fun _ => ?_) (fun _ => ?_)
        · refine g_bipush C (v := (-9 : Int32)) dX4_book_67 (by decide) ?_
          refine g_goto C 84 dX4_book_69 (by decide) ?_
          exact g_ret C ⟨dX4_book_84, rfl, rfl⟩
        · refine g_aload_n C 0 dX4_book_72 rfl rfl ?_
          refine g_get C (fun _ h => List.mem_cons_of_mem _ (List.mem_append_right _ h)) 0 (MWg_0 K a _) rfl 7 (by decide) (List.mem_of_getElem? (i := 2) rfl) rfl rfl dX4_book_73 ?_
          refine g_iload_n C 1 dX4_book_76 rfl rfl ?_
          refine g_iconst C (v := (0 : Int32)) dX4_book_77 ic_0 ?_
          refine g_callSi C (n := 2) (As := [.int v1, .int (0 : Int32)]) (rest := [.ref (a 3)]) (fun r h => mX4_bookAt l D K _ _ r h) gE.nil (τ := ()) gX4_book_X4_bookAt rfl (by decide +kernel) ⟨Nat.le_of_ble_eq_true rfl, Nat.le_of_ble_eq_true rfl, rfl, rfl⟩ rfl rfl (Nat.le_of_ble_eq_true rfl) dX4_book_78 (fun r3 _ => ?_)
          refine g_ialdG C 3 0 (MWg_3 K a _) rfl dX4_book_81 ?_
          refine g_iconst C (v := (1 : Int32)) dX4_book_82 ic_1 ?_
          refine g_isub C dX4_book_83 ?_
          exact g_ret C ⟨dX4_book_84, rfl, rfl⟩
      · refine g_aload_n C 0 dX4_book_41 rfl rfl ?_
        refine g_get C (fun _ h => List.mem_cons_of_mem _ (List.mem_append_right _ h)) 0 (MWg_0 K a _) rfl 7 (by decide) (List.mem_of_getElem? (i := 2) rfl) rfl rfl dX4_book_42 ?_
        refine g_iload_n C 1 dX4_book_45 rfl rfl ?_
        refine g_iload_n C 2 dX4_book_46 rfl rfl ?_
        refine g_callSi C (n := 2) (As := [.int v1, .int v2]) (rest := [.ref (a 3)]) (fun r h => mX4_bookAt l D K _ _ r h) gE.nil (τ := ()) gX4_book_X4_bookAt rfl (by decide +kernel) ⟨Nat.le_of_ble_eq_true rfl, Nat.le_of_ble_eq_true rfl, rfl, rfl⟩ rfl rfl (Nat.le_of_ble_eq_true rfl) dX4_book_47 (fun r4 _ => ?_)
        refine g_ialdG C 3 0 (MWg_3 K a _) rfl dX4_book_50 ?_
        refine g_goto C 84 dX4_book_51 (by decide) ?_
        exact g_ret C ⟨dX4_book_84, rfl, rfl⟩
    · refine g_iconst C (v := (0 : Int32)) dX4_book_35 ic_0 ?_
      exact g_ret C ⟨dX4_book_36, rfl, rfl⟩
  refine g_aload_n C 0 dX4_book_0 rfl rfl ?_
  refine g_iload_n C 1 dX4_book_1 rfl rfl ?_
  refine g_callSi C (n := 1) (As := [.int p1]) (rest := [.ref (a 0)]) (fun r h => mX4_isBook l D K _ r h) gE.nil (τ := ()) gX4_book_X4_isBook rfl (by decide +kernel) ⟨Nat.le_of_ble_eq_true rfl, Nat.le_of_ble_eq_true rfl, rfl, rfl⟩ rfl rfl (Nat.le_of_ble_eq_true rfl) dX4_book_2 (fun r5 _ => ?_)
  refine g_if_ne C 12 dX4_book_5 (by decide) (fun _ => ?_) (fun _ => ?_)
  · refine g_iconst C (v := (1 : Int32)) dX4_book_8 ic_1 ?_
    refine g_goto C 29 dX4_book_9 (by decide) ?_
    exact h_29 σ p1 p2 (1 : Int32)
  · refine g_iload_n C 2 dX4_book_12 rfl rfl ?_
    refine g_i2l C dX4_book_13 ?_
    refine g_lconst C (v := (0 : Int64)) dX4_book_14 (by decide) ?_
    refine g_ldc2 C (v := (4 : Int64)) (List.mem_of_getElem? (i := 1) rfl) dX4_book_15 ?_
    refine g_callSi C (n := 3) (As := [.long (p2).toInt64, .long (0 : Int64), .long (4 : Int64)]) (rest := [.ref (a 0)]) (fun r h => mX4_in l D K _ _ _ r h) gE.nil (τ := ()) gX4_book_X4_in rfl (by decide +kernel) ⟨Nat.le_of_ble_eq_true rfl, Nat.le_of_ble_eq_true rfl, rfl, rfl⟩ rfl rfl (Nat.le_of_ble_eq_true rfl) dX4_book_18 (fun r6 _ => ?_)
    refine g_if_eq C 28 dX4_book_21 (by decide) (fun _ => ?_) (fun _ => ?_)
    · refine g_iconst C (v := (2 : Int32)) dX4_book_28 ic_2 ?_
      exact h_29 σ p1 p2 (2 : Int32)
    · refine g_iconst C (v := (0 : Int32)) dX4_book_24 ic_0 ?_
      refine g_goto C 29 dX4_book_25 (by decide) ?_
      exact h_29 σ p1 p2 (0 : Int32)
set_option maxHeartbeats 4000000 in
set_option maxRecDepth 100000 in
theorem mX4_bagSet (l : Launch) (D : va_G) (K : Nat → ClassId) (a : Nat → Nat) (σ : gS) (p1 : Int32) (r : (Int32 × gS)) (hf : fX4_bagSet σ p1 = some r) : gMi l yX4_bagSet wsX4_bagSet { frames := 1, cells := 0, slots := 0, locals := 21 } D (gT K) (MW K a) [.ref (a 0), .int p1] σ r := by
  refine mk_i (nL := 4) (cc := cX4_bagSet) (by decide) rfl (Nat.le_of_ble_eq_true rfl) rfl rfl hf (fun g C => ?_)
  refine g_sub C (lv' := [(0, .ref (a 0)), (1, .int p1)]) [0, 1] rfl ?_
  unfold fX4_bagSet
  have h_4 : ∀ (n : Nat) (σ : gS) (v1 : Int32) (v2 : Int32) (v3 : Int32), g (fX4_bagSet_L4 n σ v1 v2 v3) 4 [(0, .ref (a 0)), (1, .int v1), (2, .int v2), (3, .int v3)] [] σ := by
    intro n
    induction n with
    | zero =>
      intro σ v1 v2 v3
      exact g_none C
    | succ n4 ih_4 =>
      intro σ v1 v2 v3
      unfold fX4_bagSet_L4
      refine g_iload_n C 3 dX4_bagSet_4 rfl rfl ?_
      refine g_bipush C (v := (20 : Int32)) dX4_bagSet_5 (by decide) ?_
      refine g_icmp_ge C 42 dX4_bagSet_7 (by decide) (fun _ => ?_) (fun _ => ?_)
      · refine g_iload_n C 2 dX4_bagSet_42 rfl rfl ?_
        exact g_ret C ⟨dX4_bagSet_43, rfl, rfl⟩
      · refine g_iload_n C 2 dX4_bagSet_10 rfl rfl ?_
        refine g_aload_n C 0 dX4_bagSet_11 rfl rfl ?_
        refine g_get C (fun _ h => List.mem_cons_of_mem _ (List.mem_append_right _ h)) 0 (MWg_0 K a _) rfl 7 (by decide) (List.mem_of_getElem? (i := 1) rfl) rfl rfl dX4_bagSet_12 ?_
        refine g_iload_n C 3 dX4_bagSet_15 rfl rfl ?_
        refine g_iconst C (v := (0 : Int32)) dX4_bagSet_16 ic_0 ?_
        refine g_callSi C (n := 2) (As := [.int v3, .int (0 : Int32)]) (rest := [.ref (a 3), .int v2]) (fun r h => mX4_bookAt l D K _ _ r h) gE.nil (τ := ()) gX4_bagSet_X4_bookAt rfl (by decide +kernel) ⟨Nat.le_of_ble_eq_true rfl, Nat.le_of_ble_eq_true rfl, rfl, rfl⟩ rfl rfl (Nat.le_of_ble_eq_true rfl) dX4_bagSet_17 (fun r1 _ => ?_)
        refine g_ialdG C 3 0 (MWg_3 K a _) rfl dX4_bagSet_20 ?_
        refine g_iload_n C 1 dX4_bagSet_21 rfl rfl ?_
        refine g_iconst C (v := (1 : Int32)) dX4_bagSet_22 ic_1 ?_
        refine g_iadd C dX4_bagSet_23 ?_
        refine g_icmp_ne C 33 dX4_bagSet_24 (by decide) (fun _ => ?_) (fun _ => ?_)
        · refine g_iconst C (v := (1 : Int32)) dX4_bagSet_27 ic_1 ?_
          refine g_iload_n C 3 dX4_bagSet_28 rfl rfl ?_
          refine g_ishl C dX4_bagSet_29 ?_
          refine g_goto C 34 dX4_bagSet_30 (by decide) ?_
          refine g_ior C dX4_bagSet_34 ?_
          refine g_topi (fun t2 => ?_)
          refine g_istore_n C (lv' := [(2, .int t2), (0, .ref (a 0)), (1, .int v1), (3, .int v3)]) dX4_bagSet_35 rfl (by decide) rfl ?_
          refine g_iinc C (w := (1 : Int32)) (lv' := [(3, .int (v3 + (1 : Int32))), (2, .int t2), (0, .ref (a 0)), (1, .int v1)]) 3 dX4_bagSet_36 rfl ic_1 (by decide) rfl ?_
          refine g_goto C 4 dX4_bagSet_39 (by decide) ?_
          refine g_sub C (lv' := [(0, .ref (a 0)), (1, .int v1), (2, .int t2), (3, .int (v3 + (1 : Int32)))]) [2, 3, 1, 0] rfl ?_
          exact ih_4 σ v1 t2 (v3 + (1 : Int32))
        · refine g_iconst C (v := (0 : Int32)) dX4_bagSet_33 ic_0 ?_
          refine g_ior C dX4_bagSet_34 ?_
          refine g_topi (fun t3 => ?_)
          refine g_istore_n C (lv' := [(2, .int t3), (0, .ref (a 0)), (1, .int v1), (3, .int v3)]) dX4_bagSet_35 rfl (by decide) rfl ?_
          refine g_iinc C (w := (1 : Int32)) (lv' := [(3, .int (v3 + (1 : Int32))), (2, .int t3), (0, .ref (a 0)), (1, .int v1)]) 3 dX4_bagSet_36 rfl ic_1 (by decide) rfl ?_
          refine g_goto C 4 dX4_bagSet_39 (by decide) ?_
          refine g_sub C (lv' := [(0, .ref (a 0)), (1, .int v1), (2, .int t3), (3, .int (v3 + (1 : Int32)))]) [2, 3, 1, 0] rfl ?_
          exact ih_4 σ v1 t3 (v3 + (1 : Int32))
  refine g_iconst C (v := (0 : Int32)) dX4_bagSet_0 ic_0 ?_
  refine g_istore_n C (lv' := [(2, .int (0 : Int32)), (0, .ref (a 0)), (1, .int p1)]) dX4_bagSet_1 rfl (by decide) rfl ?_
  refine g_iconst C (v := (0 : Int32)) dX4_bagSet_2 ic_0 ?_
  refine g_istore_n C (lv' := [(3, .int (0 : Int32)), (2, .int (0 : Int32)), (0, .ref (a 0)), (1, .int p1)]) dX4_bagSet_3 rfl (by decide) rfl ?_
  refine g_sub C (lv' := [(0, .ref (a 0)), (1, .int p1), (2, .int (0 : Int32)), (3, .int (0 : Int32))]) [2, 3, 1, 0] rfl ?_
  exact h_4 gFuel σ p1 (0 : Int32) (0 : Int32)
set_option maxHeartbeats 4000000 in
set_option maxRecDepth 100000 in
theorem mX4_visitor (l : Launch) (D : va_G) (K : Nat → ClassId) (a : Nat → Nat) (σ : gS) (p1 : Int32) (p2 : Int32) (r : (Int32 × gS)) (hf : fX4_visitor σ p1 p2 = some r) : gMi l yX4_visitor wsX4_visitor { frames := 2, cells := 0, slots := 0, locals := 45 } D (gT K) (MW K a) [.ref (a 0), .int p1, .int p2] σ r := by
  refine mk_i (nL := 3) (cc := cX4_visitor) (by decide) rfl (Nat.le_of_ble_eq_true rfl) rfl rfl hf (fun g C => ?_)
  refine g_sub C (lv' := [(0, .ref (a 0)), (1, .int p1), (2, .int p2)]) [0, 1, 2] rfl ?_
  unfold fX4_visitor
  have h_29 : ∀ (σ : gS) (v1 : Int32) (v2 : Int32) (s1 : Int32), g (fX4_visitor_L29 σ v1 v2 s1) 29 [(0, .ref (a 0)), (1, .int v1), (2, .int v2)] [.int s1, .ref (a 0)] σ := by
    have h_63 : ∀ (σ : gS) (v1 : Int32) (v2 : Int32), g (fX4_visitor_L63 σ v1 v2) 63 [(0, .ref (a 0)), (1, .int v1), (2, .int v2)] [] σ := by
      intro σ v1 v2
      unfold fX4_visitor_L63
      refine g_aload_n C 0 dX4_visitor_63 rfl rfl ?_
      refine g_get C (fun _ h => List.mem_cons_of_mem _ (List.mem_append_right _ h)) 0 (MWg_0 K a _) rfl 7 (by decide) (List.mem_of_getElem? (i := 2) rfl) rfl rfl dX4_visitor_64 ?_
      refine g_iload_n C 1 dX4_visitor_67 rfl rfl ?_
      refine g_iload_n C 2 dX4_visitor_68 rfl rfl ?_
      refine g_callSi C (n := 2) (As := [.int v1, .int v2]) (rest := [.ref (a 3)]) (fun r h => mX4_visitorAt l D K _ _ r h) gE.nil (τ := ()) gX4_visitor_X4_visitorAt rfl (by decide +kernel) ⟨Nat.le_of_ble_eq_true rfl, Nat.le_of_ble_eq_true rfl, rfl, rfl⟩ rfl rfl (Nat.le_of_ble_eq_true rfl) dX4_visitor_69 (fun r1 _ => ?_)
      refine g_ialdG C 3 0 (MWg_3 K a _) rfl dX4_visitor_72 ?_
      refine g_goto C 78 dX4_visitor_73 (by decide) ?_
      exact g_ret C ⟨dX4_visitor_78, rfl, rfl⟩
    intro σ v1 v2 s1
    unfold fX4_visitor_L29
    refine g_callVi C (n := 1) (As := [.int s1]) (rest := []) (fun r h => mX4_refused l D K a _ _ r h) gE.same gX4_visitor_X4_refused rfl (by decide +kernel) ⟨Nat.le_of_ble_eq_true rfl, Nat.le_of_ble_eq_true rfl, rfl, rfl⟩ 0 (MWg_0 K a _) rfl rfl rfl (Nat.le_of_ble_eq_true rfl) dX4_visitor_29 (fun r2 _ => ?_)
    refine g_if_eq C 37 dX4_visitor_32 (by decide) (fun _ => ?_) (fun _ => ?_)
    · refine g_iload_n C 2 dX4_visitor_37 rfl rfl ?_
      refine g_iconst C (v := (4 : Int32)) dX4_visitor_38 ic_4 ?_
      refine g_icmp_ne C 48 dX4_visitor_39 (by decide) (fun _ => ?_) (fun _ => ?_)
      · refine g_aload_n C 0 dX4_visitor_42 rfl rfl ?_
        refine g_iload_n C 1 dX4_visitor_43 rfl rfl ?_
        refine g_callVi C (n := 1) (As := [.int v1]) (rest := []) (fun r h => mX4_bagSet l D K a _ _ r h) gE.same gX4_visitor_X4_bagSet rfl (by decide +kernel) ⟨Nat.le_of_ble_eq_true rfl, Nat.le_of_ble_eq_true rfl, rfl, rfl⟩ 0 (MWg_0 K a _) rfl rfl rfl (Nat.le_of_ble_eq_true rfl) dX4_visitor_44 (fun r3 _ => ?_)
        exact g_ret C ⟨dX4_visitor_47, rfl, rfl⟩
      · refine g_iload_n C 2 dX4_visitor_48 rfl rfl ?_
        refine g_if_eq C 63 dX4_visitor_49 (by decide) (fun _ => ?_) (fun _ => ?_)
        · exact h_63 r2.2 v1 v2
        · refine g_aload_n C 0 dX4_visitor_52 rfl rfl ?_
          refine g_get C (fun _ h => List.mem_cons_of_mem _ (List.mem_append_right _ h)) 0 (MWg_0 K a _) rfl 7 (by decide) (List.mem_of_getElem? (i := 2) rfl) rfl rfl dX4_visitor_53 ?_
          refine g_iload_n C 1 dX4_visitor_56 rfl rfl ?_
          refine g_callSi C (n := 2) (As := [.ref (a 3), .int v1]) (rest := []) (fun r h => mX4_isAtGate l D K (a 3) _ _ r h) (MWe_3 D K a _) gX4_visitor_X4_isAtGate rfl (by decide +kernel) ⟨Nat.le_of_ble_eq_true rfl, Nat.le_of_ble_eq_true rfl, rfl, rfl⟩ rfl rfl (Nat.le_of_ble_eq_true rfl) dX4_visitor_57 (fun r4 _ => ?_)
          refine g_state (fun u5 => ?_)
          refine g_if_eq C 76 dX4_visitor_60 (by decide) (fun _ => ?_) (fun _ => ?_)
          · refine g_bipush C (v := (-9 : Int32)) dX4_visitor_76 (by decide) ?_
            exact g_ret C ⟨dX4_visitor_78, rfl, rfl⟩
          · exact h_63 u5 v1 v2
    · refine g_iconst C (v := (0 : Int32)) dX4_visitor_35 ic_0 ?_
      exact g_ret C ⟨dX4_visitor_36, rfl, rfl⟩
  refine g_aload_n C 0 dX4_visitor_0 rfl rfl ?_
  refine g_iload_n C 1 dX4_visitor_1 rfl rfl ?_
  refine g_callSi C (n := 1) (As := [.int p1]) (rest := [.ref (a 0)]) (fun r h => mX4_isVisitor l D K _ r h) gE.nil (τ := ()) gX4_visitor_X4_isVisitor rfl (by decide +kernel) ⟨Nat.le_of_ble_eq_true rfl, Nat.le_of_ble_eq_true rfl, rfl, rfl⟩ rfl rfl (Nat.le_of_ble_eq_true rfl) dX4_visitor_2 (fun r6 _ => ?_)
  refine g_if_ne C 12 dX4_visitor_5 (by decide) (fun _ => ?_) (fun _ => ?_)
  · refine g_iconst C (v := (1 : Int32)) dX4_visitor_8 ic_1 ?_
    refine g_goto C 29 dX4_visitor_9 (by decide) ?_
    exact h_29 σ p1 p2 (1 : Int32)
  · refine g_iload_n C 2 dX4_visitor_12 rfl rfl ?_
    refine g_i2l C dX4_visitor_13 ?_
    refine g_lconst C (v := (0 : Int64)) dX4_visitor_14 (by decide) ?_
    refine g_ldc2 C (v := (4 : Int64)) (List.mem_of_getElem? (i := 1) rfl) dX4_visitor_15 ?_
    refine g_callSi C (n := 3) (As := [.long (p2).toInt64, .long (0 : Int64), .long (4 : Int64)]) (rest := [.ref (a 0)]) (fun r h => mX4_in l D K _ _ _ r h) gE.nil (τ := ()) gX4_visitor_X4_in rfl (by decide +kernel) ⟨Nat.le_of_ble_eq_true rfl, Nat.le_of_ble_eq_true rfl, rfl, rfl⟩ rfl rfl (Nat.le_of_ble_eq_true rfl) dX4_visitor_18 (fun r7 _ => ?_)
    refine g_if_eq C 28 dX4_visitor_21 (by decide) (fun _ => ?_) (fun _ => ?_)
    · refine g_iconst C (v := (2 : Int32)) dX4_visitor_28 ic_2 ?_
      exact h_29 σ p1 p2 (2 : Int32)
    · refine g_iconst C (v := (0 : Int32)) dX4_visitor_24 ic_0 ?_
      refine g_goto C 29 dX4_visitor_25 (by decide) ?_
      exact h_29 σ p1 p2 (0 : Int32)
set_option maxHeartbeats 4000000 in
set_option maxRecDepth 100000 in
theorem mX4_readSet (l : Launch) (D : va_G) (K : Nat → ClassId) (a : Nat → Nat) (σ : gS) (p1 : Int32) (r : (Int32 × gS)) (hf : fX4_readSet σ p1 = some r) : gMi l yX4_readSet wsX4_readSet { frames := 4, cells := 0, slots := 0, locals := 93 } D (gT K) (MW K a) [.ref (a 0), .int p1] σ r := by
  refine mk_i (nL := 4) (cc := cX4_readSet) (by decide) rfl (Nat.le_of_ble_eq_true rfl) rfl rfl hf (fun g C => ?_)
  refine g_sub C (lv' := [(0, .ref (a 0)), (1, .int p1)]) [0, 1] rfl ?_
  unfold fX4_readSet
  have h_4 : ∀ (n : Nat) (σ : gS) (v1 : Int32) (v2 : Int32) (v3 : Int32), g (fX4_readSet_L4 n σ v1 v2 v3) 4 [(0, .ref (a 0)), (1, .int v1), (2, .int v2), (3, .int v3)] [] σ := by
    intro n
    induction n with
    | zero =>
      intro σ v1 v2 v3
      exact g_none C
    | succ n4 ih_4 =>
      intro σ v1 v2 v3
      unfold fX4_readSet_L4
      refine g_iload_n C 3 dX4_readSet_4 rfl rfl ?_
      refine g_bipush C (v := (20 : Int32)) dX4_readSet_5 (by decide) ?_
      refine g_icmp_ge C 38 dX4_readSet_7 (by decide) (fun _ => ?_) (fun _ => ?_)
      · refine g_iload_n C 2 dX4_readSet_38 rfl rfl ?_
        exact g_ret C ⟨dX4_readSet_39, rfl, rfl⟩
      · refine g_iload_n C 2 dX4_readSet_10 rfl rfl ?_
        refine g_aload_n C 0 dX4_readSet_11 rfl rfl ?_
        refine g_get C (fun _ h => List.mem_cons_of_mem _ (List.mem_append_right _ h)) 0 (MWg_0 K a _) rfl 7 (by decide) (List.mem_of_getElem? (i := 1) rfl) rfl rfl dX4_readSet_12 ?_
        refine g_iload_n C 1 dX4_readSet_15 rfl rfl ?_
        refine g_iload_n C 3 dX4_readSet_16 rfl rfl ?_
        refine g_callSi C (n := 3) (As := [.ref (a 3), .int v1, .int v3]) (rest := [.int v2]) (fun r h => mX4_readsBook l D K (a 3) _ _ _ r h) (MWe_3 D K a _) gX4_readSet_X4_readsBook rfl (by decide +kernel) ⟨Nat.le_of_ble_eq_true rfl, Nat.le_of_ble_eq_true rfl, rfl, rfl⟩ rfl rfl (Nat.le_of_ble_eq_true rfl) dX4_readSet_17 (fun r1 _ => ?_)
        refine g_state (fun u2 => ?_)
        refine g_if_eq C 29 dX4_readSet_20 (by decide) (fun _ => ?_) (fun _ => ?_)
        · refine g_iconst C (v := (0 : Int32)) dX4_readSet_29 ic_0 ?_
          refine g_ior C dX4_readSet_30 ?_
          refine g_topi (fun t3 => ?_)
          refine g_istore_n C (lv' := [(2, .int t3), (0, .ref (a 0)), (1, .int v1), (3, .int v3)]) dX4_readSet_31 rfl (by decide) rfl ?_
          refine g_iinc C (w := (1 : Int32)) (lv' := [(3, .int (v3 + (1 : Int32))), (2, .int t3), (0, .ref (a 0)), (1, .int v1)]) 3 dX4_readSet_32 rfl ic_1 (by decide) rfl ?_
          refine g_goto C 4 dX4_readSet_35 (by decide) ?_
          refine g_sub C (lv' := [(0, .ref (a 0)), (1, .int v1), (2, .int t3), (3, .int (v3 + (1 : Int32)))]) [2, 3, 1, 0] rfl ?_
          exact ih_4 u2 v1 t3 (v3 + (1 : Int32))
        · refine g_iconst C (v := (1 : Int32)) dX4_readSet_23 ic_1 ?_
          refine g_iload_n C 3 dX4_readSet_24 rfl rfl ?_
          refine g_ishl C dX4_readSet_25 ?_
          refine g_goto C 30 dX4_readSet_26 (by decide) ?_
          refine g_ior C dX4_readSet_30 ?_
          refine g_topi (fun t4 => ?_)
          refine g_istore_n C (lv' := [(2, .int t4), (0, .ref (a 0)), (1, .int v1), (3, .int v3)]) dX4_readSet_31 rfl (by decide) rfl ?_
          refine g_iinc C (w := (1 : Int32)) (lv' := [(3, .int (v3 + (1 : Int32))), (2, .int t4), (0, .ref (a 0)), (1, .int v1)]) 3 dX4_readSet_32 rfl ic_1 (by decide) rfl ?_
          refine g_goto C 4 dX4_readSet_35 (by decide) ?_
          refine g_sub C (lv' := [(0, .ref (a 0)), (1, .int v1), (2, .int t4), (3, .int (v3 + (1 : Int32)))]) [2, 3, 1, 0] rfl ?_
          exact ih_4 u2 v1 t4 (v3 + (1 : Int32))
  refine g_iconst C (v := (0 : Int32)) dX4_readSet_0 ic_0 ?_
  refine g_istore_n C (lv' := [(2, .int (0 : Int32)), (0, .ref (a 0)), (1, .int p1)]) dX4_readSet_1 rfl (by decide) rfl ?_
  refine g_iconst C (v := (0 : Int32)) dX4_readSet_2 ic_0 ?_
  refine g_istore_n C (lv' := [(3, .int (0 : Int32)), (2, .int (0 : Int32)), (0, .ref (a 0)), (1, .int p1)]) dX4_readSet_3 rfl (by decide) rfl ?_
  refine g_sub C (lv' := [(0, .ref (a 0)), (1, .int p1), (2, .int (0 : Int32)), (3, .int (0 : Int32))]) [2, 3, 1, 0] rfl ?_
  exact h_4 gFuel σ p1 (0 : Int32) (0 : Int32)
set_option maxHeartbeats 4000000 in
set_option maxRecDepth 100000 in
theorem mX4_gate (l : Launch) (D : va_G) (K : Nat → ClassId) (a : Nat → Nat) (σ : gS) (p1 : Int32) (p2 : Int32) (r : (Int32 × gS)) (hf : fX4_gate σ p1 p2 = some r) : gMi l yX4_gate wsX4_gate { frames := 5, cells := 0, slots := 0, locals := 116 } D (gT K) (MW K a) [.ref (a 0), .int p1, .int p2] σ r := by
  refine mk_i (nL := 3) (cc := cX4_gate) (by decide) rfl (Nat.le_of_ble_eq_true rfl) rfl rfl hf (fun g C => ?_)
  refine g_sub C (lv' := [(0, .ref (a 0)), (1, .int p1), (2, .int p2)]) [0, 1, 2] rfl ?_
  unfold fX4_gate
  have h_29 : ∀ (σ : gS) (v1 : Int32) (v2 : Int32) (s1 : Int32), g (fX4_gate_L29 σ v1 v2 s1) 29 [(0, .ref (a 0)), (1, .int v1), (2, .int v2)] [.int s1, .ref (a 0)] σ := by
    intro σ v1 v2 s1
    unfold fX4_gate_L29
    refine g_callVi C (n := 1) (As := [.int s1]) (rest := []) (fun r h => mX4_refused l D K a _ _ r h) gE.same gX4_gate_X4_refused rfl (by decide +kernel) ⟨Nat.le_of_ble_eq_true rfl, Nat.le_of_ble_eq_true rfl, rfl, rfl⟩ 0 (MWg_0 K a _) rfl rfl rfl (Nat.le_of_ble_eq_true rfl) dX4_gate_29 (fun r1 _ => ?_)
    refine g_if_eq C 37 dX4_gate_32 (by decide) (fun _ => ?_) (fun _ => ?_)
    · refine g_iload_n C 2 dX4_gate_37 rfl rfl ?_
      refine g_tcase C 64 (3 : Int32) dX4_gate_38 (by decide) (by decide) rfl (by decide) (fun _ => ?_) (fun h2 => ?_)
      · refine g_aload_n C 0 dX4_gate_64 rfl rfl ?_
        refine g_get C (fun _ h => List.mem_cons_of_mem _ (List.mem_append_right _ h)) 0 (MWg_0 K a _) rfl 7 (by decide) (List.mem_of_getElem? (i := 2) rfl) rfl rfl dX4_gate_65 ?_
        refine g_iload_n C 1 dX4_gate_68 rfl rfl ?_
        refine g_iconst C (v := (2 : Int32)) dX4_gate_69 ic_2 ?_
        refine g_callSi C (n := 2) (As := [.int v1, .int (2 : Int32)]) (rest := [.ref (a 3)]) (fun r h => mX4_gateAt l D K _ _ r h) gE.nil (τ := ()) gX4_gate_X4_gateAt rfl (by decide +kernel) ⟨Nat.le_of_ble_eq_true rfl, Nat.le_of_ble_eq_true rfl, rfl, rfl⟩ rfl rfl (Nat.le_of_ble_eq_true rfl) dX4_gate_70 (fun r3 _ => ?_)
        refine g_ialdG C 3 0 (MWg_3 K a _) rfl dX4_gate_73 ?_
        refine g_if_le C 93 dX4_gate_74 (by decide) (fun _ => ?_) (fun _ => ?_)
        · refine g_bipush C (v := (-9 : Int32)) dX4_gate_93 (by decide) ?_
          exact g_ret C ⟨dX4_gate_95, rfl, rfl⟩
        · refine g_aload_n C 0 dX4_gate_77 rfl rfl ?_
          refine g_get C (fun _ h => List.mem_cons_of_mem _ (List.mem_append_right _ h)) 0 (MWg_0 K a _) rfl 7 (by decide) (List.mem_of_getElem? (i := 2) rfl) rfl rfl dX4_gate_78 ?_
          refine g_sipush C (v := (136 : Int32)) dX4_gate_81 (by decide) ?_
          refine g_bipush C (v := (20 : Int32)) dX4_gate_84 (by decide) ?_
          refine g_iload_n C 1 dX4_gate_86 rfl rfl ?_
          refine g_imul C dX4_gate_87 ?_
          refine g_iadd C dX4_gate_88 ?_
          refine g_ialdG C 3 0 (MWg_3 K a _) rfl dX4_gate_89 ?_
          refine g_goto C 95 dX4_gate_90 (by decide) ?_
          exact g_ret C ⟨dX4_gate_95, rfl, rfl⟩
      refine g_tcase C 96 (4 : Int32) dX4_gate_38 (by decide) (by decide) rfl (by decide) (fun _ => ?_) (fun h4 => ?_)
      · refine g_aload_n C 0 dX4_gate_96 rfl rfl ?_
        refine g_get C (fun _ h => List.mem_cons_of_mem _ (List.mem_append_right _ h)) 0 (MWg_0 K a _) rfl 7 (by decide) (List.mem_of_getElem? (i := 2) rfl) rfl rfl dX4_gate_97 ?_
        refine g_iload_n C 1 dX4_gate_100 rfl rfl ?_
        refine g_iconst C (v := (3 : Int32)) dX4_gate_101 ic_3 ?_
        refine g_callSi C (n := 2) (As := [.int v1, .int (3 : Int32)]) (rest := [.ref (a 3)]) (fun r h => mX4_gateAt l D K _ _ r h) gE.nil (τ := ()) gX4_gate_X4_gateAt rfl (by decide +kernel) ⟨Nat.le_of_ble_eq_true rfl, Nat.le_of_ble_eq_true rfl, rfl, rfl⟩ rfl rfl (Nat.le_of_ble_eq_true rfl) dX4_gate_102 (fun r5 _ => ?_)
        refine g_ialdG C 3 0 (MWg_3 K a _) rfl dX4_gate_105 ?_
        exact g_ret C ⟨dX4_gate_106, rfl, rfl⟩
      refine g_tcase C 107 (5 : Int32) dX4_gate_38 (by decide) (by decide) rfl (by decide) (fun _ => ?_) (fun h6 => ?_)
      · refine g_aload_n C 0 dX4_gate_107 rfl rfl ?_
        refine g_iload_n C 1 dX4_gate_108 rfl rfl ?_
        refine g_callVi C (n := 1) (As := [.int v1]) (rest := []) (fun r h => mX4_readSet l D K a _ _ r h) gE.same gX4_gate_X4_readSet rfl (by decide +kernel) ⟨Nat.le_of_ble_eq_true rfl, Nat.le_of_ble_eq_true rfl, rfl, rfl⟩ 0 (MWg_0 K a _) rfl rfl rfl (Nat.le_of_ble_eq_true rfl) dX4_gate_109 (fun r7 _ => ?_)
        exact g_ret C ⟨dX4_gate_112, rfl, rfl⟩
      refine g_tdef2 C 113 [3, 4, 5] dX4_gate_38 (List.forall_mem_cons.mpr ⟨i32nz h2 (by decide), (List.forall_mem_cons.mpr ⟨i32nz h4 (by decide), (List.forall_mem_cons.mpr ⟨i32nz h6 (by decide), (fun _ h9 => absurd h9 List.not_mem_nil)⟩)⟩)⟩) (by decide) (by decide) (by decide) ?_
      refine g_aload_n C 0 dX4_gate_113 rfl rfl ?_
      refine g_get C (fun _ h => List.mem_cons_of_mem _ (List.mem_append_right _ h)) 0 (MWg_0 K a _) rfl 7 (by decide) (List.mem_of_getElem? (i := 2) rfl) rfl rfl dX4_gate_114 ?_
      refine g_iload_n C 1 dX4_gate_117 rfl rfl ?_
      refine g_iload_n C 2 dX4_gate_118 rfl rfl ?_
      refine g_callSi C (n := 2) (As := [.int v1, .int v2]) (rest := [.ref (a 3)]) (fun r h => mX4_gateAt l D K _ _ r h) gE.nil (τ := ()) gX4_gate_X4_gateAt rfl (by decide +kernel) ⟨Nat.le_of_ble_eq_true rfl, Nat.le_of_ble_eq_true rfl, rfl, rfl⟩ rfl rfl (Nat.le_of_ble_eq_true rfl) dX4_gate_119 (fun r8 _ => ?_)
      refine g_ialdG C 3 0 (MWg_3 K a _) rfl dX4_gate_122 ?_
      exact g_ret C ⟨dX4_gate_123, rfl, rfl⟩
    · refine g_iconst C (v := (0 : Int32)) dX4_gate_35 ic_0 ?_
      exact g_ret C ⟨dX4_gate_36, rfl, rfl⟩
  refine g_aload_n C 0 dX4_gate_0 rfl rfl ?_
  refine g_iload_n C 1 dX4_gate_1 rfl rfl ?_
  refine g_callSi C (n := 1) (As := [.int p1]) (rest := [.ref (a 0)]) (fun r h => mX4_isGate l D K _ r h) gE.nil (τ := ()) gX4_gate_X4_isGate rfl (by decide +kernel) ⟨Nat.le_of_ble_eq_true rfl, Nat.le_of_ble_eq_true rfl, rfl, rfl⟩ rfl rfl (Nat.le_of_ble_eq_true rfl) dX4_gate_2 (fun r9 _ => ?_)
  refine g_if_ne C 12 dX4_gate_5 (by decide) (fun _ => ?_) (fun _ => ?_)
  · refine g_iconst C (v := (1 : Int32)) dX4_gate_8 ic_1 ?_
    refine g_goto C 29 dX4_gate_9 (by decide) ?_
    exact h_29 σ p1 p2 (1 : Int32)
  · refine g_iload_n C 2 dX4_gate_12 rfl rfl ?_
    refine g_i2l C dX4_gate_13 ?_
    refine g_lconst C (v := (0 : Int64)) dX4_gate_14 (by decide) ?_
    refine g_ldc2 C (v := (5 : Int64)) (List.mem_of_getElem? (i := 1) rfl) dX4_gate_15 ?_
    refine g_callSi C (n := 3) (As := [.long (p2).toInt64, .long (0 : Int64), .long (5 : Int64)]) (rest := [.ref (a 0)]) (fun r h => mX4_in l D K _ _ _ r h) gE.nil (τ := ()) gX4_gate_X4_in rfl (by decide +kernel) ⟨Nat.le_of_ble_eq_true rfl, Nat.le_of_ble_eq_true rfl, rfl, rfl⟩ rfl rfl (Nat.le_of_ble_eq_true rfl) dX4_gate_18 (fun r10 _ => ?_)
    refine g_if_eq C 28 dX4_gate_21 (by decide) (fun _ => ?_) (fun _ => ?_)
    · refine g_iconst C (v := (2 : Int32)) dX4_gate_28 ic_2 ?_
      exact h_29 σ p1 p2 (2 : Int32)
    · refine g_iconst C (v := (0 : Int32)) dX4_gate_24 ic_0 ?_
      refine g_goto C 29 dX4_gate_25 (by decide) ?_
      exact h_29 σ p1 p2 (0 : Int32)
set_option maxHeartbeats 4000000 in
set_option maxRecDepth 100000 in
theorem mX4_shout (l : Launch) (D : va_G) (K : Nat → ClassId) (a : Nat → Nat) (σ : gS) (p1 : Int32) (p2 : Int32) (r : (Int32 × gS)) (hf : fX4_shout σ p1 p2 = some r) : gMi l yX4_shout wsX4_shout { frames := 1, cells := 0, slots := 0, locals := 25 } D (gT K) (MW K a) [.ref (a 0), .int p1, .int p2] σ r := by
  refine mk_i (nL := 3) (cc := cX4_shout) (by decide) rfl (Nat.le_of_ble_eq_true rfl) rfl rfl hf (fun g C => ?_)
  refine g_sub C (lv' := [(0, .ref (a 0)), (1, .int p1), (2, .int p2)]) [0, 1, 2] rfl ?_
  unfold fX4_shout
  have h_30 : ∀ (σ : gS) (v1 : Int32) (v2 : Int32) (s1 : Int32), g (fX4_shout_L30 σ v1 v2 s1) 30 [(0, .ref (a 0)), (1, .int v1), (2, .int v2)] [.int s1, .ref (a 0)] σ := by
    intro σ v1 v2 s1
    unfold fX4_shout_L30
    refine g_callVi C (n := 1) (As := [.int s1]) (rest := []) (fun r h => mX4_refused l D K a _ _ r h) gE.same gX4_shout_X4_refused rfl (by decide +kernel) ⟨Nat.le_of_ble_eq_true rfl, Nat.le_of_ble_eq_true rfl, rfl, rfl⟩ 0 (MWg_0 K a _) rfl rfl rfl (Nat.le_of_ble_eq_true rfl) dX4_shout_30 (fun r1 _ => ?_)
    refine g_if_eq C 38 dX4_shout_33 (by decide) (fun _ => ?_) (fun _ => ?_)
    · refine g_iload_n C 1 dX4_shout_38 rfl rfl ?_
      refine g_aload_n C 0 dX4_shout_39 rfl rfl ?_
      refine g_get C (fun _ h => List.mem_cons_of_mem _ (List.mem_append_right _ h)) 0 (MWg_0 K a _) rfl 7 (by decide) (List.mem_of_getElem? (i := 3) rfl) rfl rfl dX4_shout_40 ?_
      refine g_sipush C (v := (202 : Int32)) dX4_shout_43 (by decide) ?_
      refine g_iald C 3 0 (MWg_3 K a _) rfl (by decide) dX4_shout_46 ?_
      refine g_icmp_ge C 67 dX4_shout_47 (by decide) (fun _ => ?_) (fun _ => ?_)
      · refine g_bipush C (v := (-9 : Int32)) dX4_shout_67 (by decide) ?_
        exact g_ret C ⟨dX4_shout_69, rfl, rfl⟩
      · refine g_aload_n C 0 dX4_shout_50 rfl rfl ?_
        refine g_get C (fun _ h => List.mem_cons_of_mem _ (List.mem_append_right _ h)) 0 (MWg_0 K a _) rfl 7 (by decide) (List.mem_of_getElem? (i := 3) rfl) rfl rfl dX4_shout_51 ?_
        refine g_sipush C (v := (203 : Int32)) dX4_shout_54 (by decide) ?_
        refine g_iconst C (v := (3 : Int32)) dX4_shout_57 ic_3 ?_
        refine g_iload_n C 1 dX4_shout_58 rfl rfl ?_
        refine g_imul C dX4_shout_59 ?_
        refine g_iadd C dX4_shout_60 ?_
        refine g_iload_n C 2 dX4_shout_61 rfl rfl ?_
        refine g_iadd C dX4_shout_62 ?_
        refine g_ialdG C 3 0 (MWg_3 K a _) rfl dX4_shout_63 ?_
        refine g_goto C 69 dX4_shout_64 (by decide) ?_
        exact g_ret C ⟨dX4_shout_69, rfl, rfl⟩
    · refine g_iconst C (v := (0 : Int32)) dX4_shout_36 ic_0 ?_
      exact g_ret C ⟨dX4_shout_37, rfl, rfl⟩
  refine g_aload_n C 0 dX4_shout_0 rfl rfl ?_
  refine g_iload_n C 1 dX4_shout_1 rfl rfl ?_
  refine g_i2l C dX4_shout_2 ?_
  refine g_lconst C (v := (0 : Int64)) dX4_shout_3 (by decide) ?_
  refine g_ldc2 C (v := (9 : Int64)) (List.mem_of_getElem? (i := 1) rfl) dX4_shout_4 ?_
  refine g_callSi C (n := 3) (As := [.long (p1).toInt64, .long (0 : Int64), .long (9 : Int64)]) (rest := [.ref (a 0)]) (fun r h => mX4_in l D K _ _ _ r h) gE.nil (τ := ()) gX4_shout_X4_in rfl (by decide +kernel) ⟨Nat.le_of_ble_eq_true rfl, Nat.le_of_ble_eq_true rfl, rfl, rfl⟩ rfl rfl (Nat.le_of_ble_eq_true rfl) dX4_shout_7 (fun r2 _ => ?_)
  refine g_if_eq C 29 dX4_shout_10 (by decide) (fun _ => ?_) (fun _ => ?_)
  · refine g_iconst C (v := (1 : Int32)) dX4_shout_29 ic_1 ?_
    exact h_30 σ p1 p2 (1 : Int32)
  · refine g_iload_n C 2 dX4_shout_13 rfl rfl ?_
    refine g_i2l C dX4_shout_14 ?_
    refine g_lconst C (v := (0 : Int64)) dX4_shout_15 (by decide) ?_
    refine g_ldc2 C (v := (2 : Int64)) (List.mem_of_getElem? (i := 2) rfl) dX4_shout_16 ?_
    refine g_callSi C (n := 3) (As := [.long (p2).toInt64, .long (0 : Int64), .long (2 : Int64)]) (rest := [.ref (a 0)]) (fun r h => mX4_in l D K _ _ _ r h) gE.nil (τ := ()) gX4_shout_X4_in rfl (by decide +kernel) ⟨Nat.le_of_ble_eq_true rfl, Nat.le_of_ble_eq_true rfl, rfl, rfl⟩ rfl rfl (Nat.le_of_ble_eq_true rfl) dX4_shout_19 (fun r3 _ => ?_)
    refine g_if_eq C 29 dX4_shout_22 (by decide) (fun _ => ?_) (fun _ => ?_)
    · refine g_iconst C (v := (1 : Int32)) dX4_shout_29 ic_1 ?_
      exact h_30 σ p1 p2 (1 : Int32)
    · refine g_iconst C (v := (0 : Int32)) dX4_shout_25 ic_0 ?_
      refine g_goto C 30 dX4_shout_26 (by decide) ?_
      exact h_30 σ p1 p2 (0 : Int32)
set_option maxHeartbeats 4000000 in
set_option maxRecDepth 100000 in
theorem mX4_take (l : Launch) (D : va_G) (K : Nat → ClassId) (a : Nat → Nat) (σ : gS) (p1 : Int32) (p2 : Int32) (r : (Int32 × gS)) (hf : fX4_take σ p1 p2 = some r) : gMi l yX4_take wsX4_take { frames := 3, cells := 0, slots := 0, locals := 66 } D (gT K) (MW K a) [.ref (a 0), .int p1, .int p2] σ r := by
  refine mk_i (nL := 4) (cc := cX4_take) (by decide) rfl (Nat.le_of_ble_eq_true rfl) rfl rfl hf (fun g C => ?_)
  refine g_sub C (lv' := [(0, .ref (a 0)), (1, .int p1), (2, .int p2)]) [0, 1, 2] rfl ?_
  unfold fX4_take
  have h_19 : ∀ (σ : gS) (v1 : Int32) (v2 : Int32) (s0 : Int32), g (fX4_take_L19 σ v1 v2 s0) 19 [(0, .ref (a 0)), (1, .int v1), (2, .int v2)] [.int s0] σ := by
    have h_46 : ∀ (σ : gS) (v1 : Int32) (v2 : Int32) (s1 : Int32), g (fX4_take_L46 σ v1 v2 s1) 46 [(0, .ref (a 0)), (1, .int v1), (2, .int v2)] [.int s1, .ref (a 0)] σ := by
      intro σ v1 v2 s1
      unfold fX4_take_L46
      refine g_callVi C (n := 1) (As := [.int s1]) (rest := []) (fun r h => mX4_refused l D K a _ _ r h) gE.same gX4_take_X4_refused rfl (by decide +kernel) ⟨Nat.le_of_ble_eq_true rfl, Nat.le_of_ble_eq_true rfl, rfl, rfl⟩ 0 (MWg_0 K a _) rfl rfl rfl (Nat.le_of_ble_eq_true rfl) dX4_take_46 (fun r1 _ => ?_)
      refine g_if_eq C 54 dX4_take_49 (by decide) (fun _ => ?_) (fun _ => ?_)
      · refine g_aload_n C 0 dX4_take_54 rfl rfl ?_
        refine g_callVv C (n := 0) (As := []) (rest := []) (fun r h => mX4_remember l D K a _ r h) gE.same gX4_take_X4_remember rfl (by decide +kernel) ⟨Nat.le_of_ble_eq_true rfl, Nat.le_of_ble_eq_true rfl, rfl, rfl⟩ 0 (MWg_0 K a _) rfl rfl rfl (Nat.le_of_ble_eq_true rfl) dX4_take_55 (fun r2 _ => ?_)
        refine g_aload_n C 0 dX4_take_58 rfl rfl ?_
        refine g_get C (fun _ h => List.mem_cons_of_mem _ (List.mem_append_right _ h)) 0 (MWg_0 K a _) rfl 7 (by decide) (List.mem_of_getElem? (i := 1) rfl) rfl rfl dX4_take_59 ?_
        refine g_iload_n C 2 dX4_take_62 rfl rfl ?_
        refine g_iconst C (v := (0 : Int32)) dX4_take_63 ic_0 ?_
        refine g_callSi C (n := 2) (As := [.int v2, .int (0 : Int32)]) (rest := [.ref (a 3)]) (fun r h => mX4_bookAt l D K _ _ r h) gE.nil (τ := ()) gX4_take_X4_bookAt rfl (by decide +kernel) ⟨Nat.le_of_ble_eq_true rfl, Nat.le_of_ble_eq_true rfl, rfl, rfl⟩ rfl rfl (Nat.le_of_ble_eq_true rfl) dX4_take_64 (fun r3 _ => ?_)
        refine g_iload_n C 1 dX4_take_67 rfl rfl ?_
        refine g_iconst C (v := (1 : Int32)) dX4_take_68 ic_1 ?_
        refine g_iadd C dX4_take_69 ?_
        refine g_topi (fun t4 => ?_)
        refine g_iastG C 3 0 (MWg_3 K a _) rfl (MWs_3 K a _ _) dX4_take_70 ?_
        refine g_state (fun u5 => ?_)
        refine g_aload_n C 0 dX4_take_71 rfl rfl ?_
        refine g_get C (fun _ h => List.mem_cons_of_mem _ (List.mem_append_right _ h)) 0 (MWg_0 K a _) rfl 7 (by decide) (List.mem_of_getElem? (i := 1) rfl) rfl rfl dX4_take_72 ?_
        refine g_iload_n C 1 dX4_take_75 rfl rfl ?_
        refine g_callSi C (n := 2) (As := [.ref (a 3), .int v1]) (rest := []) (fun r h => mX4_bag l D K (a 3) _ _ r h) (MWe_3 D K a _) gX4_take_X4_bag rfl (by decide +kernel) ⟨Nat.le_of_ble_eq_true rfl, Nat.le_of_ble_eq_true rfl, rfl, rfl⟩ rfl rfl (Nat.le_of_ble_eq_true rfl) dX4_take_76 (fun r6 _ => ?_)
        refine g_state (fun u7 => ?_)
        exact g_ret C ⟨dX4_take_79, rfl, rfl⟩
      · refine g_iconst C (v := (0 : Int32)) dX4_take_52 ic_0 ?_
        exact g_ret C ⟨dX4_take_53, rfl, rfl⟩
    intro σ v1 v2 s0
    unfold fX4_take_L19
    refine g_istore_n C (lv' := [(3, .int s0), (0, .ref (a 0)), (1, .int v1), (2, .int v2)]) dX4_take_19 rfl (by decide) rfl ?_
    refine g_aload_n C 1 dX4_take_20 rfl rfl ?_
    refine g_iload_n C 0 dX4_take_21 rfl rfl ?_
    refine g_if_ne C 29 dX4_take_22 (by decide) (fun _ => ?_) (fun _ => ?_)
    · refine g_iconst C (v := (1 : Int32)) dX4_take_25 ic_1 ?_
      refine g_goto C 46 dX4_take_26 (by decide) ?_
      refine g_sub C (lv' := [(0, .ref (a 0)), (1, .int v1), (2, .int v2)]) [1, 2, 3] rfl ?_
      exact h_46 σ v1 v2 (1 : Int32)
    · refine g_aload_n C 1 dX4_take_29 rfl rfl ?_
      refine g_get C (fun _ h => List.mem_cons_of_mem _ (List.mem_append_right _ h)) 0 (MWg_0 K a _) rfl 7 (by decide) (List.mem_of_getElem? (i := 1) rfl) rfl rfl dX4_take_30 ?_
      refine g_iload_n C 2 dX4_take_33 rfl rfl ?_
      refine g_iload_n C 3 dX4_take_34 rfl rfl ?_
      refine g_callSi C (n := 3) (As := [.ref (a 3), .int v1, .int v2]) (rest := [.ref (a 0)]) (fun r h => mX4_canTake l D K (a 3) _ _ _ r h) (MWe_3 D K a _) gX4_take_X4_canTake rfl (by decide +kernel) ⟨Nat.le_of_ble_eq_true rfl, Nat.le_of_ble_eq_true rfl, rfl, rfl⟩ rfl rfl (Nat.le_of_ble_eq_true rfl) dX4_take_35 (fun r8 _ => ?_)
      refine g_state (fun u9 => ?_)
      refine g_if_eq C 45 dX4_take_38 (by decide) (fun _ => ?_) (fun _ => ?_)
      · refine g_iconst C (v := (2 : Int32)) dX4_take_45 ic_2 ?_
        refine g_sub C (lv' := [(0, .ref (a 0)), (1, .int v1), (2, .int v2)]) [1, 2, 3] rfl ?_
        exact h_46 u9 v1 v2 (2 : Int32)
      · refine g_iconst C (v := (0 : Int32)) dX4_take_41 ic_0 ?_
        refine g_goto C 46 dX4_take_42 (by decide) ?_
        refine g_sub C (lv' := [(0, .ref (a 0)), (1, .int v1), (2, .int v2)]) [1, 2, 3] rfl ?_
        exact h_46 u9 v1 v2 (0 : Int32)
  refine g_iload_n C 1 dX4_take_0 rfl rfl ?_
  refine g_callSi C (n := 1) (As := [.int p1]) (rest := []) (fun r h => mX4_isVisitor l D K _ r h) gE.nil (τ := ()) gX4_take_X4_isVisitor rfl (by decide +kernel) ⟨Nat.le_of_ble_eq_true rfl, Nat.le_of_ble_eq_true rfl, rfl, rfl⟩ rfl rfl (Nat.le_of_ble_eq_true rfl) dX4_take_1 (fun r10 _ => ?_)
  refine g_if_eq C 18 dX4_take_4 (by decide) (fun _ => ?_) (fun _ => ?_)
  · refine g_iconst C (v := (0 : Int32)) dX4_take_18 ic_0 ?_
    exact h_19 σ p1 p2 (0 : Int32)
  · refine g_iload_n C 2 dX4_take_7 rfl rfl ?_
    refine g_callSi C (n := 1) (As := [.int p2]) (rest := []) (fun r h => mX4_isBook l D K _ r h) gE.nil (τ := ()) gX4_take_X4_isBook rfl (by decide +kernel) ⟨Nat.le_of_ble_eq_true rfl, Nat.le_of_ble_eq_true rfl, rfl, rfl⟩ rfl rfl (Nat.le_of_ble_eq_true rfl) dX4_take_8 (fun r11 _ => ?_)
    refine g_if_eq C 18 dX4_take_11 (by decide) (fun _ => ?_) (fun _ => ?_)
    · refine g_iconst C (v := (0 : Int32)) dX4_take_18 ic_0 ?_
      exact h_19 σ p1 p2 (0 : Int32)
    · refine g_iconst C (v := (1 : Int32)) dX4_take_14 ic_1 ?_
      refine g_goto C 19 dX4_take_15 (by decide) ?_
      exact h_19 σ p1 p2 (1 : Int32)
set_option maxHeartbeats 4000000 in
set_option maxRecDepth 100000 in
theorem mX4_putBack (l : Launch) (D : va_G) (K : Nat → ClassId) (a : Nat → Nat) (σ : gS) (p1 : Int32) (r : (Int32 × gS)) (hf : fX4_putBack σ p1 = some r) : gMi l yX4_putBack wsX4_putBack { frames := 4, cells := 0, slots := 0, locals := 85 } D (gT K) (MW K a) [.ref (a 0), .int p1] σ r := by
  refine mk_i (nL := 3) (cc := cX4_putBack) (by decide) rfl (Nat.le_of_ble_eq_true rfl) rfl rfl hf (fun g C => ?_)
  refine g_sub C (lv' := [(0, .ref (a 0)), (1, .int p1)]) [0, 1] rfl ?_
  unfold fX4_putBack
  have h_28 : ∀ (σ : gS) (v1 : Int32) (s1 : Int32), g (fX4_putBack_L28 σ v1 s1) 28 [(0, .ref (a 0)), (1, .int v1)] [.int s1, .ref (a 0)] σ := by
    intro σ v1 s1
    unfold fX4_putBack_L28
    refine g_callVi C (n := 1) (As := [.int s1]) (rest := []) (fun r h => mX4_refused l D K a _ _ r h) gE.same gX4_putBack_X4_refused rfl (by decide +kernel) ⟨Nat.le_of_ble_eq_true rfl, Nat.le_of_ble_eq_true rfl, rfl, rfl⟩ 0 (MWg_0 K a _) rfl rfl rfl (Nat.le_of_ble_eq_true rfl) dX4_putBack_28 (fun r1 _ => ?_)
    refine g_if_eq C 36 dX4_putBack_31 (by decide) (fun _ => ?_) (fun _ => ?_)
    · refine g_aload_n C 0 dX4_putBack_36 rfl rfl ?_
      refine g_callVv C (n := 0) (As := []) (rest := []) (fun r h => mX4_remember l D K a _ r h) gE.same gX4_putBack_X4_remember rfl (by decide +kernel) ⟨Nat.le_of_ble_eq_true rfl, Nat.le_of_ble_eq_true rfl, rfl, rfl⟩ 0 (MWg_0 K a _) rfl rfl rfl (Nat.le_of_ble_eq_true rfl) dX4_putBack_37 (fun r2 _ => ?_)
      refine g_aload_n C 0 dX4_putBack_40 rfl rfl ?_
      refine g_get C (fun _ h => List.mem_cons_of_mem _ (List.mem_append_right _ h)) 0 (MWg_0 K a _) rfl 7 (by decide) (List.mem_of_getElem? (i := 1) rfl) rfl rfl dX4_putBack_41 ?_
      refine g_iload_n C 1 dX4_putBack_44 rfl rfl ?_
      refine g_iconst C (v := (0 : Int32)) dX4_putBack_45 ic_0 ?_
      refine g_callSi C (n := 2) (As := [.int v1, .int (0 : Int32)]) (rest := [.ref (a 3)]) (fun r h => mX4_bookAt l D K _ _ r h) gE.nil (τ := ()) gX4_putBack_X4_bookAt rfl (by decide +kernel) ⟨Nat.le_of_ble_eq_true rfl, Nat.le_of_ble_eq_true rfl, rfl, rfl⟩ rfl rfl (Nat.le_of_ble_eq_true rfl) dX4_putBack_46 (fun r3 _ => ?_)
      refine g_ialdG C 3 0 (MWg_3 K a _) rfl dX4_putBack_49 ?_
      refine g_iconst C (v := (1 : Int32)) dX4_putBack_50 ic_1 ?_
      refine g_isub C dX4_putBack_51 ?_
      refine g_topi (fun t4 => ?_)
      refine g_istore_n C (lv' := [(2, .int t4), (0, .ref (a 0)), (1, .int v1)]) dX4_putBack_52 rfl (by decide) rfl ?_
      refine g_aload_n C 1 dX4_putBack_53 rfl rfl ?_
      refine g_get C (fun _ h => List.mem_cons_of_mem _ (List.mem_append_right _ h)) 0 (MWg_0 K a _) rfl 7 (by decide) (List.mem_of_getElem? (i := 1) rfl) rfl rfl dX4_putBack_54 ?_
      refine g_iload_n C 2 dX4_putBack_57 rfl rfl ?_
      refine g_iconst C (v := (0 : Int32)) dX4_putBack_58 ic_0 ?_
      refine g_callSi C (n := 2) (As := [.int v1, .int (0 : Int32)]) (rest := [.ref (a 3)]) (fun r h => mX4_bookAt l D K _ _ r h) gE.nil (τ := ()) gX4_putBack_X4_bookAt rfl (by decide +kernel) ⟨Nat.le_of_ble_eq_true rfl, Nat.le_of_ble_eq_true rfl, rfl, rfl⟩ rfl rfl (Nat.le_of_ble_eq_true rfl) dX4_putBack_59 (fun r5 _ => ?_)
      refine g_iconst C (v := (0 : Int32)) dX4_putBack_62 ic_0 ?_
      refine g_iastG C 3 0 (MWg_3 K a _) rfl (MWs_3 K a _ _) dX4_putBack_63 ?_
      refine g_state (fun u6 => ?_)
      refine g_iload_n C 0 dX4_putBack_64 rfl rfl ?_
      exact g_ret C ⟨dX4_putBack_65, rfl, rfl⟩
    · refine g_iconst C (v := (0 : Int32)) dX4_putBack_34 ic_0 ?_
      exact g_ret C ⟨dX4_putBack_35, rfl, rfl⟩
  refine g_aload_n C 0 dX4_putBack_0 rfl rfl ?_
  refine g_iload_n C 1 dX4_putBack_1 rfl rfl ?_
  refine g_callSi C (n := 1) (As := [.int p1]) (rest := [.ref (a 0)]) (fun r h => mX4_isBook l D K _ r h) gE.nil (τ := ()) gX4_putBack_X4_isBook rfl (by decide +kernel) ⟨Nat.le_of_ble_eq_true rfl, Nat.le_of_ble_eq_true rfl, rfl, rfl⟩ rfl rfl (Nat.le_of_ble_eq_true rfl) dX4_putBack_2 (fun r7 _ => ?_)
  refine g_if_ne C 12 dX4_putBack_5 (by decide) (fun _ => ?_) (fun _ => ?_)
  · refine g_iconst C (v := (1 : Int32)) dX4_putBack_8 ic_1 ?_
    refine g_goto C 28 dX4_putBack_9 (by decide) ?_
    exact h_28 σ p1 (1 : Int32)
  · refine g_aload_n C 0 dX4_putBack_12 rfl rfl ?_
    refine g_get C (fun _ h => List.mem_cons_of_mem _ (List.mem_append_right _ h)) 0 (MWg_0 K a _) rfl 7 (by decide) (List.mem_of_getElem? (i := 1) rfl) rfl rfl dX4_putBack_13 ?_
    refine g_iload_n C 1 dX4_putBack_16 rfl rfl ?_
    refine g_callSi C (n := 2) (As := [.ref (a 3), .int p1]) (rest := [.ref (a 0)]) (fun r h => mX4_canPutBack l D K (a 3) _ _ r h) (MWe_3 D K a _) gX4_putBack_X4_canPutBack rfl (by decide +kernel) ⟨Nat.le_of_ble_eq_true rfl, Nat.le_of_ble_eq_true rfl, rfl, rfl⟩ rfl rfl (Nat.le_of_ble_eq_true rfl) dX4_putBack_17 (fun r8 _ => ?_)
    refine g_state (fun u9 => ?_)
    refine g_if_eq C 27 dX4_putBack_20 (by decide) (fun _ => ?_) (fun _ => ?_)
    · refine g_iconst C (v := (2 : Int32)) dX4_putBack_27 ic_2 ?_
      exact h_28 u9 p1 (2 : Int32)
    · refine g_iconst C (v := (0 : Int32)) dX4_putBack_23 ic_0 ?_
      refine g_goto C 28 dX4_putBack_24 (by decide) ?_
      exact h_28 u9 p1 (0 : Int32)
set_option maxHeartbeats 4000000 in
set_option maxRecDepth 100000 in
theorem mX4_mark (l : Launch) (D : va_G) (K : Nat → ClassId) (a : Nat → Nat) (σ : gS) (p1 : Int32) (p2 : Int32) (r : (Int32 × gS)) (hf : fX4_mark σ p1 p2 = some r) : gMi l yX4_mark wsX4_mark { frames := 4, cells := 0, slots := 0, locals := 86 } D (gT K) (MW K a) [.ref (a 0), .int p1, .int p2] σ r := by
  refine mk_i (nL := 3) (cc := cX4_mark) (by decide) rfl (Nat.le_of_ble_eq_true rfl) rfl rfl hf (fun g C => ?_)
  refine g_sub C (lv' := [(0, .ref (a 0)), (1, .int p1), (2, .int p2)]) [0, 1, 2] rfl ?_
  unfold fX4_mark
  have h_29 : ∀ (σ : gS) (v1 : Int32) (v2 : Int32) (s1 : Int32), g (fX4_mark_L29 σ v1 v2 s1) 29 [(0, .ref (a 0)), (1, .int v1), (2, .int v2)] [.int s1, .ref (a 0)] σ := by
    intro σ v1 v2 s1
    unfold fX4_mark_L29
    refine g_callVi C (n := 1) (As := [.int s1]) (rest := []) (fun r h => mX4_refused l D K a _ _ r h) gE.same gX4_mark_X4_refused rfl (by decide +kernel) ⟨Nat.le_of_ble_eq_true rfl, Nat.le_of_ble_eq_true rfl, rfl, rfl⟩ 0 (MWg_0 K a _) rfl rfl rfl (Nat.le_of_ble_eq_true rfl) dX4_mark_29 (fun r1 _ => ?_)
    refine g_if_eq C 37 dX4_mark_32 (by decide) (fun _ => ?_) (fun _ => ?_)
    · refine g_aload_n C 0 dX4_mark_37 rfl rfl ?_
      refine g_callVv C (n := 0) (As := []) (rest := []) (fun r h => mX4_remember l D K a _ r h) gE.same gX4_mark_X4_remember rfl (by decide +kernel) ⟨Nat.le_of_ble_eq_true rfl, Nat.le_of_ble_eq_true rfl, rfl, rfl⟩ 0 (MWg_0 K a _) rfl rfl rfl (Nat.le_of_ble_eq_true rfl) dX4_mark_38 (fun r2 _ => ?_)
      refine g_aload_n C 0 dX4_mark_41 rfl rfl ?_
      refine g_get C (fun _ h => List.mem_cons_of_mem _ (List.mem_append_right _ h)) 0 (MWg_0 K a _) rfl 7 (by decide) (List.mem_of_getElem? (i := 1) rfl) rfl rfl dX4_mark_42 ?_
      refine g_iload_n C 1 dX4_mark_45 rfl rfl ?_
      refine g_iconst C (v := (1 : Int32)) dX4_mark_46 ic_1 ?_
      refine g_callSi C (n := 2) (As := [.int v1, .int (1 : Int32)]) (rest := [.ref (a 3)]) (fun r h => mX4_bookAt l D K _ _ r h) gE.nil (τ := ()) gX4_mark_X4_bookAt rfl (by decide +kernel) ⟨Nat.le_of_ble_eq_true rfl, Nat.le_of_ble_eq_true rfl, rfl, rfl⟩ rfl rfl (Nat.le_of_ble_eq_true rfl) dX4_mark_47 (fun r3 _ => ?_)
      refine g_iload_n C 2 dX4_mark_50 rfl rfl ?_
      refine g_iastG C 3 0 (MWg_3 K a _) rfl (MWs_3 K a _ _) dX4_mark_51 ?_
      refine g_state (fun u4 => ?_)
      refine g_aload_n C 0 dX4_mark_52 rfl rfl ?_
      refine g_get C (fun _ h => List.mem_cons_of_mem _ (List.mem_append_right _ h)) 0 (MWg_0 K a _) rfl 7 (by decide) (List.mem_of_getElem? (i := 1) rfl) rfl rfl dX4_mark_53 ?_
      refine g_callSi C (n := 1) (As := [.ref (a 3)]) (rest := []) (fun r h => mX4_borrowed l D K (a 3) _ r h) (MWe_3 D K a _) gX4_mark_X4_borrowed rfl (by decide +kernel) ⟨Nat.le_of_ble_eq_true rfl, Nat.le_of_ble_eq_true rfl, rfl, rfl⟩ rfl rfl (Nat.le_of_ble_eq_true rfl) dX4_mark_56 (fun r5 _ => ?_)
      refine g_state (fun u6 => ?_)
      exact g_ret C ⟨dX4_mark_59, rfl, rfl⟩
    · refine g_iconst C (v := (0 : Int32)) dX4_mark_35 ic_0 ?_
      exact g_ret C ⟨dX4_mark_36, rfl, rfl⟩
  refine g_aload_n C 0 dX4_mark_0 rfl rfl ?_
  refine g_iload_n C 1 dX4_mark_1 rfl rfl ?_
  refine g_callSi C (n := 1) (As := [.int p1]) (rest := [.ref (a 0)]) (fun r h => mX4_isBook l D K _ r h) gE.nil (τ := ()) gX4_mark_X4_isBook rfl (by decide +kernel) ⟨Nat.le_of_ble_eq_true rfl, Nat.le_of_ble_eq_true rfl, rfl, rfl⟩ rfl rfl (Nat.le_of_ble_eq_true rfl) dX4_mark_2 (fun r7 _ => ?_)
  refine g_if_ne C 12 dX4_mark_5 (by decide) (fun _ => ?_) (fun _ => ?_)
  · refine g_iconst C (v := (1 : Int32)) dX4_mark_8 ic_1 ?_
    refine g_goto C 29 dX4_mark_9 (by decide) ?_
    exact h_29 σ p1 p2 (1 : Int32)
  · refine g_aload_n C 0 dX4_mark_12 rfl rfl ?_
    refine g_get C (fun _ h => List.mem_cons_of_mem _ (List.mem_append_right _ h)) 0 (MWg_0 K a _) rfl 7 (by decide) (List.mem_of_getElem? (i := 1) rfl) rfl rfl dX4_mark_13 ?_
    refine g_iload_n C 1 dX4_mark_16 rfl rfl ?_
    refine g_iload_n C 2 dX4_mark_17 rfl rfl ?_
    refine g_callSi C (n := 3) (As := [.ref (a 3), .int p1, .int p2]) (rest := [.ref (a 0)]) (fun r h => mX4_canBorrow l D K (a 3) _ _ _ r h) (MWe_3 D K a _) gX4_mark_X4_canBorrow rfl (by decide +kernel) ⟨Nat.le_of_ble_eq_true rfl, Nat.le_of_ble_eq_true rfl, rfl, rfl⟩ rfl rfl (Nat.le_of_ble_eq_true rfl) dX4_mark_18 (fun r8 _ => ?_)
    refine g_state (fun u9 => ?_)
    refine g_if_eq C 28 dX4_mark_21 (by decide) (fun _ => ?_) (fun _ => ?_)
    · refine g_iconst C (v := (2 : Int32)) dX4_mark_28 ic_2 ?_
      exact h_29 u9 p1 p2 (2 : Int32)
    · refine g_iconst C (v := (0 : Int32)) dX4_mark_24 ic_0 ?_
      refine g_goto C 29 dX4_mark_25 (by decide) ?_
      exact h_29 u9 p1 p2 (0 : Int32)
set_option maxHeartbeats 4000000 in
set_option maxRecDepth 100000 in
theorem mX4_borrow (l : Launch) (D : va_G) (K : Nat → ClassId) (a : Nat → Nat) (σ : gS) (p1 : Int32) (r : (Int32 × gS)) (hf : fX4_borrow σ p1 = some r) : gMi l yX4_borrow wsX4_borrow { frames := 5, cells := 0, slots := 0, locals := 108 } D (gT K) (MW K a) [.ref (a 0), .int p1] σ r := by
  refine mk_i (nL := 2) (cc := cX4_borrow) (by decide) rfl (Nat.le_of_ble_eq_true rfl) rfl rfl hf (fun g C => ?_)
  refine g_sub C (lv' := [(0, .ref (a 0)), (1, .int p1)]) [0, 1] rfl ?_
  unfold fX4_borrow
  refine g_aload_n C 0 dX4_borrow_0 rfl rfl ?_
  refine g_iload_n C 1 dX4_borrow_1 rfl rfl ?_
  refine g_iconst C (v := (1 : Int32)) dX4_borrow_2 ic_1 ?_
  refine g_callVi C (n := 2) (As := [.int p1, .int (1 : Int32)]) (rest := []) (fun r h => mX4_mark l D K a _ _ _ r h) gE.same gX4_borrow_X4_mark rfl (by decide +kernel) ⟨Nat.le_of_ble_eq_true rfl, Nat.le_of_ble_eq_true rfl, rfl, rfl⟩ 0 (MWg_0 K a _) rfl rfl rfl (Nat.le_of_ble_eq_true rfl) dX4_borrow_3 (fun r1 _ => ?_)
  exact g_ret C ⟨dX4_borrow_6, rfl, rfl⟩
set_option maxHeartbeats 4000000 in
set_option maxRecDepth 100000 in
theorem mX4_bringBack (l : Launch) (D : va_G) (K : Nat → ClassId) (a : Nat → Nat) (σ : gS) (p1 : Int32) (r : (Int32 × gS)) (hf : fX4_bringBack σ p1 = some r) : gMi l yX4_bringBack wsX4_bringBack { frames := 5, cells := 0, slots := 0, locals := 108 } D (gT K) (MW K a) [.ref (a 0), .int p1] σ r := by
  refine mk_i (nL := 2) (cc := cX4_bringBack) (by decide) rfl (Nat.le_of_ble_eq_true rfl) rfl rfl hf (fun g C => ?_)
  refine g_sub C (lv' := [(0, .ref (a 0)), (1, .int p1)]) [0, 1] rfl ?_
  unfold fX4_bringBack
  refine g_aload_n C 0 dX4_bringBack_0 rfl rfl ?_
  refine g_iload_n C 1 dX4_bringBack_1 rfl rfl ?_
  refine g_iconst C (v := (0 : Int32)) dX4_bringBack_2 ic_0 ?_
  refine g_callVi C (n := 2) (As := [.int p1, .int (0 : Int32)]) (rest := []) (fun r h => mX4_mark l D K a _ _ _ r h) gE.same gX4_bringBack_X4_mark rfl (by decide +kernel) ⟨Nat.le_of_ble_eq_true rfl, Nat.le_of_ble_eq_true rfl, rfl, rfl⟩ 0 (MWg_0 K a _) rfl rfl rfl (Nat.le_of_ble_eq_true rfl) dX4_bringBack_3 (fun r1 _ => ?_)
  exact g_ret C ⟨dX4_bringBack_6, rfl, rfl⟩
set_option maxHeartbeats 4000000 in
set_option maxRecDepth 100000 in
theorem mX4_walk (l : Launch) (D : va_G) (K : Nat → ClassId) (a : Nat → Nat) (σ : gS) (p1 : Int32) (p2 : Int32) (p3 : Int32) (r : (Int32 × gS)) (hf : fX4_walk σ p1 p2 p3 = some r) : gMi l yX4_walk wsX4_walk { frames := 2, cells := 0, slots := 0, locals := 46 } D (gT K) (MW K a) [.ref (a 0), .int p1, .int p2, .int p3] σ r := by
  refine mk_i (nL := 5) (cc := cX4_walk) (by decide) rfl (Nat.le_of_ble_eq_true rfl) rfl rfl hf (fun g C => ?_)
  refine g_sub C (lv' := [(0, .ref (a 0)), (1, .int p1), (2, .int p2), (3, .int p3)]) [0, 1, 2, 3] rfl ?_
  unfold fX4_walk
  have h_19 : ∀ (σ : gS) (v1 : Int32) (v2 : Int32) (v3 : Int32) (s0 : Int32), g (fX4_walk_L19 σ v1 v2 v3 s0) 19 [(0, .ref (a 0)), (1, .int v1), (2, .int v2), (3, .int v3)] [.int s0] σ := by
    have h_48 : ∀ (σ : gS) (v1 : Int32) (v2 : Int32) (v3 : Int32) (s1 : Int32), g (fX4_walk_L48 σ v1 v2 v3 s1) 48 [(0, .ref (a 0)), (1, .int v1), (2, .int v2), (3, .int v3)] [.int s1, .ref (a 0)] σ := by
      intro σ v1 v2 v3 s1
      unfold fX4_walk_L48
      refine g_callVi C (n := 1) (As := [.int s1]) (rest := []) (fun r h => mX4_refused l D K a _ _ r h) gE.same gX4_walk_X4_refused rfl (by decide +kernel) ⟨Nat.le_of_ble_eq_true rfl, Nat.le_of_ble_eq_true rfl, rfl, rfl⟩ 0 (MWg_0 K a _) rfl rfl rfl (Nat.le_of_ble_eq_true rfl) dX4_walk_48 (fun r1 _ => ?_)
      refine g_if_eq C 56 dX4_walk_51 (by decide) (fun _ => ?_) (fun _ => ?_)
      · refine g_aload_n C 0 dX4_walk_56 rfl rfl ?_
        refine g_callVv C (n := 0) (As := []) (rest := []) (fun r h => mX4_remember l D K a _ r h) gE.same gX4_walk_X4_remember rfl (by decide +kernel) ⟨Nat.le_of_ble_eq_true rfl, Nat.le_of_ble_eq_true rfl, rfl, rfl⟩ 0 (MWg_0 K a _) rfl rfl rfl (Nat.le_of_ble_eq_true rfl) dX4_walk_57 (fun r2 _ => ?_)
        refine g_aload_n C 0 dX4_walk_60 rfl rfl ?_
        refine g_get C (fun _ h => List.mem_cons_of_mem _ (List.mem_append_right _ h)) 0 (MWg_0 K a _) rfl 7 (by decide) (List.mem_of_getElem? (i := 1) rfl) rfl rfl dX4_walk_61 ?_
        refine g_iload_n C 1 dX4_walk_64 rfl rfl ?_
        refine g_iload_n C 2 dX4_walk_65 rfl rfl ?_
        refine g_iload_n C 3 dX4_walk_66 rfl rfl ?_
        refine g_callSi C (n := 4) (As := [.ref (a 3), .int v1, .int v2, .int v3]) (rest := []) (fun r h => mX4_walkIn l D K (a 3) _ _ _ _ r h) (MWe_3 D K a _) gX4_walk_X4_walkIn rfl (by decide +kernel) ⟨Nat.le_of_ble_eq_true rfl, Nat.le_of_ble_eq_true rfl, rfl, rfl⟩ rfl rfl (Nat.le_of_ble_eq_true rfl) dX4_walk_67 (fun r3 _ => ?_)
        refine g_state (fun u4 => ?_)
        exact g_ret C ⟨dX4_walk_70, rfl, rfl⟩
      · refine g_iconst C (v := (0 : Int32)) dX4_walk_54 ic_0 ?_
        exact g_ret C ⟨dX4_walk_55, rfl, rfl⟩
    intro σ v1 v2 v3 s0
    unfold fX4_walk_L19
    refine g_istore C (lv' := [(4, .int s0), (0, .ref (a 0)), (1, .int v1), (2, .int v2), (3, .int v3)]) dX4_walk_19 (by decide) rfl ?_
    refine g_aload_n C 1 dX4_walk_21 rfl rfl ?_
    refine g_iload C 0 dX4_walk_22 rfl ?_
    refine g_if_ne C 31 dX4_walk_24 (by decide) (fun _ => ?_) (fun _ => ?_)
    · refine g_iconst C (v := (1 : Int32)) dX4_walk_27 ic_1 ?_
      refine g_goto C 48 dX4_walk_28 (by decide) ?_
      refine g_sub C (lv' := [(0, .ref (a 0)), (1, .int v1), (2, .int v2), (3, .int v3)]) [1, 2, 3, 4] rfl ?_
      exact h_48 σ v1 v2 v3 (1 : Int32)
    · refine g_aload_n C 1 dX4_walk_31 rfl rfl ?_
      refine g_get C (fun _ h => List.mem_cons_of_mem _ (List.mem_append_right _ h)) 0 (MWg_0 K a _) rfl 7 (by decide) (List.mem_of_getElem? (i := 1) rfl) rfl rfl dX4_walk_32 ?_
      refine g_iload_n C 2 dX4_walk_35 rfl rfl ?_
      refine g_iload_n C 4 dX4_walk_36 rfl rfl ?_
      refine g_callSi C (n := 3) (As := [.ref (a 3), .int v1, .int v3]) (rest := [.ref (a 0)]) (fun r h => mX4_canWalk l D K (a 3) _ _ _ r h) (MWe_3 D K a _) gX4_walk_X4_canWalk rfl (by decide +kernel) ⟨Nat.le_of_ble_eq_true rfl, Nat.le_of_ble_eq_true rfl, rfl, rfl⟩ rfl rfl (Nat.le_of_ble_eq_true rfl) dX4_walk_37 (fun r5 _ => ?_)
      refine g_state (fun u6 => ?_)
      refine g_if_eq C 47 dX4_walk_40 (by decide) (fun _ => ?_) (fun _ => ?_)
      · refine g_iconst C (v := (2 : Int32)) dX4_walk_47 ic_2 ?_
        refine g_sub C (lv' := [(0, .ref (a 0)), (1, .int v1), (2, .int v2), (3, .int v3)]) [1, 2, 3, 4] rfl ?_
        exact h_48 u6 v1 v2 v3 (2 : Int32)
      · refine g_iconst C (v := (0 : Int32)) dX4_walk_43 ic_0 ?_
        refine g_goto C 48 dX4_walk_44 (by decide) ?_
        refine g_sub C (lv' := [(0, .ref (a 0)), (1, .int v1), (2, .int v2), (3, .int v3)]) [1, 2, 3, 4] rfl ?_
        exact h_48 u6 v1 v2 v3 (0 : Int32)
  refine g_iload_n C 1 dX4_walk_0 rfl rfl ?_
  refine g_callSi C (n := 1) (As := [.int p1]) (rest := []) (fun r h => mX4_isVisitor l D K _ r h) gE.nil (τ := ()) gX4_walk_X4_isVisitor rfl (by decide +kernel) ⟨Nat.le_of_ble_eq_true rfl, Nat.le_of_ble_eq_true rfl, rfl, rfl⟩ rfl rfl (Nat.le_of_ble_eq_true rfl) dX4_walk_1 (fun r7 _ => ?_)
  refine g_if_eq C 18 dX4_walk_4 (by decide) (fun _ => ?_) (fun _ => ?_)
  · refine g_iconst C (v := (0 : Int32)) dX4_walk_18 ic_0 ?_
    exact h_19 σ p1 p2 p3 (0 : Int32)
  · refine g_iload_n C 2 dX4_walk_7 rfl rfl ?_
    refine g_callSi C (n := 1) (As := [.int p2]) (rest := []) (fun r h => mX4_isGate l D K _ r h) gE.nil (τ := ()) gX4_walk_X4_isGate rfl (by decide +kernel) ⟨Nat.le_of_ble_eq_true rfl, Nat.le_of_ble_eq_true rfl, rfl, rfl⟩ rfl rfl (Nat.le_of_ble_eq_true rfl) dX4_walk_8 (fun r8 _ => ?_)
    refine g_if_eq C 18 dX4_walk_11 (by decide) (fun _ => ?_) (fun _ => ?_)
    · refine g_iconst C (v := (0 : Int32)) dX4_walk_18 ic_0 ?_
      exact h_19 σ p1 p2 p3 (0 : Int32)
    · refine g_iconst C (v := (1 : Int32)) dX4_walk_14 ic_1 ?_
      refine g_goto C 19 dX4_walk_15 (by decide) ?_
      exact h_19 σ p1 p2 p3 (1 : Int32)
set_option maxHeartbeats 4000000 in
set_option maxRecDepth 100000 in
theorem mX4_turn (l : Launch) (D : va_G) (K : Nat → ClassId) (a : Nat → Nat) (σ : gS) (p1 : Int32) (r : (Int32 × gS)) (hf : fX4_turn σ p1 = some r) : gMi l yX4_turn wsX4_turn { frames := 2, cells := 0, slots := 0, locals := 45 } D (gT K) (MW K a) [.ref (a 0), .int p1] σ r := by
  refine mk_i (nL := 2) (cc := cX4_turn) (by decide) rfl (Nat.le_of_ble_eq_true rfl) rfl rfl hf (fun g C => ?_)
  refine g_sub C (lv' := [(0, .ref (a 0)), (1, .int p1)]) [0, 1] rfl ?_
  unfold fX4_turn
  have h_28 : ∀ (σ : gS) (v1 : Int32) (s1 : Int32), g (fX4_turn_L28 σ v1 s1) 28 [(0, .ref (a 0)), (1, .int v1)] [.int s1, .ref (a 0)] σ := by
    intro σ v1 s1
    unfold fX4_turn_L28
    refine g_callVi C (n := 1) (As := [.int s1]) (rest := []) (fun r h => mX4_refused l D K a _ _ r h) gE.same gX4_turn_X4_refused rfl (by decide +kernel) ⟨Nat.le_of_ble_eq_true rfl, Nat.le_of_ble_eq_true rfl, rfl, rfl⟩ 0 (MWg_0 K a _) rfl rfl rfl (Nat.le_of_ble_eq_true rfl) dX4_turn_28 (fun r1 _ => ?_)
    refine g_if_eq C 36 dX4_turn_31 (by decide) (fun _ => ?_) (fun _ => ?_)
    · refine g_aload_n C 0 dX4_turn_36 rfl rfl ?_
      refine g_callVv C (n := 0) (As := []) (rest := []) (fun r h => mX4_remember l D K a _ r h) gE.same gX4_turn_X4_remember rfl (by decide +kernel) ⟨Nat.le_of_ble_eq_true rfl, Nat.le_of_ble_eq_true rfl, rfl, rfl⟩ 0 (MWg_0 K a _) rfl rfl rfl (Nat.le_of_ble_eq_true rfl) dX4_turn_37 (fun r2 _ => ?_)
      refine g_aload_n C 0 dX4_turn_40 rfl rfl ?_
      refine g_get C (fun _ h => List.mem_cons_of_mem _ (List.mem_append_right _ h)) 0 (MWg_0 K a _) rfl 7 (by decide) (List.mem_of_getElem? (i := 1) rfl) rfl rfl dX4_turn_41 ?_
      refine g_iload_n C 1 dX4_turn_44 rfl rfl ?_
      refine g_callSi C (n := 2) (As := [.ref (a 3), .int v1]) (rest := []) (fun r h => mX4_turnIn l D K (a 3) _ _ r h) (MWe_3 D K a _) gX4_turn_X4_turnIn rfl (by decide +kernel) ⟨Nat.le_of_ble_eq_true rfl, Nat.le_of_ble_eq_true rfl, rfl, rfl⟩ rfl rfl (Nat.le_of_ble_eq_true rfl) dX4_turn_45 (fun r3 _ => ?_)
      refine g_state (fun u4 => ?_)
      exact g_ret C ⟨dX4_turn_48, rfl, rfl⟩
    · refine g_iconst C (v := (0 : Int32)) dX4_turn_34 ic_0 ?_
      exact g_ret C ⟨dX4_turn_35, rfl, rfl⟩
  refine g_aload_n C 0 dX4_turn_0 rfl rfl ?_
  refine g_iload_n C 1 dX4_turn_1 rfl rfl ?_
  refine g_callSi C (n := 1) (As := [.int p1]) (rest := [.ref (a 0)]) (fun r h => mX4_isVisitor l D K _ r h) gE.nil (τ := ()) gX4_turn_X4_isVisitor rfl (by decide +kernel) ⟨Nat.le_of_ble_eq_true rfl, Nat.le_of_ble_eq_true rfl, rfl, rfl⟩ rfl rfl (Nat.le_of_ble_eq_true rfl) dX4_turn_2 (fun r5 _ => ?_)
  refine g_if_ne C 12 dX4_turn_5 (by decide) (fun _ => ?_) (fun _ => ?_)
  · refine g_iconst C (v := (1 : Int32)) dX4_turn_8 ic_1 ?_
    refine g_goto C 28 dX4_turn_9 (by decide) ?_
    exact h_28 σ p1 (1 : Int32)
  · refine g_aload_n C 0 dX4_turn_12 rfl rfl ?_
    refine g_get C (fun _ h => List.mem_cons_of_mem _ (List.mem_append_right _ h)) 0 (MWg_0 K a _) rfl 7 (by decide) (List.mem_of_getElem? (i := 1) rfl) rfl rfl dX4_turn_13 ?_
    refine g_iload_n C 1 dX4_turn_16 rfl rfl ?_
    refine g_callSi C (n := 2) (As := [.ref (a 3), .int p1]) (rest := [.ref (a 0)]) (fun r h => mX4_isAtGate l D K (a 3) _ _ r h) (MWe_3 D K a _) gX4_turn_X4_isAtGate rfl (by decide +kernel) ⟨Nat.le_of_ble_eq_true rfl, Nat.le_of_ble_eq_true rfl, rfl, rfl⟩ rfl rfl (Nat.le_of_ble_eq_true rfl) dX4_turn_17 (fun r6 _ => ?_)
    refine g_state (fun u7 => ?_)
    refine g_if_eq C 27 dX4_turn_20 (by decide) (fun _ => ?_) (fun _ => ?_)
    · refine g_iconst C (v := (2 : Int32)) dX4_turn_27 ic_2 ?_
      exact h_28 u7 p1 (2 : Int32)
    · refine g_iconst C (v := (0 : Int32)) dX4_turn_23 ic_0 ?_
      refine g_goto C 28 dX4_turn_24 (by decide) ?_
      exact h_28 u7 p1 (0 : Int32)
set_option maxHeartbeats 4000000 in
set_option maxRecDepth 100000 in
theorem mX4_ticks (l : Launch) (D : va_G) (K : Nat → ClassId) (a : Nat → Nat) (σ : gS) (p1 : Int32) (r : (Int32 × gS)) (hf : fX4_ticks σ p1 = some r) : gMi l yX4_ticks wsX4_ticks { frames := 6, cells := 0, slots := 0, locals := 138 } D (gT K) (MW K a) [.ref (a 0), .int p1] σ r := by
  refine mk_i (nL := 2) (cc := cX4_ticks) (by decide) rfl (Nat.le_of_ble_eq_true rfl) rfl rfl hf (fun g C => ?_)
  refine g_sub C (lv' := [(0, .ref (a 0)), (1, .int p1)]) [0, 1] rfl ?_
  unfold fX4_ticks
  have h_18 : ∀ (σ : gS) (v1 : Int32) (s1 : Int32), g (fX4_ticks_L18 σ v1 s1) 18 [(0, .ref (a 0)), (1, .int v1)] [.int s1, .ref (a 0)] σ := by
    intro σ v1 s1
    unfold fX4_ticks_L18
    refine g_callVi C (n := 1) (As := [.int s1]) (rest := []) (fun r h => mX4_refused l D K a _ _ r h) gE.same gX4_ticks_X4_refused rfl (by decide +kernel) ⟨Nat.le_of_ble_eq_true rfl, Nat.le_of_ble_eq_true rfl, rfl, rfl⟩ 0 (MWg_0 K a _) rfl rfl rfl (Nat.le_of_ble_eq_true rfl) dX4_ticks_18 (fun r1 _ => ?_)
    refine g_if_eq C 26 dX4_ticks_21 (by decide) (fun _ => ?_) (fun _ => ?_)
    · refine g_aload_n C 0 dX4_ticks_26 rfl rfl ?_
      refine g_callVv C (n := 0) (As := []) (rest := []) (fun r h => mX4_remember l D K a _ r h) gE.same gX4_ticks_X4_remember rfl (by decide +kernel) ⟨Nat.le_of_ble_eq_true rfl, Nat.le_of_ble_eq_true rfl, rfl, rfl⟩ 0 (MWg_0 K a _) rfl rfl rfl (Nat.le_of_ble_eq_true rfl) dX4_ticks_27 (fun r2 _ => ?_)
      refine g_aload_n C 0 dX4_ticks_30 rfl rfl ?_
      refine g_get C (fun _ h => List.mem_cons_of_mem _ (List.mem_append_right _ h)) 0 (MWg_0 K a _) rfl 7 (by decide) (List.mem_of_getElem? (i := 2) rfl) rfl rfl dX4_ticks_31 ?_
      refine g_iload_n C 1 dX4_ticks_34 rfl rfl ?_
      refine g_callSi C (n := 2) (As := [.ref (a 3), .int v1]) (rest := []) (fun r h => mX4_ticksIn l D K (a 3) _ _ r h) (MWe_3 D K a _) gX4_ticks_X4_ticksIn rfl (by decide +kernel) ⟨Nat.le_of_ble_eq_true rfl, Nat.le_of_ble_eq_true rfl, rfl, rfl⟩ rfl rfl (Nat.le_of_ble_eq_true rfl) dX4_ticks_35 (fun r3 _ => ?_)
      refine g_state (fun u4 => ?_)
      exact g_ret C ⟨dX4_ticks_38, rfl, rfl⟩
    · refine g_iconst C (v := (0 : Int32)) dX4_ticks_24 ic_0 ?_
      exact g_ret C ⟨dX4_ticks_25, rfl, rfl⟩
  refine g_aload_n C 0 dX4_ticks_0 rfl rfl ?_
  refine g_iload_n C 1 dX4_ticks_1 rfl rfl ?_
  refine g_i2l C dX4_ticks_2 ?_
  refine g_lconst C (v := (1 : Int64)) dX4_ticks_3 (by decide) ?_
  refine g_ldc2 C (v := (50 : Int64)) (List.mem_of_getElem? (i := 1) rfl) dX4_ticks_4 ?_
  refine g_callSi C (n := 3) (As := [.long (p1).toInt64, .long (1 : Int64), .long (50 : Int64)]) (rest := [.ref (a 0)]) (fun r h => mX4_in l D K _ _ _ r h) gE.nil (τ := ()) gX4_ticks_X4_in rfl (by decide +kernel) ⟨Nat.le_of_ble_eq_true rfl, Nat.le_of_ble_eq_true rfl, rfl, rfl⟩ rfl rfl (Nat.le_of_ble_eq_true rfl) dX4_ticks_7 (fun r5 _ => ?_)
  refine g_if_eq C 17 dX4_ticks_10 (by decide) (fun _ => ?_) (fun _ => ?_)
  · refine g_iconst C (v := (1 : Int32)) dX4_ticks_17 ic_1 ?_
    exact h_18 σ p1 (1 : Int32)
  · refine g_iconst C (v := (0 : Int32)) dX4_ticks_13 ic_0 ?_
    refine g_goto C 18 dX4_ticks_14 (by decide) ?_
    exact h_18 σ p1 (0 : Int32)
set_option maxHeartbeats 4000000 in
set_option maxRecDepth 100000 in
theorem mX4_set (l : Launch) (D : va_G) (K : Nat → ClassId) (a : Nat → Nat) (σ : gS) (p1 : Int32) (p2 : Int32) (r : (Int32 × gS)) (hf : fX4_set σ p1 p2 = some r) : gMi l yX4_set wsX4_set { frames := 2, cells := 0, slots := 0, locals := 45 } D (gT K) (MW K a) [.ref (a 0), .int p1, .int p2] σ r := by
  refine mk_i (nL := 6) (cc := cX4_set) (by decide) rfl (Nat.le_of_ble_eq_true rfl) rfl rfl hf (fun g C => ?_)
  refine g_sub C (lv' := [(0, .ref (a 0)), (1, .int p1), (2, .int p2)]) [0, 1, 2] rfl ?_
  unfold fX4_set
  have h_63 : ∀ (σ : gS) (v1 : Int32) (v2 : Int32) (s0 : Int32), g (fX4_set_L63 σ v1 v2 s0) 63 [(0, .ref (a 0)), (1, .int v1), (2, .int v2)] [.int s0] σ := by
    have h_74 : ∀ (σ : gS) (v1 : Int32) (v2 : Int32) (s1 : Int32), g (fX4_set_L74 σ v1 v2 s1) 74 [(0, .ref (a 0)), (1, .int v1), (2, .int v2)] [.int s1, .ref (a 0)] σ := by
      have h_106 : ∀ (σ : gS) (v2 : Int32) (s0 : Int32), g (fX4_set_L106 σ v2 s0) 106 [(0, .ref (a 0)), (2, .int v2)] [.int s0] σ := by
        intro σ v2 s0
        unfold fX4_set_L106
        refine g_istore C (lv' := [(4, .int s0), (0, .ref (a 0)), (2, .int v2)]) dX4_set_106 (by decide) rfl ?_
        refine g_aload_n C 1 dX4_set_108 rfl rfl ?_
        refine g_get C (fun _ h => List.mem_cons_of_mem _ (List.mem_append_right _ h)) 0 (MWg_0 K a _) rfl 7 (by decide) (List.mem_of_getElem? (i := 5) rfl) rfl rfl dX4_set_109 ?_
        refine g_iload C 0 dX4_set_112 rfl ?_
        refine g_ialdG C 3 0 (MWg_3 K a _) rfl dX4_set_114 ?_
        refine g_topi (fun t1 => ?_)
        refine g_istore C (lv' := [(5, .int t1), (4, .int s0), (0, .ref (a 0)), (2, .int v2)]) dX4_set_115 (by decide) rfl ?_
        refine g_aload_n C 2 dX4_set_117 rfl rfl ?_
        refine g_get C (fun _ h => List.mem_cons_of_mem _ (List.mem_append_right _ h)) 0 (MWg_0 K a _) rfl 7 (by decide) (List.mem_of_getElem? (i := 5) rfl) rfl rfl dX4_set_118 ?_
        refine g_iload C 1 dX4_set_121 rfl ?_
        refine g_iload_n C 3 dX4_set_123 rfl rfl ?_
        refine g_iastG C 3 0 (MWg_3 K a _) rfl (MWs_3 K a _ _) dX4_set_124 ?_
        refine g_state (fun u2 => ?_)
        refine g_iload C 0 dX4_set_125 rfl ?_
        exact g_ret C ⟨dX4_set_127, rfl, rfl⟩
      intro σ v1 v2 s1
      unfold fX4_set_L74
      refine g_callVi C (n := 1) (As := [.int s1]) (rest := []) (fun r h => mX4_refused l D K a _ _ r h) gE.same gX4_set_X4_refused rfl (by decide +kernel) ⟨Nat.le_of_ble_eq_true rfl, Nat.le_of_ble_eq_true rfl, rfl, rfl⟩ 0 (MWg_0 K a _) rfl rfl rfl (Nat.le_of_ble_eq_true rfl) dX4_set_74 (fun r3 _ => ?_)
      refine g_if_eq C 82 dX4_set_77 (by decide) (fun _ => ?_) (fun _ => ?_)
      · refine g_aload_n C 0 dX4_set_82 rfl rfl ?_
        refine g_callVv C (n := 0) (As := []) (rest := []) (fun r h => mX4_remember l D K a _ r h) gE.same gX4_set_X4_remember rfl (by decide +kernel) ⟨Nat.le_of_ble_eq_true rfl, Nat.le_of_ble_eq_true rfl, rfl, rfl⟩ 0 (MWg_0 K a _) rfl rfl rfl (Nat.le_of_ble_eq_true rfl) dX4_set_83 (fun r4 _ => ?_)
        refine g_iload_n C 1 dX4_set_86 rfl rfl ?_
        refine g_iconst C (v := (3 : Int32)) dX4_set_87 ic_3 ?_
        refine g_icmp_ge C 99 dX4_set_88 (by decide) (fun _ => ?_) (fun _ => ?_)
        · refine g_sipush C (v := (196 : Int32)) dX4_set_99 (by decide) ?_
          refine g_iload_n C 1 dX4_set_102 rfl rfl ?_
          refine g_iadd C dX4_set_103 ?_
          refine g_iconst C (v := (3 : Int32)) dX4_set_104 ic_3 ?_
          refine g_isub C dX4_set_105 ?_
          refine g_sub C (lv' := [(0, .ref (a 0)), (2, .int v2)]) [0, 2] rfl ?_
          exact h_106 r4 v2 (((196 : Int32) + v1) - (3 : Int32))
        · refine g_iload_n C 1 dX4_set_91 rfl rfl ?_
          refine g_iconst C (v := (0 : Int32)) dX4_set_92 ic_0 ?_
          refine g_callSi C (n := 2) (As := [.int v1, .int (0 : Int32)]) (rest := []) (fun r h => mX4_gateAt l D K _ _ r h) gE.nil (τ := ()) gX4_set_X4_gateAt rfl (by decide +kernel) ⟨Nat.le_of_ble_eq_true rfl, Nat.le_of_ble_eq_true rfl, rfl, rfl⟩ rfl rfl (Nat.le_of_ble_eq_true rfl) dX4_set_93 (fun r5 _ => ?_)
          refine g_goto C 106 dX4_set_96 (by decide) ?_
          refine g_sub C (lv' := [(0, .ref (a 0)), (2, .int v2)]) [0, 2] rfl ?_
          exact h_106 r4 v2 r5.1
      · refine g_iconst C (v := (0 : Int32)) dX4_set_80 ic_0 ?_
        exact g_ret C ⟨dX4_set_81, rfl, rfl⟩
    intro σ v1 v2 s0
    unfold fX4_set_L63
    refine g_istore_n C (lv' := [(3, .int s0), (0, .ref (a 0)), (1, .int v1), (2, .int v2)]) dX4_set_63 rfl (by decide) rfl ?_
    refine g_aload_n C 1 dX4_set_64 rfl rfl ?_
    refine g_iload_n C 0 dX4_set_65 rfl rfl ?_
    refine g_if_eq C 73 dX4_set_66 (by decide) (fun _ => ?_) (fun _ => ?_)
    · refine g_iconst C (v := (1 : Int32)) dX4_set_73 ic_1 ?_
      refine g_sub C (lv' := [(0, .ref (a 0)), (1, .int v1), (2, .int v2)]) [1, 2, 3] rfl ?_
      exact h_74 σ v1 v2 (1 : Int32)
    · refine g_iconst C (v := (0 : Int32)) dX4_set_69 ic_0 ?_
      refine g_goto C 74 dX4_set_70 (by decide) ?_
      refine g_sub C (lv' := [(0, .ref (a 0)), (1, .int v1), (2, .int v2)]) [1, 2, 3] rfl ?_
      exact h_74 σ v1 v2 (0 : Int32)
  have h_24 : ∀ (σ : gS) (v1 : Int32) (v2 : Int32), g (fX4_set_L24 σ v1 v2) 24 [(0, .ref (a 0)), (1, .int v1), (2, .int v2)] [] σ := by
    have h_41 : ∀ (σ : gS) (v1 : Int32) (v2 : Int32), g (fX4_set_L41 σ v1 v2) 41 [(0, .ref (a 0)), (1, .int v1), (2, .int v2)] [] σ := by
      intro σ v1 v2
      unfold fX4_set_L41
      refine g_iload_n C 1 dX4_set_41 rfl rfl ?_
      refine g_iconst C (v := (4 : Int32)) dX4_set_42 ic_4 ?_
      refine g_icmp_ne C 62 dX4_set_43 (by decide) (fun _ => ?_) (fun _ => ?_)
      · refine g_iload_n C 2 dX4_set_46 rfl rfl ?_
        refine g_i2l C dX4_set_47 ?_
        refine g_lconst C (v := (0 : Int64)) dX4_set_48 (by decide) ?_
        refine g_ldc2 C (v := (9 : Int64)) (List.mem_of_getElem? (i := 4) rfl) dX4_set_49 ?_
        refine g_callSi C (n := 3) (As := [.long (v2).toInt64, .long (0 : Int64), .long (9 : Int64)]) (rest := []) (fun r h => mX4_in l D K _ _ _ r h) gE.nil (τ := ()) gX4_set_X4_in rfl (by decide +kernel) ⟨Nat.le_of_ble_eq_true rfl, Nat.le_of_ble_eq_true rfl, rfl, rfl⟩ rfl rfl (Nat.le_of_ble_eq_true rfl) dX4_set_52 (fun r6 _ => ?_)
        refine g_if_eq C 62 dX4_set_55 (by decide) (fun _ => ?_) (fun _ => ?_)
        · refine g_iconst C (v := (0 : Int32)) dX4_set_62 ic_0 ?_
          exact h_63 σ v1 v2 (0 : Int32)
        · refine g_iconst C (v := (1 : Int32)) dX4_set_58 ic_1 ?_
          refine g_goto C 63 dX4_set_59 (by decide) ?_
          exact h_63 σ v1 v2 (1 : Int32)
      · refine g_iconst C (v := (0 : Int32)) dX4_set_62 ic_0 ?_
        exact h_63 σ v1 v2 (0 : Int32)
    intro σ v1 v2
    unfold fX4_set_L24
    refine g_iload_n C 1 dX4_set_24 rfl rfl ?_
    refine g_iconst C (v := (3 : Int32)) dX4_set_25 ic_3 ?_
    refine g_icmp_ne C 41 dX4_set_26 (by decide) (fun _ => ?_) (fun _ => ?_)
    · refine g_iload_n C 2 dX4_set_29 rfl rfl ?_
      refine g_i2l C dX4_set_30 ?_
      refine g_lconst C (v := (1 : Int64)) dX4_set_31 (by decide) ?_
      refine g_ldc2 C (v := (3 : Int64)) (List.mem_of_getElem? (i := 3) rfl) dX4_set_32 ?_
      refine g_callSi C (n := 3) (As := [.long (v2).toInt64, .long (1 : Int64), .long (3 : Int64)]) (rest := []) (fun r h => mX4_in l D K _ _ _ r h) gE.nil (τ := ()) gX4_set_X4_in rfl (by decide +kernel) ⟨Nat.le_of_ble_eq_true rfl, Nat.le_of_ble_eq_true rfl, rfl, rfl⟩ rfl rfl (Nat.le_of_ble_eq_true rfl) dX4_set_35 (fun r7 _ => ?_)
      refine g_if_ne C 58 dX4_set_38 (by decide) (fun _ => ?_) (fun _ => ?_)
      · exact h_41 σ v1 v2
      · refine g_iconst C (v := (1 : Int32)) dX4_set_58 ic_1 ?_
        refine g_goto C 63 dX4_set_59 (by decide) ?_
        exact h_63 σ v1 v2 (1 : Int32)
    · exact h_41 σ v1 v2
  refine g_iload_n C 1 dX4_set_0 rfl rfl ?_
  refine g_i2l C dX4_set_1 ?_
  refine g_lconst C (v := (0 : Int64)) dX4_set_2 (by decide) ?_
  refine g_ldc2 C (v := (2 : Int64)) (List.mem_of_getElem? (i := 1) rfl) dX4_set_3 ?_
  refine g_callSi C (n := 3) (As := [.long (p1).toInt64, .long (0 : Int64), .long (2 : Int64)]) (rest := []) (fun r h => mX4_in l D K _ _ _ r h) gE.nil (τ := ()) gX4_set_X4_in rfl (by decide +kernel) ⟨Nat.le_of_ble_eq_true rfl, Nat.le_of_ble_eq_true rfl, rfl, rfl⟩ rfl rfl (Nat.le_of_ble_eq_true rfl) dX4_set_6 (fun r8 _ => ?_)
  refine g_if_eq C 24 dX4_set_9 (by decide) (fun _ => ?_) (fun _ => ?_)
  · exact h_24 σ p1 p2
  · refine g_iload_n C 2 dX4_set_12 rfl rfl ?_
    refine g_i2l C dX4_set_13 ?_
    refine g_lconst C (v := (0 : Int64)) dX4_set_14 (by decide) ?_
    refine g_ldc2 C (v := (15 : Int64)) (List.mem_of_getElem? (i := 2) rfl) dX4_set_15 ?_
    refine g_callSi C (n := 3) (As := [.long (p2).toInt64, .long (0 : Int64), .long (15 : Int64)]) (rest := []) (fun r h => mX4_in l D K _ _ _ r h) gE.nil (τ := ()) gX4_set_X4_in rfl (by decide +kernel) ⟨Nat.le_of_ble_eq_true rfl, Nat.le_of_ble_eq_true rfl, rfl, rfl⟩ rfl rfl (Nat.le_of_ble_eq_true rfl) dX4_set_18 (fun r9 _ => ?_)
    refine g_if_ne C 58 dX4_set_21 (by decide) (fun _ => ?_) (fun _ => ?_)
    · exact h_24 σ p1 p2
    · refine g_iconst C (v := (1 : Int32)) dX4_set_58 ic_1 ?_
      refine g_goto C 63 dX4_set_59 (by decide) ?_
      exact h_63 σ p1 p2 (1 : Int32)
set_option maxHeartbeats 4000000 in
set_option maxRecDepth 100000 in
theorem mX4_undo (l : Launch) (D : va_G) (K : Nat → ClassId) (a : Nat → Nat) (σ : gS) (r : (Int32 × gS)) (hf : fX4_undo σ  = some r) : gMi l yX4_undo wsX4_undo { frames := 1, cells := 0, slots := 0, locals := 25 } D (gT K) (MW K a) [.ref (a 0)] σ r := by
  refine mk_i (nL := 1) (cc := cX4_undo) (by decide) rfl (Nat.le_of_ble_eq_true rfl) rfl rfl hf (fun g C => ?_)
  refine g_sub C (lv' := [(0, .ref (a 0))]) [0] rfl ?_
  unfold fX4_undo
  have h_13 : ∀ (σ : gS) (s1 : Int32), g (fX4_undo_L13 σ s1) 13 [(0, .ref (a 0))] [.int s1, .ref (a 0)] σ := by
    intro σ s1
    unfold fX4_undo_L13
    refine g_callVi C (n := 1) (As := [.int s1]) (rest := []) (fun r h => mX4_refused l D K a _ _ r h) gE.same gX4_undo_X4_refused rfl (by decide +kernel) ⟨Nat.le_of_ble_eq_true rfl, Nat.le_of_ble_eq_true rfl, rfl, rfl⟩ 0 (MWg_0 K a _) rfl rfl rfl (Nat.le_of_ble_eq_true rfl) dX4_undo_13 (fun r1 _ => ?_)
    refine g_if_eq C 21 dX4_undo_16 (by decide) (fun _ => ?_) (fun _ => ?_)
    · refine g_aload_n C 0 dX4_undo_21 rfl rfl ?_
      refine g_dup C dX4_undo_22 rfl ?_
      refine g_get C (fun _ h => List.mem_cons_of_mem _ (List.mem_append_right _ h)) 0 (MWg_0 K a _) rfl 10 (by decide) (List.mem_of_getElem? (i := 1) rfl) rfl rfl dX4_undo_23 ?_
      refine g_iconst C (v := (1 : Int32)) dX4_undo_26 ic_1 ?_
      refine g_isub C dX4_undo_27 ?_
      refine g_topi (fun t2 => ?_)
      refine g_put C (ty := .int) (fun _ h => List.mem_cons_of_mem _ (List.mem_append_right _ h)) tyX4 tyX4_ok nmX4 0 (MWg_0 K a _) rfl 10 (by decide) (List.mem_of_getElem? (i := 1) rfl) rfl rfl (by decide +kernel) rfl rfl (Nat.le_of_ble_eq_true rfl) (MWp_0_10 K a _ _) dX4_undo_28 ?_
      refine g_state (fun u3 => ?_)
      refine g_aload_n C 0 dX4_undo_31 rfl rfl ?_
      refine g_get C (fun _ h => List.mem_cons_of_mem _ (List.mem_append_right _ h)) 0 (MWg_0 K a _) rfl 9 (by decide) (List.mem_of_getElem? (i := 2) rfl) rfl rfl dX4_undo_32 ?_
      refine g_sipush C (v := (233 : Int32)) dX4_undo_35 (by decide) ?_
      refine g_aload_n C 0 dX4_undo_38 rfl rfl ?_
      refine g_get C (fun _ h => List.mem_cons_of_mem _ (List.mem_append_right _ h)) 0 (MWg_0 K a _) rfl 10 (by decide) (List.mem_of_getElem? (i := 1) rfl) rfl rfl dX4_undo_39 ?_
      refine g_imul C dX4_undo_42 ?_
      refine g_aload_n C 0 dX4_undo_43 rfl rfl ?_
      refine g_get C (fun _ h => List.mem_cons_of_mem _ (List.mem_append_right _ h)) 0 (MWg_0 K a _) rfl 7 (by decide) (List.mem_of_getElem? (i := 3) rfl) rfl rfl dX4_undo_44 ?_
      refine g_iconst C (v := (0 : Int32)) dX4_undo_47 ic_0 ?_
      refine g_sipush C (v := (233 : Int32)) dX4_undo_48 (by decide) ?_
      refine g_callSv C (n := 5) (As := [.ref (a 5), .int ((233 : Int32) * (u3 0 10)), .ref (a 3), .int (0 : Int32), .int (233 : Int32)]) (rest := []) (fun r h => mX4_copy_3262_233 l D K (a 5) (a 3) _ _ _ _ r h) (MWc_5_3 D K a _) gX4_undo_X4_copy rfl (by decide +kernel) ⟨Nat.le_of_ble_eq_true rfl, Nat.le_of_ble_eq_true rfl, rfl, rfl⟩ rfl rfl (Nat.le_of_ble_eq_true rfl) dX4_undo_51 (fun r4 _ => ?_)
      refine g_state (fun u5 => ?_)
      refine g_aload_n C 0 dX4_undo_54 rfl rfl ?_
      refine g_get C (fun _ h => List.mem_cons_of_mem _ (List.mem_append_right _ h)) 0 (MWg_0 K a _) rfl 10 (by decide) (List.mem_of_getElem? (i := 1) rfl) rfl rfl dX4_undo_55 ?_
      exact g_ret C ⟨dX4_undo_58, rfl, rfl⟩
    · refine g_iconst C (v := (0 : Int32)) dX4_undo_19 ic_0 ?_
      exact g_ret C ⟨dX4_undo_20, rfl, rfl⟩
  refine g_aload_n C 0 dX4_undo_0 rfl rfl ?_
  refine g_aload_n C 0 dX4_undo_1 rfl rfl ?_
  refine g_get C (fun _ h => List.mem_cons_of_mem _ (List.mem_append_right _ h)) 0 (MWg_0 K a _) rfl 10 (by decide) (List.mem_of_getElem? (i := 1) rfl) rfl rfl dX4_undo_2 ?_
  refine g_if_ne C 12 dX4_undo_5 (by decide) (fun _ => ?_) (fun _ => ?_)
  · refine g_iconst C (v := (1 : Int32)) dX4_undo_8 ic_1 ?_
    refine g_goto C 13 dX4_undo_9 (by decide) ?_
    exact h_13 σ (1 : Int32)
  · refine g_iconst C (v := (0 : Int32)) dX4_undo_12 ic_0 ?_
    exact h_13 σ (0 : Int32)
set_option maxHeartbeats 4000000 in
set_option maxRecDepth 100000 in
theorem mX4_shouted (l : Launch) (D : va_G) (K : Nat → ClassId) (a : Nat → Nat) (σ : gS) (p1 : Int32) (r : (Int32 × gS)) (hf : fX4_shouted σ p1 = some r) : gMi l yX4_shouted wsX4_shouted { frames := 5, cells := 0, slots := 0, locals := 115 } D (gT K) (MW K a) [.ref (a 0), .int p1] σ r := by
  refine mk_i (nL := 3) (cc := cX4_shouted) (by decide) rfl (Nat.le_of_ble_eq_true rfl) rfl rfl hf (fun g C => ?_)
  refine g_sub C (lv' := [(0, .ref (a 0)), (1, .int p1)]) [0, 1] rfl ?_
  unfold fX4_shouted
  have h_13 : ∀ (σ : gS) (v1 : Int32) (s1 : Int32), g (fX4_shouted_L13 σ v1 s1) 13 [(0, .ref (a 0)), (1, .int v1)] [.int s1, .ref (a 0)] σ := by
    have h_27 : ∀ (n : Nat) (σ : gS) (v1 : Int32) (v2 : Int32), g (fX4_shouted_L27 n σ v1 v2) 27 [(0, .ref (a 0)), (1, .int v1), (2, .int v2)] [] σ := by
      intro n
      induction n with
      | zero =>
        intro σ v1 v2
        exact g_none C
      | succ n27 ih_27 =>
        intro σ v1 v2
        unfold fX4_shouted_L27
        refine g_iload_n C 2 dX4_shouted_27 rfl rfl ?_
        refine g_bipush C (v := (100 : Int32)) dX4_shouted_28 (by decide) ?_
        refine g_icmp_ge C 71 dX4_shouted_30 (by decide) (fun _ => ?_) (fun _ => ?_)
        · refine g_bipush C (v := (-9 : Int32)) dX4_shouted_71 (by decide) ?_
          exact g_ret C ⟨dX4_shouted_73, rfl, rfl⟩
        · refine g_aload_n C 0 dX4_shouted_33 rfl rfl ?_
          refine g_get C (fun _ h => List.mem_cons_of_mem _ (List.mem_append_right _ h)) 0 (MWg_0 K a _) rfl 8 (by decide) (List.mem_of_getElem? (i := 1) rfl) rfl rfl dX4_shouted_34 ?_
          refine g_callSv C (n := 1) (As := [.ref (a 4)]) (rest := []) (fun r h => mX4_tick l D K (a 4) _ r h) (MWe_4 D K a _) gX4_shouted_X4_tick rfl (by decide +kernel) ⟨Nat.le_of_ble_eq_true rfl, Nat.le_of_ble_eq_true rfl, rfl, rfl⟩ rfl rfl (Nat.le_of_ble_eq_true rfl) dX4_shouted_37 (fun r1 _ => ?_)
          refine g_state (fun u2 => ?_)
          refine g_aload_n C 0 dX4_shouted_40 rfl rfl ?_
          refine g_get C (fun _ h => List.mem_cons_of_mem _ (List.mem_append_right _ h)) 0 (MWg_0 K a _) rfl 8 (by decide) (List.mem_of_getElem? (i := 1) rfl) rfl rfl dX4_shouted_41 ?_
          refine g_iload_n C 1 dX4_shouted_44 rfl rfl ?_
          refine g_iconst C (v := (4 : Int32)) dX4_shouted_45 ic_4 ?_
          refine g_callSi C (n := 2) (As := [.int v1, .int (4 : Int32)]) (rest := [.ref (a 4)]) (fun r h => mX4_bookAt l D K _ _ r h) gE.nil (τ := ()) gX4_shouted_X4_bookAt rfl (by decide +kernel) ⟨Nat.le_of_ble_eq_true rfl, Nat.le_of_ble_eq_true rfl, rfl, rfl⟩ rfl rfl (Nat.le_of_ble_eq_true rfl) dX4_shouted_46 (fun r3 _ => ?_)
          refine g_ialdG C 4 0 (MWg_4 K a _) rfl dX4_shouted_49 ?_
          refine g_aload_n C 0 dX4_shouted_50 rfl rfl ?_
          refine g_get C (fun _ h => List.mem_cons_of_mem _ (List.mem_append_right _ h)) 0 (MWg_0 K a _) rfl 7 (by decide) (List.mem_of_getElem? (i := 2) rfl) rfl rfl dX4_shouted_51 ?_
          refine g_iload_n C 1 dX4_shouted_54 rfl rfl ?_
          refine g_iconst C (v := (4 : Int32)) dX4_shouted_55 ic_4 ?_
          refine g_callSi C (n := 2) (As := [.int v1, .int (4 : Int32)]) (rest := [.ref (a 3), .int (u2 4 r3.1.toNatClampNeg)]) (fun r h => mX4_bookAt l D K _ _ r h) gE.nil (τ := ()) gX4_shouted_X4_bookAt rfl (by decide +kernel) ⟨Nat.le_of_ble_eq_true rfl, Nat.le_of_ble_eq_true rfl, rfl, rfl⟩ rfl rfl (Nat.le_of_ble_eq_true rfl) dX4_shouted_56 (fun r4 _ => ?_)
          refine g_ialdG C 3 0 (MWg_3 K a _) rfl dX4_shouted_59 ?_
          refine g_icmp_le C 65 dX4_shouted_60 (by decide) (fun _ => ?_) (fun _ => ?_)
          · refine g_iinc C (w := (1 : Int32)) (lv' := [(2, .int (v2 + (1 : Int32))), (0, .ref (a 0)), (1, .int v1)]) 2 dX4_shouted_65 rfl ic_1 (by decide) rfl ?_
            refine g_goto C 27 dX4_shouted_68 (by decide) ?_
            refine g_sub C (lv' := [(0, .ref (a 0)), (1, .int v1), (2, .int (v2 + (1 : Int32)))]) [1, 2, 0] rfl ?_
            exact ih_27 u2 v1 (v2 + (1 : Int32))
          · refine g_iload_n C 2 dX4_shouted_63 rfl rfl ?_
            exact g_ret C ⟨dX4_shouted_64, rfl, rfl⟩
    intro σ v1 s1
    unfold fX4_shouted_L13
    refine g_callVi C (n := 1) (As := [.int s1]) (rest := []) (fun r h => mX4_refused l D K a _ _ r h) gE.same gX4_shouted_X4_refused rfl (by decide +kernel) ⟨Nat.le_of_ble_eq_true rfl, Nat.le_of_ble_eq_true rfl, rfl, rfl⟩ 0 (MWg_0 K a _) rfl rfl rfl (Nat.le_of_ble_eq_true rfl) dX4_shouted_13 (fun r5 _ => ?_)
    refine g_if_eq C 21 dX4_shouted_16 (by decide) (fun _ => ?_) (fun _ => ?_)
    · refine g_aload_n C 0 dX4_shouted_21 rfl rfl ?_
      refine g_callVv C (n := 0) (As := []) (rest := []) (fun r h => mX4_tryIt l D K a _ r h) gE.same gX4_shouted_X4_tryIt rfl (by decide +kernel) ⟨Nat.le_of_ble_eq_true rfl, Nat.le_of_ble_eq_true rfl, rfl, rfl⟩ 0 (MWg_0 K a _) rfl rfl rfl (Nat.le_of_ble_eq_true rfl) dX4_shouted_22 (fun r6 _ => ?_)
      refine g_iconst C (v := (1 : Int32)) dX4_shouted_25 ic_1 ?_
      refine g_istore_n C (lv' := [(2, .int (1 : Int32)), (0, .ref (a 0)), (1, .int v1)]) dX4_shouted_26 rfl (by decide) rfl ?_
      refine g_sub C (lv' := [(0, .ref (a 0)), (1, .int v1), (2, .int (1 : Int32))]) [1, 2, 0] rfl ?_
      exact h_27 gFuel r6 v1 (1 : Int32)
    · refine g_iconst C (v := (0 : Int32)) dX4_shouted_19 ic_0 ?_
      exact g_ret C ⟨dX4_shouted_20, rfl, rfl⟩
  refine g_aload_n C 0 dX4_shouted_0 rfl rfl ?_
  refine g_iload_n C 1 dX4_shouted_1 rfl rfl ?_
  refine g_callSi C (n := 1) (As := [.int p1]) (rest := [.ref (a 0)]) (fun r h => mX4_isBook l D K _ r h) gE.nil (τ := ()) gX4_shouted_X4_isBook rfl (by decide +kernel) ⟨Nat.le_of_ble_eq_true rfl, Nat.le_of_ble_eq_true rfl, rfl, rfl⟩ rfl rfl (Nat.le_of_ble_eq_true rfl) dX4_shouted_2 (fun r7 _ => ?_)
  refine g_if_eq C 12 dX4_shouted_5 (by decide) (fun _ => ?_) (fun _ => ?_)
  · refine g_iconst C (v := (1 : Int32)) dX4_shouted_12 ic_1 ?_
    exact h_13 σ p1 (1 : Int32)
  · refine g_iconst C (v := (0 : Int32)) dX4_shouted_8 ic_0 ?_
    refine g_goto C 13 dX4_shouted_9 (by decide) ?_
    exact h_13 σ p1 (0 : Int32)
set_option maxHeartbeats 4000000 in
set_option maxRecDepth 100000 in
theorem mX4_toldWhenOut (l : Launch) (D : va_G) (K : Nat → ClassId) (a : Nat → Nat) (σ : gS) (p1 : Int32) (r : (Int32 × gS)) (hf : fX4_toldWhenOut σ p1 = some r) : gMi l yX4_toldWhenOut wsX4_toldWhenOut { frames := 1, cells := 0, slots := 0, locals := 21 } D (gT K) (MW K a) [.ref (a 0), .int p1] σ r := by
  refine mk_i (nL := 2) (cc := cX4_toldWhenOut) (by decide) rfl (Nat.le_of_ble_eq_true rfl) rfl rfl hf (fun g C => ?_)
  refine g_sub C (lv' := [(0, .ref (a 0)), (1, .int p1)]) [0, 1] rfl ?_
  unfold fX4_toldWhenOut
  refine g_aload_n C 0 dX4_toldWhenOut_0 rfl rfl ?_
  refine g_get C (fun _ h => List.mem_cons_of_mem _ (List.mem_append_right _ h)) 0 (MWg_0 K a _) rfl 8 (by decide) (List.mem_of_getElem? (i := 1) rfl) rfl rfl dX4_toldWhenOut_1 ?_
  refine g_iload_n C 1 dX4_toldWhenOut_4 rfl rfl ?_
  refine g_iconst C (v := (3 : Int32)) dX4_toldWhenOut_5 ic_3 ?_
  refine g_callSi C (n := 2) (As := [.int p1, .int (3 : Int32)]) (rest := [.ref (a 4)]) (fun r h => mX4_bookAt l D K _ _ r h) gE.nil (τ := ()) gX4_toldWhenOut_X4_bookAt rfl (by decide +kernel) ⟨Nat.le_of_ble_eq_true rfl, Nat.le_of_ble_eq_true rfl, rfl, rfl⟩ rfl rfl (Nat.le_of_ble_eq_true rfl) dX4_toldWhenOut_6 (fun r1 _ => ?_)
  refine g_ialdG C 4 0 (MWg_4 K a _) rfl dX4_toldWhenOut_9 ?_
  exact g_ret C ⟨dX4_toldWhenOut_10, rfl, rfl⟩
set_option maxHeartbeats 4000000 in
set_option maxRecDepth 100000 in
theorem mX4_slipSet (l : Launch) (D : va_G) (K : Nat → ClassId) (a : Nat → Nat) (σ : gS) (r : (Int32 × gS)) (hf : fX4_slipSet σ  = some r) : gMi l yX4_slipSet wsX4_slipSet { frames := 5, cells := 0, slots := 0, locals := 115 } D (gT K) (MW K a) [.ref (a 0)] σ r := by
  refine mk_i (nL := 5) (cc := cX4_slipSet) (by decide) rfl (Nat.le_of_ble_eq_true rfl) rfl rfl hf (fun g C => ?_)
  refine g_sub C (lv' := [(0, .ref (a 0))]) [0] rfl ?_
  unfold fX4_slipSet
  have h_4 : ∀ (n : Nat) (σ : gS) (v1 : Int32) (v2 : Int32), g (fX4_slipSet_L4 n σ v1 v2) 4 [(0, .ref (a 0)), (1, .int v1), (2, .int v2)] [] σ := by
    intro n
    induction n with
    | zero =>
      intro σ v1 v2
      exact g_none C
    | succ n4 ih_4 =>
      have h_25 : ∀ (n : Nat) (σ : gS) (v1 : Int32) (v2 : Int32), g (fX4_slipSet_L25 n σ v1 v2) 25 [(0, .ref (a 0)), (1, .int v1), (2, .int v2)] [] σ := by
        intro n
        induction n with
        | zero =>
          intro σ v1 v2
          exact g_none C
        | succ n25 ih_25 =>
          have h_78 : ∀ (σ : gS) (v1 : Int32) (v2 : Int32) (s0 : Int32), g (fX4_slipSet_L78 (fX4_slipSet_L25 n25) σ v1 v2 s0) 78 [(0, .ref (a 0)), (1, .int v1), (2, .int v2)] [.int s0] σ := by
            intro σ v1 v2 s0
            unfold fX4_slipSet_L78
            refine g_istore C (lv' := [(4, .int s0), (0, .ref (a 0)), (1, .int v1), (2, .int v2)]) dX4_slipSet_78 (by decide) rfl ?_
            refine g_iload_n C 2 dX4_slipSet_80 rfl rfl ?_
            refine g_iload C 0 dX4_slipSet_81 rfl ?_
            refine g_if_eq C 113 dX4_slipSet_83 (by decide) (fun _ => ?_) (fun _ => ?_)
            · refine g_iconst C (v := (0 : Int32)) dX4_slipSet_113 ic_0 ?_
              refine g_ior C dX4_slipSet_114 ?_
              refine g_topi (fun t1 => ?_)
              refine g_istore_n C (lv' := [(1, .int t1), (4, .int s0), (0, .ref (a 0)), (2, .int v2)]) dX4_slipSet_115 rfl (by decide) rfl ?_
              refine g_iinc C (w := (1 : Int32)) (lv' := [(2, .int (v2 + (1 : Int32))), (1, .int t1), (4, .int s0), (0, .ref (a 0))]) 3 dX4_slipSet_116 rfl ic_1 (by decide) rfl ?_
              refine g_goto C 25 dX4_slipSet_119 (by decide) ?_
              refine g_sub C (lv' := [(0, .ref (a 0)), (1, .int t1), (2, .int (v2 + (1 : Int32)))]) [3, 1, 0] rfl ?_
              exact ih_25 σ t1 (v2 + (1 : Int32))
            · refine g_aload_n C 1 dX4_slipSet_86 rfl rfl ?_
              refine g_get C (fun _ h => List.mem_cons_of_mem _ (List.mem_append_right _ h)) 0 (MWg_0 K a _) rfl 7 (by decide) (List.mem_of_getElem? (i := 2) rfl) rfl rfl dX4_slipSet_87 ?_
              refine g_iload_n C 3 dX4_slipSet_90 rfl rfl ?_
              refine g_iconst C (v := (1 : Int32)) dX4_slipSet_91 ic_1 ?_
              refine g_callSi C (n := 2) (As := [.int v2, .int (1 : Int32)]) (rest := [.ref (a 3), .int v1]) (fun r h => mX4_bookAt l D K _ _ r h) gE.nil (τ := ()) gX4_slipSet_X4_bookAt rfl (by decide +kernel) ⟨Nat.le_of_ble_eq_true rfl, Nat.le_of_ble_eq_true rfl, rfl, rfl⟩ rfl rfl (Nat.le_of_ble_eq_true rfl) dX4_slipSet_92 (fun r2 _ => ?_)
              refine g_ialdG C 3 0 (MWg_3 K a _) rfl dX4_slipSet_95 ?_
              refine g_if_ne C 113 dX4_slipSet_96 (by decide) (fun _ => ?_) (fun _ => ?_)
              · refine g_aload_n C 1 dX4_slipSet_99 rfl rfl ?_
                refine g_iload_n C 3 dX4_slipSet_100 rfl rfl ?_
                refine g_callVi C (n := 1) (As := [.int v2]) (rest := [.int v1]) (fun r h => mX4_toldWhenOut l D K a _ _ r h) gE.same gX4_slipSet_X4_toldWhenOut rfl (by decide +kernel) ⟨Nat.le_of_ble_eq_true rfl, Nat.le_of_ble_eq_true rfl, rfl, rfl⟩ 0 (MWg_0 K a _) rfl rfl rfl (Nat.le_of_ble_eq_true rfl) dX4_slipSet_101 (fun r3 _ => ?_)
                refine g_if_ne C 113 dX4_slipSet_104 (by decide) (fun _ => ?_) (fun _ => ?_)
                · refine g_iconst C (v := (1 : Int32)) dX4_slipSet_107 ic_1 ?_
                  refine g_iload_n C 3 dX4_slipSet_108 rfl rfl ?_
                  refine g_ishl C dX4_slipSet_109 ?_
                  refine g_goto C 114 dX4_slipSet_110 (by decide) ?_
                  refine g_ior C dX4_slipSet_114 ?_
                  refine g_topi (fun t4 => ?_)
                  refine g_istore_n C (lv' := [(1, .int t4), (4, .int s0), (0, .ref (a 0)), (2, .int v2)]) dX4_slipSet_115 rfl (by decide) rfl ?_
                  refine g_iinc C (w := (1 : Int32)) (lv' := [(2, .int (v2 + (1 : Int32))), (1, .int t4), (4, .int s0), (0, .ref (a 0))]) 3 dX4_slipSet_116 rfl ic_1 (by decide) rfl ?_
                  refine g_goto C 25 dX4_slipSet_119 (by decide) ?_
                  refine g_sub C (lv' := [(0, .ref (a 0)), (1, .int t4), (2, .int (v2 + (1 : Int32)))]) [3, 1, 0] rfl ?_
                  exact ih_25 r3.2 t4 (v2 + (1 : Int32))
                · refine g_iconst C (v := (0 : Int32)) dX4_slipSet_113 ic_0 ?_
                  refine g_ior C dX4_slipSet_114 ?_
                  refine g_topi (fun t5 => ?_)
                  refine g_istore_n C (lv' := [(1, .int t5), (4, .int s0), (0, .ref (a 0)), (2, .int v2)]) dX4_slipSet_115 rfl (by decide) rfl ?_
                  refine g_iinc C (w := (1 : Int32)) (lv' := [(2, .int (v2 + (1 : Int32))), (1, .int t5), (4, .int s0), (0, .ref (a 0))]) 3 dX4_slipSet_116 rfl ic_1 (by decide) rfl ?_
                  refine g_goto C 25 dX4_slipSet_119 (by decide) ?_
                  refine g_sub C (lv' := [(0, .ref (a 0)), (1, .int t5), (2, .int (v2 + (1 : Int32)))]) [3, 1, 0] rfl ?_
                  exact ih_25 r3.2 t5 (v2 + (1 : Int32))
              · refine g_iconst C (v := (0 : Int32)) dX4_slipSet_113 ic_0 ?_
                refine g_ior C dX4_slipSet_114 ?_
                refine g_topi (fun t6 => ?_)
                refine g_istore_n C (lv' := [(1, .int t6), (4, .int s0), (0, .ref (a 0)), (2, .int v2)]) dX4_slipSet_115 rfl (by decide) rfl ?_
                refine g_iinc C (w := (1 : Int32)) (lv' := [(2, .int (v2 + (1 : Int32))), (1, .int t6), (4, .int s0), (0, .ref (a 0))]) 3 dX4_slipSet_116 rfl ic_1 (by decide) rfl ?_
                refine g_goto C 25 dX4_slipSet_119 (by decide) ?_
                refine g_sub C (lv' := [(0, .ref (a 0)), (1, .int t6), (2, .int (v2 + (1 : Int32)))]) [3, 1, 0] rfl ?_
                exact ih_25 σ t6 (v2 + (1 : Int32))
          intro σ v1 v2
          unfold fX4_slipSet_L25
          refine g_iload_n C 2 dX4_slipSet_25 rfl rfl ?_
          refine g_bipush C (v := (20 : Int32)) dX4_slipSet_26 (by decide) ?_
          refine g_icmp_ge C 122 dX4_slipSet_28 (by decide) (fun _ => ?_) (fun _ => ?_)
          · refine g_iload_n C 1 dX4_slipSet_122 rfl rfl ?_
            exact g_ret C ⟨dX4_slipSet_123, rfl, rfl⟩
          · refine g_aload_n C 0 dX4_slipSet_31 rfl rfl ?_
            refine g_get C (fun _ h => List.mem_cons_of_mem _ (List.mem_append_right _ h)) 0 (MWg_0 K a _) rfl 7 (by decide) (List.mem_of_getElem? (i := 2) rfl) rfl rfl dX4_slipSet_32 ?_
            refine g_iload_n C 2 dX4_slipSet_35 rfl rfl ?_
            refine g_iconst C (v := (0 : Int32)) dX4_slipSet_36 ic_0 ?_
            refine g_callSi C (n := 2) (As := [.int v2, .int (0 : Int32)]) (rest := [.ref (a 3)]) (fun r h => mX4_bookAt l D K _ _ r h) gE.nil (τ := ()) gX4_slipSet_X4_bookAt rfl (by decide +kernel) ⟨Nat.le_of_ble_eq_true rfl, Nat.le_of_ble_eq_true rfl, rfl, rfl⟩ rfl rfl (Nat.le_of_ble_eq_true rfl) dX4_slipSet_37 (fun r7 _ => ?_)
            refine g_ialdG C 3 0 (MWg_3 K a _) rfl dX4_slipSet_40 ?_
            refine g_iconst C (v := (1 : Int32)) dX4_slipSet_41 ic_1 ?_
            refine g_isub C dX4_slipSet_42 ?_
            refine g_topi (fun t8 => ?_)
            refine g_istore_n C (lv' := [(3, .int t8), (0, .ref (a 0)), (1, .int v1), (2, .int v2)]) dX4_slipSet_43 rfl (by decide) rfl ?_
            refine g_iload_n C 0 dX4_slipSet_44 rfl rfl ?_
            refine g_if_lt C 77 dX4_slipSet_45 (by decide) (fun _ => ?_) (fun _ => ?_)
            · refine g_iconst C (v := (0 : Int32)) dX4_slipSet_77 ic_0 ?_
              refine g_sub C (lv' := [(0, .ref (a 0)), (1, .int v1), (2, .int v2)]) [1, 2, 3] rfl ?_
              exact h_78 σ v1 v2 (0 : Int32)
            · refine g_aload_n C 1 dX4_slipSet_48 rfl rfl ?_
              refine g_get C (fun _ h => List.mem_cons_of_mem _ (List.mem_append_right _ h)) 0 (MWg_0 K a _) rfl 7 (by decide) (List.mem_of_getElem? (i := 2) rfl) rfl rfl dX4_slipSet_49 ?_
              refine g_iload_n C 0 dX4_slipSet_52 rfl rfl ?_
              refine g_callSi C (n := 2) (As := [.ref (a 3), .int t8]) (rest := []) (fun r h => mX4_isAtGate l D K (a 3) _ _ r h) (MWe_3 D K a _) gX4_slipSet_X4_isAtGate rfl (by decide +kernel) ⟨Nat.le_of_ble_eq_true rfl, Nat.le_of_ble_eq_true rfl, rfl, rfl⟩ rfl rfl (Nat.le_of_ble_eq_true rfl) dX4_slipSet_53 (fun r9 _ => ?_)
              refine g_state (fun u10 => ?_)
              refine g_if_eq C 77 dX4_slipSet_56 (by decide) (fun _ => ?_) (fun _ => ?_)
              · refine g_iconst C (v := (0 : Int32)) dX4_slipSet_77 ic_0 ?_
                refine g_sub C (lv' := [(0, .ref (a 0)), (1, .int v1), (2, .int v2)]) [1, 2, 3] rfl ?_
                exact h_78 u10 v1 v2 (0 : Int32)
              · refine g_aload_n C 1 dX4_slipSet_59 rfl rfl ?_
                refine g_get C (fun _ h => List.mem_cons_of_mem _ (List.mem_append_right _ h)) 0 (MWg_0 K a _) rfl 8 (by decide) (List.mem_of_getElem? (i := 1) rfl) rfl rfl dX4_slipSet_60 ?_
                refine g_iload_n C 0 dX4_slipSet_63 rfl rfl ?_
                refine g_iconst C (v := (0 : Int32)) dX4_slipSet_64 ic_0 ?_
                refine g_callSi C (n := 2) (As := [.int t8, .int (0 : Int32)]) (rest := [.ref (a 4)]) (fun r h => mX4_visitorAt l D K _ _ r h) gE.nil (τ := ()) gX4_slipSet_X4_visitorAt rfl (by decide +kernel) ⟨Nat.le_of_ble_eq_true rfl, Nat.le_of_ble_eq_true rfl, rfl, rfl⟩ rfl rfl (Nat.le_of_ble_eq_true rfl) dX4_slipSet_65 (fun r11 _ => ?_)
                refine g_ialdG C 4 0 (MWg_4 K a _) rfl dX4_slipSet_68 ?_
                refine g_iconst C (v := (2 : Int32)) dX4_slipSet_69 ic_2 ?_
                refine g_icmp_ne C 77 dX4_slipSet_70 (by decide) (fun _ => ?_) (fun _ => ?_)
                · refine g_iconst C (v := (1 : Int32)) dX4_slipSet_73 ic_1 ?_
                  refine g_goto C 78 dX4_slipSet_74 (by decide) ?_
                  refine g_sub C (lv' := [(0, .ref (a 0)), (1, .int v1), (2, .int v2)]) [1, 2, 3] rfl ?_
                  exact h_78 u10 v1 v2 (1 : Int32)
                · refine g_iconst C (v := (0 : Int32)) dX4_slipSet_77 ic_0 ?_
                  refine g_sub C (lv' := [(0, .ref (a 0)), (1, .int v1), (2, .int v2)]) [1, 2, 3] rfl ?_
                  exact h_78 u10 v1 v2 (0 : Int32)
      intro σ v1 v2
      unfold fX4_slipSet_L4
      refine g_iload_n C 2 dX4_slipSet_4 rfl rfl ?_
      refine g_bipush C (v := (7 : Int32)) dX4_slipSet_5 (by decide) ?_
      refine g_icmp_gt C 23 dX4_slipSet_7 (by decide) (fun _ => ?_) (fun _ => ?_)
      · refine g_iconst C (v := (0 : Int32)) dX4_slipSet_23 ic_0 ?_
        refine g_istore_n C (lv' := [(2, .int (0 : Int32)), (0, .ref (a 0)), (1, .int v1)]) dX4_slipSet_24 rfl (by decide) rfl ?_
        refine g_sub C (lv' := [(0, .ref (a 0)), (1, .int v1), (2, .int (0 : Int32))]) [1, 2, 0] rfl ?_
        exact h_25 gFuel σ v1 (0 : Int32)
      · refine g_aload_n C 0 dX4_slipSet_10 rfl rfl ?_
        refine g_get C (fun _ h => List.mem_cons_of_mem _ (List.mem_append_right _ h)) 0 (MWg_0 K a _) rfl 8 (by decide) (List.mem_of_getElem? (i := 1) rfl) rfl rfl dX4_slipSet_11 ?_
        refine g_callSv C (n := 1) (As := [.ref (a 4)]) (rest := []) (fun r h => mX4_tick l D K (a 4) _ r h) (MWe_4 D K a _) gX4_slipSet_X4_tick rfl (by decide +kernel) ⟨Nat.le_of_ble_eq_true rfl, Nat.le_of_ble_eq_true rfl, rfl, rfl⟩ rfl rfl (Nat.le_of_ble_eq_true rfl) dX4_slipSet_14 (fun r12 _ => ?_)
        refine g_state (fun u13 => ?_)
        refine g_iinc C (w := (1 : Int32)) (lv' := [(2, .int (v2 + (1 : Int32))), (0, .ref (a 0)), (1, .int v1)]) 2 dX4_slipSet_17 rfl ic_1 (by decide) rfl ?_
        refine g_goto C 4 dX4_slipSet_20 (by decide) ?_
        refine g_sub C (lv' := [(0, .ref (a 0)), (1, .int v1), (2, .int (v2 + (1 : Int32)))]) [1, 2, 0] rfl ?_
        exact ih_4 u13 v1 (v2 + (1 : Int32))
  refine g_iconst C (v := (0 : Int32)) dX4_slipSet_0 ic_0 ?_
  refine g_istore_n C (lv' := [(1, .int (0 : Int32)), (0, .ref (a 0))]) dX4_slipSet_1 rfl (by decide) rfl ?_
  refine g_iconst C (v := (0 : Int32)) dX4_slipSet_2 ic_0 ?_
  refine g_istore_n C (lv' := [(2, .int (0 : Int32)), (1, .int (0 : Int32)), (0, .ref (a 0))]) dX4_slipSet_3 rfl (by decide) rfl ?_
  refine g_sub C (lv' := [(0, .ref (a 0)), (1, .int (0 : Int32)), (2, .int (0 : Int32))]) [2, 1, 0] rfl ?_
  exact h_4 gFuel σ (0 : Int32) (0 : Int32)
set_option maxHeartbeats 4000000 in
set_option maxRecDepth 100000 in
theorem mX4_slips (l : Launch) (D : va_G) (K : Nat → ClassId) (a : Nat → Nat) (σ : gS) (r : (Int32 × gS)) (hf : fX4_slips σ  = some r) : gMi l yX4_slips wsX4_slips { frames := 6, cells := 0, slots := 0, locals := 139 } D (gT K) (MW K a) [.ref (a 0)] σ r := by
  refine mk_i (nL := 1) (cc := cX4_slips) (by decide) rfl (Nat.le_of_ble_eq_true rfl) rfl rfl hf (fun g C => ?_)
  refine g_sub C (lv' := [(0, .ref (a 0))]) [0] rfl ?_
  unfold fX4_slips
  refine g_aload_n C 0 dX4_slips_0 rfl rfl ?_
  refine g_iconst C (v := (0 : Int32)) dX4_slips_1 ic_0 ?_
  refine g_put C (ty := .int) (fun _ h => List.mem_cons_of_mem _ (List.mem_append_right _ h)) tyX4 tyX4_ok nmX4 0 (MWg_0 K a _) rfl 0 (by decide) (List.mem_of_getElem? (i := 1) rfl) rfl rfl (by decide +kernel) rfl rfl (Nat.le_of_ble_eq_true rfl) (MWp_0_0 K a _ _) dX4_slips_2 ?_
  refine g_state (fun u1 => ?_)
  refine g_aload_n C 0 dX4_slips_5 rfl rfl ?_
  refine g_callVv C (n := 0) (As := []) (rest := []) (fun r h => mX4_tryIt l D K a _ r h) gE.same gX4_slips_X4_tryIt rfl (by decide +kernel) ⟨Nat.le_of_ble_eq_true rfl, Nat.le_of_ble_eq_true rfl, rfl, rfl⟩ 0 (MWg_0 K a _) rfl rfl rfl (Nat.le_of_ble_eq_true rfl) dX4_slips_6 (fun r2 _ => ?_)
  refine g_aload_n C 0 dX4_slips_9 rfl rfl ?_
  refine g_callVi C (n := 0) (As := []) (rest := []) (fun r h => mX4_slipSet l D K a _ r h) gE.same gX4_slips_X4_slipSet rfl (by decide +kernel) ⟨Nat.le_of_ble_eq_true rfl, Nat.le_of_ble_eq_true rfl, rfl, rfl⟩ 0 (MWg_0 K a _) rfl rfl rfl (Nat.le_of_ble_eq_true rfl) dX4_slips_10 (fun r3 _ => ?_)
  exact g_ret C ⟨dX4_slips_13, rfl, rfl⟩
set_option maxHeartbeats 4000000 in
set_option maxRecDepth 100000 in
theorem mX4_leastStrength (l : Launch) (D : va_G) (K : Nat → ClassId) (a : Nat → Nat) (σ : gS) (p1 : Int32) (r : (Int32 × gS)) (hf : fX4_leastStrength σ p1 = some r) : gMi l yX4_leastStrength wsX4_leastStrength { frames := 6, cells := 0, slots := 0, locals := 139 } D (gT K) (MW K a) [.ref (a 0), .int p1] σ r := by
  refine mk_i (nL := 3) (cc := cX4_leastStrength) (by decide) rfl (Nat.le_of_ble_eq_true rfl) rfl rfl hf (fun g C => ?_)
  refine g_sub C (lv' := [(0, .ref (a 0)), (1, .int p1)]) [0, 1] rfl ?_
  unfold fX4_leastStrength
  have h_13 : ∀ (σ : gS) (v1 : Int32) (s1 : Int32), g (fX4_leastStrength_L13 σ v1 s1) 13 [(0, .ref (a 0)), (1, .int v1)] [.int s1, .ref (a 0)] σ := by
    have h_23 : ∀ (n : Nat) (σ : gS) (v1 : Int32) (v2 : Int32), g (fX4_leastStrength_L23 n σ v1 v2) 23 [(0, .ref (a 0)), (1, .int v1), (2, .int v2)] [] σ := by
      intro n
      induction n with
      | zero =>
        intro σ v1 v2
        exact g_none C
      | succ n23 ih_23 =>
        intro σ v1 v2
        unfold fX4_leastStrength_L23
        refine g_iload_n C 2 dX4_leastStrength_23 rfl rfl ?_
        refine g_bipush C (v := (16 : Int32)) dX4_leastStrength_24 (by decide) ?_
        refine g_icmp_ge C 59 dX4_leastStrength_26 (by decide) (fun _ => ?_) (fun _ => ?_)
        · refine g_bipush C (v := (-9 : Int32)) dX4_leastStrength_59 (by decide) ?_
          exact g_ret C ⟨dX4_leastStrength_61, rfl, rfl⟩
        · refine g_aload_n C 0 dX4_leastStrength_29 rfl rfl ?_
          refine g_callVv C (n := 0) (As := []) (rest := []) (fun r h => mX4_tryIt l D K a _ r h) gE.same gX4_leastStrength_X4_tryIt rfl (by decide +kernel) ⟨Nat.le_of_ble_eq_true rfl, Nat.le_of_ble_eq_true rfl, rfl, rfl⟩ 0 (MWg_0 K a _) rfl rfl rfl (Nat.le_of_ble_eq_true rfl) dX4_leastStrength_30 (fun r1 _ => ?_)
          refine g_aload_n C 0 dX4_leastStrength_33 rfl rfl ?_
          refine g_get C (fun _ h => List.mem_cons_of_mem _ (List.mem_append_right _ h)) 0 (MWg_0 K a _) rfl 8 (by decide) (List.mem_of_getElem? (i := 1) rfl) rfl rfl dX4_leastStrength_34 ?_
          refine g_iload_n C 1 dX4_leastStrength_37 rfl rfl ?_
          refine g_iconst C (v := (0 : Int32)) dX4_leastStrength_38 ic_0 ?_
          refine g_callSi C (n := 2) (As := [.int v1, .int (0 : Int32)]) (rest := [.ref (a 4)]) (fun r h => mX4_gateAt l D K _ _ r h) gE.nil (τ := ()) gX4_leastStrength_X4_gateAt rfl (by decide +kernel) ⟨Nat.le_of_ble_eq_true rfl, Nat.le_of_ble_eq_true rfl, rfl, rfl⟩ rfl rfl (Nat.le_of_ble_eq_true rfl) dX4_leastStrength_39 (fun r2 _ => ?_)
          refine g_iload_n C 2 dX4_leastStrength_42 rfl rfl ?_
          refine g_iastG C 4 0 (MWg_4 K a _) rfl (MWs_4 K a _ _) dX4_leastStrength_43 ?_
          refine g_state (fun u3 => ?_)
          refine g_aload_n C 0 dX4_leastStrength_44 rfl rfl ?_
          refine g_callVi C (n := 0) (As := []) (rest := []) (fun r h => mX4_slipSet l D K a _ r h) gE.same gX4_leastStrength_X4_slipSet rfl (by decide +kernel) ⟨Nat.le_of_ble_eq_true rfl, Nat.le_of_ble_eq_true rfl, rfl, rfl⟩ 0 (MWg_0 K a _) rfl rfl rfl (Nat.le_of_ble_eq_true rfl) dX4_leastStrength_45 (fun r4 _ => ?_)
          refine g_if_ne C 53 dX4_leastStrength_48 (by decide) (fun _ => ?_) (fun _ => ?_)
          · refine g_iload_n C 2 dX4_leastStrength_51 rfl rfl ?_
            exact g_ret C ⟨dX4_leastStrength_52, rfl, rfl⟩
          · refine g_iinc C (w := (1 : Int32)) (lv' := [(2, .int (v2 + (1 : Int32))), (0, .ref (a 0)), (1, .int v1)]) 2 dX4_leastStrength_53 rfl ic_1 (by decide) rfl ?_
            refine g_goto C 23 dX4_leastStrength_56 (by decide) ?_
            refine g_sub C (lv' := [(0, .ref (a 0)), (1, .int v1), (2, .int (v2 + (1 : Int32)))]) [1, 2, 0] rfl ?_
            exact ih_23 r4.2 v1 (v2 + (1 : Int32))
    intro σ v1 s1
    unfold fX4_leastStrength_L13
    refine g_callVi C (n := 1) (As := [.int s1]) (rest := []) (fun r h => mX4_refused l D K a _ _ r h) gE.same gX4_leastStrength_X4_refused rfl (by decide +kernel) ⟨Nat.le_of_ble_eq_true rfl, Nat.le_of_ble_eq_true rfl, rfl, rfl⟩ 0 (MWg_0 K a _) rfl rfl rfl (Nat.le_of_ble_eq_true rfl) dX4_leastStrength_13 (fun r5 _ => ?_)
    refine g_if_eq C 21 dX4_leastStrength_16 (by decide) (fun _ => ?_) (fun _ => ?_)
    · refine g_iconst C (v := (0 : Int32)) dX4_leastStrength_21 ic_0 ?_
      refine g_istore_n C (lv' := [(2, .int (0 : Int32)), (0, .ref (a 0)), (1, .int v1)]) dX4_leastStrength_22 rfl (by decide) rfl ?_
      refine g_sub C (lv' := [(0, .ref (a 0)), (1, .int v1), (2, .int (0 : Int32))]) [1, 2, 0] rfl ?_
      exact h_23 gFuel r5.2 v1 (0 : Int32)
    · refine g_iconst C (v := (0 : Int32)) dX4_leastStrength_19 ic_0 ?_
      exact g_ret C ⟨dX4_leastStrength_20, rfl, rfl⟩
  refine g_aload_n C 0 dX4_leastStrength_0 rfl rfl ?_
  refine g_iload_n C 1 dX4_leastStrength_1 rfl rfl ?_
  refine g_callSi C (n := 1) (As := [.int p1]) (rest := [.ref (a 0)]) (fun r h => mX4_isGate l D K _ r h) gE.nil (τ := ()) gX4_leastStrength_X4_isGate rfl (by decide +kernel) ⟨Nat.le_of_ble_eq_true rfl, Nat.le_of_ble_eq_true rfl, rfl, rfl⟩ rfl rfl (Nat.le_of_ble_eq_true rfl) dX4_leastStrength_2 (fun r6 _ => ?_)
  refine g_if_eq C 12 dX4_leastStrength_5 (by decide) (fun _ => ?_) (fun _ => ?_)
  · refine g_iconst C (v := (1 : Int32)) dX4_leastStrength_12 ic_1 ?_
    exact h_13 σ p1 (1 : Int32)
  · refine g_iconst C (v := (0 : Int32)) dX4_leastStrength_8 ic_0 ?_
    refine g_goto C 13 dX4_leastStrength_9 (by decide) ?_
    exact h_13 σ p1 (0 : Int32)
set_option maxHeartbeats 4000000 in
set_option maxRecDepth 100000 in
theorem mX4_bestGate (l : Launch) (D : va_G) (K : Nat → ClassId) (a : Nat → Nat) (σ : gS) (p1 : Int32) (r : (Int32 × gS)) (hf : fX4_bestGate σ p1 = some r) : gMi l yX4_bestGate wsX4_bestGate { frames := 6, cells := 0, slots := 0, locals := 138 } D (gT K) (MW K a) [.ref (a 0), .int p1] σ r := by
  refine mk_i (nL := 6) (cc := cX4_bestGate) (by decide) rfl (Nat.le_of_ble_eq_true rfl) rfl rfl hf (fun g C => ?_)
  refine g_sub C (lv' := [(0, .ref (a 0)), (1, .int p1)]) [0, 1] rfl ?_
  unfold fX4_bestGate
  have h_28 : ∀ (σ : gS) (v1 : Int32) (s1 : Int32), g (fX4_bestGate_L28 σ v1 s1) 28 [(0, .ref (a 0)), (1, .int v1)] [.int s1, .ref (a 0)] σ := by
    have h_44 : ∀ (n : Nat) (σ : gS) (v1 : Int32) (v2 : Int32) (v3 : Int32) (v4 : Int32), g (fX4_bestGate_L44 n σ v1 v2 v3 v4) 44 [(0, .ref (a 0)), (1, .int v1), (2, .int v2), (3, .int v3), (4, .int v4)] [] σ := by
      intro n
      induction n with
      | zero =>
        intro σ v1 v2 v3 v4
        exact g_none C
      | succ n44 ih_44 =>
        intro σ v1 v2 v3 v4
        unfold fX4_bestGate_L44
        refine g_iload C 4 dX4_bestGate_44 rfl ?_
        refine g_iconst C (v := (3 : Int32)) dX4_bestGate_46 ic_3 ?_
        refine g_icmp_ge C 101 dX4_bestGate_47 (by decide) (fun _ => ?_) (fun _ => ?_)
        · refine g_iload_n C 2 dX4_bestGate_101 rfl rfl ?_
          exact g_ret C ⟨dX4_bestGate_102, rfl, rfl⟩
        · refine g_aload_n C 0 dX4_bestGate_50 rfl rfl ?_
          refine g_callVv C (n := 0) (As := []) (rest := []) (fun r h => mX4_tryIt l D K a _ r h) gE.same gX4_bestGate_X4_tryIt rfl (by decide +kernel) ⟨Nat.le_of_ble_eq_true rfl, Nat.le_of_ble_eq_true rfl, rfl, rfl⟩ 0 (MWg_0 K a _) rfl rfl rfl (Nat.le_of_ble_eq_true rfl) dX4_bestGate_51 (fun r1 _ => ?_)
          refine g_aload_n C 0 dX4_bestGate_54 rfl rfl ?_
          refine g_get C (fun _ h => List.mem_cons_of_mem _ (List.mem_append_right _ h)) 0 (MWg_0 K a _) rfl 8 (by decide) (List.mem_of_getElem? (i := 2) rfl) rfl rfl dX4_bestGate_55 ?_
          refine g_iload_n C 1 dX4_bestGate_58 rfl rfl ?_
          refine g_iload C 4 dX4_bestGate_59 rfl ?_
          refine g_iconst C (v := (1 : Int32)) dX4_bestGate_61 ic_1 ?_
          refine g_callSi C (n := 4) (As := [.ref (a 4), .int v1, .int v4, .int (1 : Int32)]) (rest := []) (fun r h => mX4_walkIn l D K (a 4) _ _ _ _ r h) (MWe_4 D K a _) gX4_bestGate_X4_walkIn rfl (by decide +kernel) ⟨Nat.le_of_ble_eq_true rfl, Nat.le_of_ble_eq_true rfl, rfl, rfl⟩ rfl rfl (Nat.le_of_ble_eq_true rfl) dX4_bestGate_62 (fun r2 _ => ?_)
          refine g_state (fun u3 => ?_)
          refine g_pop C dX4_bestGate_65 rfl ?_
          refine g_aload_n C 0 dX4_bestGate_66 rfl rfl ?_
          refine g_get C (fun _ h => List.mem_cons_of_mem _ (List.mem_append_right _ h)) 0 (MWg_0 K a _) rfl 8 (by decide) (List.mem_of_getElem? (i := 2) rfl) rfl rfl dX4_bestGate_67 ?_
          refine g_bipush C (v := (99 : Int32)) dX4_bestGate_70 (by decide) ?_
          refine g_callSi C (n := 2) (As := [.ref (a 4), .int (99 : Int32)]) (rest := []) (fun r h => mX4_ticksIn l D K (a 4) _ _ r h) (MWe_4 D K a _) gX4_bestGate_X4_ticksIn rfl (by decide +kernel) ⟨Nat.le_of_ble_eq_true rfl, Nat.le_of_ble_eq_true rfl, rfl, rfl⟩ rfl rfl (Nat.le_of_ble_eq_true rfl) dX4_bestGate_72 (fun r4 _ => ?_)
          refine g_state (fun u5 => ?_)
          refine g_istore C (lv' := [(5, .int r4.1), (0, .ref (a 0)), (1, .int v1), (2, .int v2), (3, .int v3), (4, .int v4)]) dX4_bestGate_75 (by decide) rfl ?_
          refine g_iload_n C 3 dX4_bestGate_77 rfl rfl ?_
          refine g_bipush C (v := (-9 : Int32)) dX4_bestGate_78 (by decide) ?_
          refine g_icmp_eq C 89 dX4_bestGate_80 (by decide) (fun _ => ?_) (fun _ => ?_)
          · refine g_iload C 5 dX4_bestGate_89 rfl ?_
            refine g_istore_n C (lv' := [(2, .int v4), (5, .int r4.1), (0, .ref (a 0)), (1, .int v1), (3, .int v3), (4, .int v4)]) dX4_bestGate_91 rfl (by decide) rfl ?_
            refine g_iload C 1 dX4_bestGate_92 rfl ?_
            refine g_istore_n C (lv' := [(3, .int r4.1), (2, .int v4), (5, .int r4.1), (0, .ref (a 0)), (1, .int v1), (4, .int v4)]) dX4_bestGate_94 rfl (by decide) rfl ?_
            refine g_iinc C (w := (1 : Int32)) (lv' := [(4, .int (v4 + (1 : Int32))), (3, .int r4.1), (2, .int v4), (5, .int r4.1), (0, .ref (a 0)), (1, .int v1)]) 5 dX4_bestGate_95 rfl ic_1 (by decide) rfl ?_
            refine g_goto C 44 dX4_bestGate_98 (by decide) ?_
            refine g_sub C (lv' := [(0, .ref (a 0)), (1, .int v1), (2, .int v4), (3, .int r4.1), (4, .int (v4 + (1 : Int32)))]) [4, 5, 2, 1, 0] rfl ?_
            exact ih_44 u5 v1 v4 r4.1 (v4 + (1 : Int32))
          · refine g_iload C 0 dX4_bestGate_83 rfl ?_
            refine g_iload_n C 4 dX4_bestGate_85 rfl rfl ?_
            refine g_icmp_ge C 95 dX4_bestGate_86 (by decide) (fun _ => ?_) (fun _ => ?_)
            · refine g_iinc C (w := (1 : Int32)) (lv' := [(4, .int (v4 + (1 : Int32))), (5, .int r4.1), (0, .ref (a 0)), (1, .int v1), (2, .int v2), (3, .int v3)]) 5 dX4_bestGate_95 rfl ic_1 (by decide) rfl ?_
              refine g_goto C 44 dX4_bestGate_98 (by decide) ?_
              refine g_sub C (lv' := [(0, .ref (a 0)), (1, .int v1), (2, .int v2), (3, .int v3), (4, .int (v4 + (1 : Int32)))]) [2, 3, 4, 5, 0] rfl ?_
              exact ih_44 u5 v1 v2 v3 (v4 + (1 : Int32))
            · refine g_iload C 5 dX4_bestGate_89 rfl ?_
              refine g_istore_n C (lv' := [(2, .int v4), (5, .int r4.1), (0, .ref (a 0)), (1, .int v1), (3, .int v3), (4, .int v4)]) dX4_bestGate_91 rfl (by decide) rfl ?_
              refine g_iload C 1 dX4_bestGate_92 rfl ?_
              refine g_istore_n C (lv' := [(3, .int r4.1), (2, .int v4), (5, .int r4.1), (0, .ref (a 0)), (1, .int v1), (4, .int v4)]) dX4_bestGate_94 rfl (by decide) rfl ?_
              refine g_iinc C (w := (1 : Int32)) (lv' := [(4, .int (v4 + (1 : Int32))), (3, .int r4.1), (2, .int v4), (5, .int r4.1), (0, .ref (a 0)), (1, .int v1)]) 5 dX4_bestGate_95 rfl ic_1 (by decide) rfl ?_
              refine g_goto C 44 dX4_bestGate_98 (by decide) ?_
              refine g_sub C (lv' := [(0, .ref (a 0)), (1, .int v1), (2, .int v4), (3, .int r4.1), (4, .int (v4 + (1 : Int32)))]) [4, 5, 2, 1, 0] rfl ?_
              exact ih_44 u5 v1 v4 r4.1 (v4 + (1 : Int32))
    intro σ v1 s1
    unfold fX4_bestGate_L28
    refine g_callVi C (n := 1) (As := [.int s1]) (rest := []) (fun r h => mX4_refused l D K a _ _ r h) gE.same gX4_bestGate_X4_refused rfl (by decide +kernel) ⟨Nat.le_of_ble_eq_true rfl, Nat.le_of_ble_eq_true rfl, rfl, rfl⟩ 0 (MWg_0 K a _) rfl rfl rfl (Nat.le_of_ble_eq_true rfl) dX4_bestGate_28 (fun r6 _ => ?_)
    refine g_if_eq C 36 dX4_bestGate_31 (by decide) (fun _ => ?_) (fun _ => ?_)
    · refine g_bipush C (v := (-9 : Int32)) dX4_bestGate_36 (by decide) ?_
      refine g_istore_n C (lv' := [(2, .int (-9 : Int32)), (0, .ref (a 0)), (1, .int v1)]) dX4_bestGate_38 rfl (by decide) rfl ?_
      refine g_iconst C (v := (0 : Int32)) dX4_bestGate_39 ic_0 ?_
      refine g_istore_n C (lv' := [(3, .int (0 : Int32)), (2, .int (-9 : Int32)), (0, .ref (a 0)), (1, .int v1)]) dX4_bestGate_40 rfl (by decide) rfl ?_
      refine g_iconst C (v := (0 : Int32)) dX4_bestGate_41 ic_0 ?_
      refine g_istore C (lv' := [(4, .int (0 : Int32)), (3, .int (0 : Int32)), (2, .int (-9 : Int32)), (0, .ref (a 0)), (1, .int v1)]) dX4_bestGate_42 (by decide) rfl ?_
      refine g_sub C (lv' := [(0, .ref (a 0)), (1, .int v1), (2, .int (-9 : Int32)), (3, .int (0 : Int32)), (4, .int (0 : Int32))]) [3, 4, 2, 1, 0] rfl ?_
      exact h_44 gFuel r6.2 v1 (-9 : Int32) (0 : Int32) (0 : Int32)
    · refine g_iconst C (v := (0 : Int32)) dX4_bestGate_34 ic_0 ?_
      exact g_ret C ⟨dX4_bestGate_35, rfl, rfl⟩
  refine g_aload_n C 0 dX4_bestGate_0 rfl rfl ?_
  refine g_iload_n C 1 dX4_bestGate_1 rfl rfl ?_
  refine g_callSi C (n := 1) (As := [.int p1]) (rest := [.ref (a 0)]) (fun r h => mX4_isVisitor l D K _ r h) gE.nil (τ := ()) gX4_bestGate_X4_isVisitor rfl (by decide +kernel) ⟨Nat.le_of_ble_eq_true rfl, Nat.le_of_ble_eq_true rfl, rfl, rfl⟩ rfl rfl (Nat.le_of_ble_eq_true rfl) dX4_bestGate_2 (fun r7 _ => ?_)
  refine g_if_ne C 12 dX4_bestGate_5 (by decide) (fun _ => ?_) (fun _ => ?_)
  · refine g_iconst C (v := (1 : Int32)) dX4_bestGate_8 ic_1 ?_
    refine g_goto C 28 dX4_bestGate_9 (by decide) ?_
    exact h_28 σ p1 (1 : Int32)
  · refine g_aload_n C 0 dX4_bestGate_12 rfl rfl ?_
    refine g_get C (fun _ h => List.mem_cons_of_mem _ (List.mem_append_right _ h)) 0 (MWg_0 K a _) rfl 7 (by decide) (List.mem_of_getElem? (i := 1) rfl) rfl rfl dX4_bestGate_13 ?_
    refine g_iload_n C 1 dX4_bestGate_16 rfl rfl ?_
    refine g_callSi C (n := 2) (As := [.ref (a 3), .int p1]) (rest := [.ref (a 0)]) (fun r h => mX4_isInside l D K (a 3) _ _ r h) (MWe_3 D K a _) gX4_bestGate_X4_isInside rfl (by decide +kernel) ⟨Nat.le_of_ble_eq_true rfl, Nat.le_of_ble_eq_true rfl, rfl, rfl⟩ rfl rfl (Nat.le_of_ble_eq_true rfl) dX4_bestGate_17 (fun r8 _ => ?_)
    refine g_state (fun u9 => ?_)
    refine g_if_eq C 27 dX4_bestGate_20 (by decide) (fun _ => ?_) (fun _ => ?_)
    · refine g_iconst C (v := (2 : Int32)) dX4_bestGate_27 ic_2 ?_
      exact h_28 u9 p1 (2 : Int32)
    · refine g_iconst C (v := (0 : Int32)) dX4_bestGate_23 ic_0 ?_
      refine g_goto C 28 dX4_bestGate_24 (by decide) ?_
      exact h_28 u9 p1 (0 : Int32)
set_option maxHeartbeats 4000000 in
set_option maxRecDepth 100000 in
theorem mX4_takes (l : Launch) (D : va_G) (K : Nat → ClassId) (a : Nat → Nat) (σ : gS) (p1 : Int32) (p2 : Int32) (r : (Int32 × gS)) (hf : fX4_takes σ p1 p2 = some r) : gMi l yX4_takes wsX4_takes { frames := 3, cells := 0, slots := 0, locals := 66 } D (gT K) (MW K a) [.ref (a 0), .int p1, .int p2] σ r := by
  refine mk_z (nL := 3) (cc := cX4_takes) (by decide) rfl (Nat.le_of_ble_eq_true rfl) rfl rfl hf (fun g C => ?_)
  refine g_sub C (lv' := [(0, .ref (a 0)), (1, .int p1), (2, .int p2)]) [0, 1, 2] rfl ?_
  unfold fX4_takes
  refine g_iload_n C 1 dX4_takes_0 rfl rfl ?_
  refine g_callSi C (n := 1) (As := [.int p1]) (rest := []) (fun r h => mX4_isVisitor l D K _ r h) gE.nil (τ := ()) gX4_takes_X4_isVisitor rfl (by decide +kernel) ⟨Nat.le_of_ble_eq_true rfl, Nat.le_of_ble_eq_true rfl, rfl, rfl⟩ rfl rfl (Nat.le_of_ble_eq_true rfl) dX4_takes_1 (fun r1 _ => ?_)
  refine g_if_eq C 26 dX4_takes_4 (by decide) (fun _ => ?_) (fun _ => ?_)
  · refine g_iconst C (v := (0 : Int32)) dX4_takes_26 ic_0 ?_
    exact g_ret C ⟨dX4_takes_27, rfl, rfl, Or.inl rfl⟩
  · refine g_iload_n C 2 dX4_takes_7 rfl rfl ?_
    refine g_callSi C (n := 1) (As := [.int p2]) (rest := []) (fun r h => mX4_isBook l D K _ r h) gE.nil (τ := ()) gX4_takes_X4_isBook rfl (by decide +kernel) ⟨Nat.le_of_ble_eq_true rfl, Nat.le_of_ble_eq_true rfl, rfl, rfl⟩ rfl rfl (Nat.le_of_ble_eq_true rfl) dX4_takes_8 (fun r2 _ => ?_)
    refine g_if_eq C 26 dX4_takes_11 (by decide) (fun _ => ?_) (fun _ => ?_)
    · refine g_iconst C (v := (0 : Int32)) dX4_takes_26 ic_0 ?_
      exact g_ret C ⟨dX4_takes_27, rfl, rfl, Or.inl rfl⟩
    · refine g_aload_n C 0 dX4_takes_14 rfl rfl ?_
      refine g_get C (fun _ h => List.mem_cons_of_mem _ (List.mem_append_right _ h)) 0 (MWg_0 K a _) rfl 8 (by decide) (List.mem_of_getElem? (i := 1) rfl) rfl rfl dX4_takes_15 ?_
      refine g_iload_n C 1 dX4_takes_18 rfl rfl ?_
      refine g_iload_n C 2 dX4_takes_19 rfl rfl ?_
      refine g_callSi C (n := 3) (As := [.ref (a 4), .int p1, .int p2]) (rest := []) (fun r h => mX4_canTake l D K (a 4) _ _ _ r h) (MWe_4 D K a _) gX4_takes_X4_canTake rfl (by decide +kernel) ⟨Nat.le_of_ble_eq_true rfl, Nat.le_of_ble_eq_true rfl, rfl, rfl⟩ rfl rfl (Nat.le_of_ble_eq_true rfl) dX4_takes_20 (fun r3 _ => ?_)
      refine g_state (fun u4 => ?_)
      refine g_if_ne C 28 dX4_takes_23 (by decide) (fun _ => ?_) (fun _ => ?_)
      · refine g_iconst C (v := (0 : Int32)) dX4_takes_26 ic_0 ?_
        exact g_ret C ⟨dX4_takes_27, rfl, rfl, Or.inl rfl⟩
      · refine g_aload_n C 0 dX4_takes_28 rfl rfl ?_
        refine g_get C (fun _ h => List.mem_cons_of_mem _ (List.mem_append_right _ h)) 0 (MWg_0 K a _) rfl 8 (by decide) (List.mem_of_getElem? (i := 1) rfl) rfl rfl dX4_takes_29 ?_
        refine g_iload_n C 2 dX4_takes_32 rfl rfl ?_
        refine g_iconst C (v := (0 : Int32)) dX4_takes_33 ic_0 ?_
        refine g_callSi C (n := 2) (As := [.int p2, .int (0 : Int32)]) (rest := [.ref (a 4)]) (fun r h => mX4_bookAt l D K _ _ r h) gE.nil (τ := ()) gX4_takes_X4_bookAt rfl (by decide +kernel) ⟨Nat.le_of_ble_eq_true rfl, Nat.le_of_ble_eq_true rfl, rfl, rfl⟩ rfl rfl (Nat.le_of_ble_eq_true rfl) dX4_takes_34 (fun r5 _ => ?_)
        refine g_iload_n C 1 dX4_takes_37 rfl rfl ?_
        refine g_iconst C (v := (1 : Int32)) dX4_takes_38 ic_1 ?_
        refine g_iadd C dX4_takes_39 ?_
        refine g_topi (fun t6 => ?_)
        refine g_iastG C 4 0 (MWg_4 K a _) rfl (MWs_4 K a _ _) dX4_takes_40 ?_
        refine g_state (fun u7 => ?_)
        refine g_iconst C (v := (1 : Int32)) dX4_takes_41 ic_1 ?_
        exact g_ret C ⟨dX4_takes_42, rfl, rfl, Or.inr rfl⟩
set_option maxHeartbeats 4000000 in
set_option maxRecDepth 100000 in
theorem mX4_marks (l : Launch) (D : va_G) (K : Nat → ClassId) (a : Nat → Nat) (σ : gS) (p1 : Int32) (p2 : Int32) (r : (Int32 × gS)) (hf : fX4_marks σ p1 p2 = some r) : gMi l yX4_marks wsX4_marks { frames := 4, cells := 0, slots := 0, locals := 86 } D (gT K) (MW K a) [.ref (a 0), .int p1, .int p2] σ r := by
  refine mk_z (nL := 3) (cc := cX4_marks) (by decide) rfl (Nat.le_of_ble_eq_true rfl) rfl rfl hf (fun g C => ?_)
  refine g_sub C (lv' := [(0, .ref (a 0)), (1, .int p1), (2, .int p2)]) [0, 1, 2] rfl ?_
  unfold fX4_marks
  have h_46 : ∀ (σ : gS) (v1 : Int32) (v2 : Int32), g (fX4_marks_L46 σ v1 v2) 46 [(0, .ref (a 0)), (1, .int v1), (2, .int v2)] [] σ := by
    have h_60 : ∀ (σ : gS) (v2 : Int32) (s1 : Int32) (s2 : Int32), g (fX4_marks_L60 σ v2 s1 s2) 60 [(2, .int v2)] [.int s2, .int s1, .ref (a 4)] σ := by
      intro σ v2 s1 s2
      unfold fX4_marks_L60
      refine g_callSi C (n := 2) (As := [.int s1, .int s2]) (rest := [.ref (a 4)]) (fun r h => mX4_bookAt l D K _ _ r h) gE.nil (τ := ()) gX4_marks_X4_bookAt rfl (by decide +kernel) ⟨Nat.le_of_ble_eq_true rfl, Nat.le_of_ble_eq_true rfl, rfl, rfl⟩ rfl rfl (Nat.le_of_ble_eq_true rfl) dX4_marks_60 (fun r1 _ => ?_)
      refine g_iload_n C 0 dX4_marks_63 rfl rfl ?_
      refine g_iconst C (v := (1 : Int32)) dX4_marks_64 ic_1 ?_
      refine g_icmp_ne C 72 dX4_marks_65 (by decide) (fun _ => ?_) (fun _ => ?_)
      · refine g_iconst C (v := (1 : Int32)) dX4_marks_68 ic_1 ?_
        refine g_goto C 73 dX4_marks_69 (by decide) ?_
        refine g_iastG C 4 0 (MWg_4 K a _) rfl (MWs_4 K a _ _) dX4_marks_73 ?_
        refine g_state (fun u2 => ?_)
        refine g_iconst C (v := (1 : Int32)) dX4_marks_74 ic_1 ?_
        exact g_ret C ⟨dX4_marks_75, rfl, rfl, Or.inr rfl⟩
      · refine g_iconst C (v := (0 : Int32)) dX4_marks_72 ic_0 ?_
        refine g_iastG C 4 0 (MWg_4 K a _) rfl (MWs_4 K a _ _) dX4_marks_73 ?_
        refine g_state (fun u3 => ?_)
        refine g_iconst C (v := (1 : Int32)) dX4_marks_74 ic_1 ?_
        exact g_ret C ⟨dX4_marks_75, rfl, rfl, Or.inr rfl⟩
    intro σ v1 v2
    unfold fX4_marks_L46
    refine g_aload_n C 0 dX4_marks_46 rfl rfl ?_
    refine g_get C (fun _ h => List.mem_cons_of_mem _ (List.mem_append_right _ h)) 0 (MWg_0 K a _) rfl 8 (by decide) (List.mem_of_getElem? (i := 1) rfl) rfl rfl dX4_marks_47 ?_
    refine g_iload_n C 1 dX4_marks_50 rfl rfl ?_
    refine g_iload_n C 2 dX4_marks_51 rfl rfl ?_
    refine g_if_ne C 59 dX4_marks_52 (by decide) (fun _ => ?_) (fun _ => ?_)
    · refine g_iconst C (v := (0 : Int32)) dX4_marks_55 ic_0 ?_
      refine g_goto C 60 dX4_marks_56 (by decide) ?_
      refine g_sub C (lv' := [(2, .int v2)]) [2] rfl ?_
      exact h_60 σ v2 v1 (0 : Int32)
    · refine g_iconst C (v := (1 : Int32)) dX4_marks_59 ic_1 ?_
      refine g_sub C (lv' := [(2, .int v2)]) [2] rfl ?_
      exact h_60 σ v2 v1 (1 : Int32)
  refine g_iload_n C 1 dX4_marks_0 rfl rfl ?_
  refine g_callSi C (n := 1) (As := [.int p1]) (rest := []) (fun r h => mX4_isBook l D K _ r h) gE.nil (τ := ()) gX4_marks_X4_isBook rfl (by decide +kernel) ⟨Nat.le_of_ble_eq_true rfl, Nat.le_of_ble_eq_true rfl, rfl, rfl⟩ rfl rfl (Nat.le_of_ble_eq_true rfl) dX4_marks_1 (fun r4 _ => ?_)
  refine g_if_eq C 44 dX4_marks_4 (by decide) (fun _ => ?_) (fun _ => ?_)
  · refine g_iconst C (v := (0 : Int32)) dX4_marks_44 ic_0 ?_
    exact g_ret C ⟨dX4_marks_45, rfl, rfl, Or.inl rfl⟩
  · refine g_iload_n C 2 dX4_marks_7 rfl rfl ?_
    refine g_iconst C (v := (2 : Int32)) dX4_marks_8 ic_2 ?_
    refine g_icmp_gt C 44 dX4_marks_9 (by decide) (fun _ => ?_) (fun _ => ?_)
    · refine g_iconst C (v := (0 : Int32)) dX4_marks_44 ic_0 ?_
      exact g_ret C ⟨dX4_marks_45, rfl, rfl, Or.inl rfl⟩
    · refine g_iload_n C 2 dX4_marks_12 rfl rfl ?_
      refine g_if_ne C 30 dX4_marks_13 (by decide) (fun _ => ?_) (fun _ => ?_)
      · refine g_aload_n C 0 dX4_marks_16 rfl rfl ?_
        refine g_get C (fun _ h => List.mem_cons_of_mem _ (List.mem_append_right _ h)) 0 (MWg_0 K a _) rfl 8 (by decide) (List.mem_of_getElem? (i := 1) rfl) rfl rfl dX4_marks_17 ?_
        refine g_iload_n C 1 dX4_marks_20 rfl rfl ?_
        refine g_callSi C (n := 2) (As := [.ref (a 4), .int p1]) (rest := []) (fun r h => mX4_canPutBack l D K (a 4) _ _ r h) (MWe_4 D K a _) gX4_marks_X4_canPutBack rfl (by decide +kernel) ⟨Nat.le_of_ble_eq_true rfl, Nat.le_of_ble_eq_true rfl, rfl, rfl⟩ rfl rfl (Nat.le_of_ble_eq_true rfl) dX4_marks_21 (fun r5 _ => ?_)
        refine g_state (fun u6 => ?_)
        refine g_if_eq C 44 dX4_marks_24 (by decide) (fun _ => ?_) (fun _ => ?_)
        · refine g_iconst C (v := (0 : Int32)) dX4_marks_44 ic_0 ?_
          exact g_ret C ⟨dX4_marks_45, rfl, rfl, Or.inl rfl⟩
        · refine g_goto C 46 dX4_marks_27 (by decide) ?_
          exact h_46 u6 p1 p2
      · refine g_aload_n C 0 dX4_marks_30 rfl rfl ?_
        refine g_get C (fun _ h => List.mem_cons_of_mem _ (List.mem_append_right _ h)) 0 (MWg_0 K a _) rfl 8 (by decide) (List.mem_of_getElem? (i := 1) rfl) rfl rfl dX4_marks_31 ?_
        refine g_iload_n C 1 dX4_marks_34 rfl rfl ?_
        refine g_iconst C (v := (2 : Int32)) dX4_marks_35 ic_2 ?_
        refine g_iload_n C 2 dX4_marks_36 rfl rfl ?_
        refine g_isub C dX4_marks_37 ?_
        refine g_callSi C (n := 3) (As := [.ref (a 4), .int p1, .int ((2 : Int32) - p2)]) (rest := []) (fun r h => mX4_canBorrow l D K (a 4) _ _ _ r h) (MWe_4 D K a _) gX4_marks_X4_canBorrow rfl (by decide +kernel) ⟨Nat.le_of_ble_eq_true rfl, Nat.le_of_ble_eq_true rfl, rfl, rfl⟩ rfl rfl (Nat.le_of_ble_eq_true rfl) dX4_marks_38 (fun r7 _ => ?_)
        refine g_state (fun u8 => ?_)
        refine g_if_ne C 46 dX4_marks_41 (by decide) (fun _ => ?_) (fun _ => ?_)
        · refine g_iconst C (v := (0 : Int32)) dX4_marks_44 ic_0 ?_
          exact g_ret C ⟨dX4_marks_45, rfl, rfl, Or.inl rfl⟩
        · exact h_46 u8 p1 p2
set_option maxHeartbeats 4000000 in
set_option maxRecDepth 100000 in
theorem mX4_walks (l : Launch) (D : va_G) (K : Nat → ClassId) (a : Nat → Nat) (σ : gS) (p1 : Int32) (p2 : Int32) (p3 : Int32) (r : (Int32 × gS)) (hf : fX4_walks σ p1 p2 p3 = some r) : gMi l yX4_walks wsX4_walks { frames := 2, cells := 0, slots := 0, locals := 46 } D (gT K) (MW K a) [.ref (a 0), .int p1, .int p2, .int p3] σ r := by
  refine mk_z (nL := 4) (cc := cX4_walks) (by decide) rfl (Nat.le_of_ble_eq_true rfl) rfl rfl hf (fun g C => ?_)
  refine g_sub C (lv' := [(0, .ref (a 0)), (1, .int p1), (2, .int p2), (3, .int p3)]) [0, 1, 2, 3] rfl ?_
  unfold fX4_walks
  refine g_iload_n C 1 dX4_walks_0 rfl rfl ?_
  refine g_callSi C (n := 1) (As := [.int p1]) (rest := []) (fun r h => mX4_isVisitor l D K _ r h) gE.nil (τ := ()) gX4_walks_X4_isVisitor rfl (by decide +kernel) ⟨Nat.le_of_ble_eq_true rfl, Nat.le_of_ble_eq_true rfl, rfl, rfl⟩ rfl rfl (Nat.le_of_ble_eq_true rfl) dX4_walks_1 (fun r1 _ => ?_)
  refine g_if_eq C 26 dX4_walks_4 (by decide) (fun _ => ?_) (fun _ => ?_)
  · refine g_iconst C (v := (0 : Int32)) dX4_walks_26 ic_0 ?_
    exact g_ret C ⟨dX4_walks_27, rfl, rfl, Or.inl rfl⟩
  · refine g_iload_n C 2 dX4_walks_7 rfl rfl ?_
    refine g_callSi C (n := 1) (As := [.int p2]) (rest := []) (fun r h => mX4_isGate l D K _ r h) gE.nil (τ := ()) gX4_walks_X4_isGate rfl (by decide +kernel) ⟨Nat.le_of_ble_eq_true rfl, Nat.le_of_ble_eq_true rfl, rfl, rfl⟩ rfl rfl (Nat.le_of_ble_eq_true rfl) dX4_walks_8 (fun r2 _ => ?_)
    refine g_if_eq C 26 dX4_walks_11 (by decide) (fun _ => ?_) (fun _ => ?_)
    · refine g_iconst C (v := (0 : Int32)) dX4_walks_26 ic_0 ?_
      exact g_ret C ⟨dX4_walks_27, rfl, rfl, Or.inl rfl⟩
    · refine g_aload_n C 0 dX4_walks_14 rfl rfl ?_
      refine g_get C (fun _ h => List.mem_cons_of_mem _ (List.mem_append_right _ h)) 0 (MWg_0 K a _) rfl 8 (by decide) (List.mem_of_getElem? (i := 1) rfl) rfl rfl dX4_walks_15 ?_
      refine g_iload_n C 1 dX4_walks_18 rfl rfl ?_
      refine g_iload_n C 3 dX4_walks_19 rfl rfl ?_
      refine g_callSi C (n := 3) (As := [.ref (a 4), .int p1, .int p3]) (rest := []) (fun r h => mX4_canWalk l D K (a 4) _ _ _ r h) (MWe_4 D K a _) gX4_walks_X4_canWalk rfl (by decide +kernel) ⟨Nat.le_of_ble_eq_true rfl, Nat.le_of_ble_eq_true rfl, rfl, rfl⟩ rfl rfl (Nat.le_of_ble_eq_true rfl) dX4_walks_20 (fun r3 _ => ?_)
      refine g_state (fun u4 => ?_)
      refine g_if_ne C 28 dX4_walks_23 (by decide) (fun _ => ?_) (fun _ => ?_)
      · refine g_iconst C (v := (0 : Int32)) dX4_walks_26 ic_0 ?_
        exact g_ret C ⟨dX4_walks_27, rfl, rfl, Or.inl rfl⟩
      · refine g_aload_n C 0 dX4_walks_28 rfl rfl ?_
        refine g_get C (fun _ h => List.mem_cons_of_mem _ (List.mem_append_right _ h)) 0 (MWg_0 K a _) rfl 8 (by decide) (List.mem_of_getElem? (i := 1) rfl) rfl rfl dX4_walks_29 ?_
        refine g_iload_n C 1 dX4_walks_32 rfl rfl ?_
        refine g_iload_n C 2 dX4_walks_33 rfl rfl ?_
        refine g_iload_n C 3 dX4_walks_34 rfl rfl ?_
        refine g_callSi C (n := 4) (As := [.ref (a 4), .int p1, .int p2, .int p3]) (rest := []) (fun r h => mX4_walkIn l D K (a 4) _ _ _ _ r h) (MWe_4 D K a _) gX4_walks_X4_walkIn rfl (by decide +kernel) ⟨Nat.le_of_ble_eq_true rfl, Nat.le_of_ble_eq_true rfl, rfl, rfl⟩ rfl rfl (Nat.le_of_ble_eq_true rfl) dX4_walks_35 (fun r5 _ => ?_)
        refine g_state (fun u6 => ?_)
        refine g_pop C dX4_walks_38 rfl ?_
        refine g_iconst C (v := (1 : Int32)) dX4_walks_39 ic_1 ?_
        exact g_ret C ⟨dX4_walks_40, rfl, rfl, Or.inr rfl⟩
set_option maxHeartbeats 4000000 in
set_option maxRecDepth 100000 in
theorem mX4_turns (l : Launch) (D : va_G) (K : Nat → ClassId) (a : Nat → Nat) (σ : gS) (p1 : Int32) (r : (Int32 × gS)) (hf : fX4_turns σ p1 = some r) : gMi l yX4_turns wsX4_turns { frames := 2, cells := 0, slots := 0, locals := 45 } D (gT K) (MW K a) [.ref (a 0), .int p1] σ r := by
  refine mk_z (nL := 2) (cc := cX4_turns) (by decide) rfl (Nat.le_of_ble_eq_true rfl) rfl rfl hf (fun g C => ?_)
  refine g_sub C (lv' := [(0, .ref (a 0)), (1, .int p1)]) [0, 1] rfl ?_
  unfold fX4_turns
  refine g_iload_n C 1 dX4_turns_0 rfl rfl ?_
  refine g_callSi C (n := 1) (As := [.int p1]) (rest := []) (fun r h => mX4_isVisitor l D K _ r h) gE.nil (τ := ()) gX4_turns_X4_isVisitor rfl (by decide +kernel) ⟨Nat.le_of_ble_eq_true rfl, Nat.le_of_ble_eq_true rfl, rfl, rfl⟩ rfl rfl (Nat.le_of_ble_eq_true rfl) dX4_turns_1 (fun r1 _ => ?_)
  refine g_if_eq C 18 dX4_turns_4 (by decide) (fun _ => ?_) (fun _ => ?_)
  · refine g_iconst C (v := (0 : Int32)) dX4_turns_18 ic_0 ?_
    exact g_ret C ⟨dX4_turns_19, rfl, rfl, Or.inl rfl⟩
  · refine g_aload_n C 0 dX4_turns_7 rfl rfl ?_
    refine g_get C (fun _ h => List.mem_cons_of_mem _ (List.mem_append_right _ h)) 0 (MWg_0 K a _) rfl 8 (by decide) (List.mem_of_getElem? (i := 1) rfl) rfl rfl dX4_turns_8 ?_
    refine g_iload_n C 1 dX4_turns_11 rfl rfl ?_
    refine g_callSi C (n := 2) (As := [.ref (a 4), .int p1]) (rest := []) (fun r h => mX4_isAtGate l D K (a 4) _ _ r h) (MWe_4 D K a _) gX4_turns_X4_isAtGate rfl (by decide +kernel) ⟨Nat.le_of_ble_eq_true rfl, Nat.le_of_ble_eq_true rfl, rfl, rfl⟩ rfl rfl (Nat.le_of_ble_eq_true rfl) dX4_turns_12 (fun r2 _ => ?_)
    refine g_state (fun u3 => ?_)
    refine g_if_ne C 20 dX4_turns_15 (by decide) (fun _ => ?_) (fun _ => ?_)
    · refine g_iconst C (v := (0 : Int32)) dX4_turns_18 ic_0 ?_
      exact g_ret C ⟨dX4_turns_19, rfl, rfl, Or.inl rfl⟩
    · refine g_aload_n C 0 dX4_turns_20 rfl rfl ?_
      refine g_get C (fun _ h => List.mem_cons_of_mem _ (List.mem_append_right _ h)) 0 (MWg_0 K a _) rfl 8 (by decide) (List.mem_of_getElem? (i := 1) rfl) rfl rfl dX4_turns_21 ?_
      refine g_iload_n C 1 dX4_turns_24 rfl rfl ?_
      refine g_callSi C (n := 2) (As := [.ref (a 4), .int p1]) (rest := []) (fun r h => mX4_turnIn l D K (a 4) _ _ r h) (MWe_4 D K a _) gX4_turns_X4_turnIn rfl (by decide +kernel) ⟨Nat.le_of_ble_eq_true rfl, Nat.le_of_ble_eq_true rfl, rfl, rfl⟩ rfl rfl (Nat.le_of_ble_eq_true rfl) dX4_turns_25 (fun r4 _ => ?_)
      refine g_state (fun u5 => ?_)
      refine g_pop C dX4_turns_28 rfl ?_
      refine g_iconst C (v := (1 : Int32)) dX4_turns_29 ic_1 ?_
      exact g_ret C ⟨dX4_turns_30, rfl, rfl, Or.inr rfl⟩
set_option maxHeartbeats 4000000 in
set_option maxRecDepth 100000 in
theorem mX4_passes (l : Launch) (D : va_G) (K : Nat → ClassId) (a : Nat → Nat) (σ : gS) (p1 : Int32) (r : (Int32 × gS)) (hf : fX4_passes σ p1 = some r) : gMi l yX4_passes wsX4_passes { frames := 6, cells := 0, slots := 0, locals := 138 } D (gT K) (MW K a) [.ref (a 0), .int p1] σ r := by
  refine mk_z (nL := 2) (cc := cX4_passes) (by decide) rfl (Nat.le_of_ble_eq_true rfl) rfl rfl hf (fun g C => ?_)
  refine g_sub C (lv' := [(0, .ref (a 0)), (1, .int p1)]) [0, 1] rfl ?_
  unfold fX4_passes
  refine g_iload_n C 1 dX4_passes_0 rfl rfl ?_
  refine g_i2l C dX4_passes_1 ?_
  refine g_lconst C (v := (1 : Int64)) dX4_passes_2 (by decide) ?_
  refine g_ldc2 C (v := (50 : Int64)) (List.mem_of_getElem? (i := 1) rfl) dX4_passes_3 ?_
  refine g_callSi C (n := 3) (As := [.long (p1).toInt64, .long (1 : Int64), .long (50 : Int64)]) (rest := []) (fun r h => mX4_in l D K _ _ _ r h) gE.nil (τ := ()) gX4_passes_X4_in rfl (by decide +kernel) ⟨Nat.le_of_ble_eq_true rfl, Nat.le_of_ble_eq_true rfl, rfl, rfl⟩ rfl rfl (Nat.le_of_ble_eq_true rfl) dX4_passes_6 (fun r1 _ => ?_)
  refine g_if_ne C 14 dX4_passes_9 (by decide) (fun _ => ?_) (fun _ => ?_)
  · refine g_iconst C (v := (0 : Int32)) dX4_passes_12 ic_0 ?_
    exact g_ret C ⟨dX4_passes_13, rfl, rfl, Or.inl rfl⟩
  · refine g_aload_n C 0 dX4_passes_14 rfl rfl ?_
    refine g_get C (fun _ h => List.mem_cons_of_mem _ (List.mem_append_right _ h)) 0 (MWg_0 K a _) rfl 8 (by decide) (List.mem_of_getElem? (i := 2) rfl) rfl rfl dX4_passes_15 ?_
    refine g_iload_n C 1 dX4_passes_18 rfl rfl ?_
    refine g_callSi C (n := 2) (As := [.ref (a 4), .int p1]) (rest := []) (fun r h => mX4_ticksIn l D K (a 4) _ _ r h) (MWe_4 D K a _) gX4_passes_X4_ticksIn rfl (by decide +kernel) ⟨Nat.le_of_ble_eq_true rfl, Nat.le_of_ble_eq_true rfl, rfl, rfl⟩ rfl rfl (Nat.le_of_ble_eq_true rfl) dX4_passes_19 (fun r2 _ => ?_)
    refine g_state (fun u3 => ?_)
    refine g_pop C dX4_passes_22 rfl ?_
    refine g_iconst C (v := (1 : Int32)) dX4_passes_23 ic_1 ?_
    exact g_ret C ⟨dX4_passes_24, rfl, rfl, Or.inr rfl⟩
set_option maxHeartbeats 4000000 in
set_option maxRecDepth 100000 in
theorem mX4_does (l : Launch) (D : va_G) (K : Nat → ClassId) (a : Nat → Nat) (σ : gS) (p1 : Int32) (r : (Int32 × gS)) (hf : fX4_does σ p1 = some r) : gMi l yX4_does wsX4_does { frames := 7, cells := 0, slots := 0, locals := 159 } D (gT K) (MW K a) [.ref (a 0), .int p1] σ r := by
  refine mk_z (nL := 7) (cc := cX4_does) (by decide) rfl (Nat.le_of_ble_eq_true rfl) rfl rfl hf (fun g C => ?_)
  refine g_sub C (lv' := [(0, .ref (a 0)), (1, .int p1)]) [0, 1] rfl ?_
  unfold fX4_does
  have h_169 : ∀ (σ : gS) (s1 : Int32) (s2 : Int32) (s3 : Int32), g (fX4_does_L169 σ s1 s2 s3) 169 [] [.int s3, .int s2, .int s1, .ref (a 0)] σ := by
    intro σ s1 s2 s3
    unfold fX4_does_L169
    refine g_callVi C (n := 3) (As := [.int s1, .int s2, .int s3]) (rest := []) (fun r h => mX4_walks l D K a _ _ _ _ r h) gE.same gX4_does_X4_walks rfl (by decide +kernel) ⟨Nat.le_of_ble_eq_true rfl, Nat.le_of_ble_eq_true rfl, rfl, rfl⟩ 0 (MWg_0 K a _) rfl rfl rfl (Nat.le_of_ble_eq_true rfl) dX4_does_169 (fun r1 _ => ?_)
    refine g_if_eq C 179 dX4_does_172 (by decide) (fun _ => ?_) (fun _ => ?_)
    · refine g_iconst C (v := (0 : Int32)) dX4_does_179 ic_0 ?_
      exact g_ret C ⟨dX4_does_180, rfl, rfl, Or.inl rfl⟩
    · refine g_iconst C (v := (1 : Int32)) dX4_does_175 ic_1 ?_
      refine g_goto C 180 dX4_does_176 (by decide) ?_
      exact g_ret C ⟨dX4_does_180, rfl, rfl, Or.inr rfl⟩
  refine g_iload_n C 1 dX4_does_0 rfl rfl ?_
  refine g_sipush C (v := (10000 : Int32)) dX4_does_1 (by decide) ?_
  refine g_idiv C dX4_does_4 (by decide) ?_
  refine g_topi (fun t2 => ?_)
  refine g_istore_n C (lv' := [(2, .int t2), (0, .ref (a 0)), (1, .int p1)]) dX4_does_5 rfl (by decide) rfl ?_
  refine g_iload_n C 2 dX4_does_6 rfl rfl ?_
  refine g_sipush C (v := (1000 : Int32)) dX4_does_7 (by decide) ?_
  refine g_idiv C dX4_does_10 (by decide) ?_
  refine g_bipush C (v := (10 : Int32)) dX4_does_11 (by decide) ?_
  refine g_irem C dX4_does_13 (by decide) ?_
  refine g_topi (fun t3 => ?_)
  refine g_istore_n C (lv' := [(3, .int t3), (2, .int t2), (0, .ref (a 0)), (1, .int p1)]) dX4_does_14 rfl (by decide) rfl ?_
  refine g_iload_n C 3 dX4_does_15 rfl rfl ?_
  refine g_bipush C (v := (10 : Int32)) dX4_does_16 (by decide) ?_
  refine g_idiv C dX4_does_18 (by decide) ?_
  refine g_bipush C (v := (100 : Int32)) dX4_does_19 (by decide) ?_
  refine g_irem C dX4_does_21 (by decide) ?_
  refine g_topi (fun t4 => ?_)
  refine g_istore C (lv' := [(4, .int t4), (3, .int t3), (2, .int t2), (0, .ref (a 0)), (1, .int p1)]) dX4_does_22 (by decide) rfl ?_
  refine g_iload_n C 4 dX4_does_24 rfl rfl ?_
  refine g_bipush C (v := (10 : Int32)) dX4_does_25 (by decide) ?_
  refine g_irem C dX4_does_27 (by decide) ?_
  refine g_topi (fun t5 => ?_)
  refine g_istore C (lv' := [(5, .int t5), (4, .int t4), (3, .int t3), (2, .int t2), (0, .ref (a 0)), (1, .int p1)]) dX4_does_28 (by decide) rfl ?_
  refine g_iload_n C 5 dX4_does_30 rfl rfl ?_
  refine g_bipush C (v := (100 : Int32)) dX4_does_31 (by decide) ?_
  refine g_idiv C dX4_does_33 (by decide) ?_
  refine g_bipush C (v := (100 : Int32)) dX4_does_34 (by decide) ?_
  refine g_irem C dX4_does_36 (by decide) ?_
  refine g_topi (fun t6 => ?_)
  refine g_istore C (lv' := [(6, .int t6), (5, .int t5), (4, .int t4), (3, .int t3), (2, .int t2), (0, .ref (a 0)), (1, .int p1)]) dX4_does_37 (by decide) rfl ?_
  refine g_iload_n C 4 dX4_does_39 rfl rfl ?_
  refine g_tcase C 92 (1 : Int32) dX4_does_40 (by decide) (by decide) rfl (by decide) (fun _ => ?_) (fun h7 => ?_)
  · refine g_iload C 1 dX4_does_92 rfl ?_
    refine g_if_ne C 111 dX4_does_94 (by decide) (fun _ => ?_) (fun _ => ?_)
    · refine g_aload_n C 5 dX4_does_97 rfl rfl ?_
      refine g_iload_n C 3 dX4_does_98 rfl rfl ?_
      refine g_iload C 2 dX4_does_99 rfl ?_
      refine g_callVi C (n := 2) (As := [.int t3, .int t4]) (rest := []) (fun r h => mX4_takes l D K a _ _ _ r h) gE.same gX4_does_X4_takes rfl (by decide +kernel) ⟨Nat.le_of_ble_eq_true rfl, Nat.le_of_ble_eq_true rfl, rfl, rfl⟩ 0 (MWg_0 K a _) rfl rfl rfl (Nat.le_of_ble_eq_true rfl) dX4_does_101 (fun r8 _ => ?_)
      refine g_if_eq C 111 dX4_does_104 (by decide) (fun _ => ?_) (fun _ => ?_)
      · refine g_iconst C (v := (0 : Int32)) dX4_does_111 ic_0 ?_
        exact g_ret C ⟨dX4_does_112, rfl, rfl, Or.inl rfl⟩
      · refine g_iconst C (v := (1 : Int32)) dX4_does_107 ic_1 ?_
        refine g_goto C 112 dX4_does_108 (by decide) ?_
        exact g_ret C ⟨dX4_does_112, rfl, rfl, Or.inr rfl⟩
    · refine g_iconst C (v := (0 : Int32)) dX4_does_111 ic_0 ?_
      exact g_ret C ⟨dX4_does_112, rfl, rfl, Or.inl rfl⟩
  refine g_tcase C 113 (2 : Int32) dX4_does_40 (by decide) (by decide) rfl (by decide) (fun _ => ?_) (fun h9 => ?_)
  · refine g_iload_n C 3 dX4_does_113 rfl rfl ?_
    refine g_if_ne C 132 dX4_does_114 (by decide) (fun _ => ?_) (fun _ => ?_)
    · refine g_aload_n C 5 dX4_does_117 rfl rfl ?_
      refine g_iload C 2 dX4_does_118 rfl ?_
      refine g_iload C 1 dX4_does_120 rfl ?_
      refine g_callVi C (n := 2) (As := [.int t4, .int t5]) (rest := []) (fun r h => mX4_marks l D K a _ _ _ r h) gE.same gX4_does_X4_marks rfl (by decide +kernel) ⟨Nat.le_of_ble_eq_true rfl, Nat.le_of_ble_eq_true rfl, rfl, rfl⟩ 0 (MWg_0 K a _) rfl rfl rfl (Nat.le_of_ble_eq_true rfl) dX4_does_122 (fun r10 _ => ?_)
      refine g_if_eq C 132 dX4_does_125 (by decide) (fun _ => ?_) (fun _ => ?_)
      · refine g_iconst C (v := (0 : Int32)) dX4_does_132 ic_0 ?_
        exact g_ret C ⟨dX4_does_133, rfl, rfl, Or.inl rfl⟩
      · refine g_iconst C (v := (1 : Int32)) dX4_does_128 ic_1 ?_
        refine g_goto C 133 dX4_does_129 (by decide) ?_
        exact g_ret C ⟨dX4_does_133, rfl, rfl, Or.inr rfl⟩
    · refine g_iconst C (v := (0 : Int32)) dX4_does_132 ic_0 ?_
      exact g_ret C ⟨dX4_does_133, rfl, rfl, Or.inl rfl⟩
  refine g_tcase C 134 (3 : Int32) dX4_does_40 (by decide) (by decide) rfl (by decide) (fun _ => ?_) (fun h11 => ?_)
  · refine g_iload C 1 dX4_does_134 rfl ?_
    refine g_if_ne C 179 dX4_does_136 (by decide) (fun _ => ?_) (fun _ => ?_)
    · refine g_iload C 2 dX4_does_139 rfl ?_
      refine g_bipush C (v := (10 : Int32)) dX4_does_141 (by decide) ?_
      refine g_irem C dX4_does_143 (by decide) ?_
      refine g_topi (fun t12 => ?_)
      refine g_iconst C (v := (2 : Int32)) dX4_does_144 ic_2 ?_
      refine g_icmp_ge C 179 dX4_does_145 (by decide) (fun _ => ?_) (fun _ => ?_)
      · refine g_iconst C (v := (0 : Int32)) dX4_does_179 ic_0 ?_
        exact g_ret C ⟨dX4_does_180, rfl, rfl, Or.inl rfl⟩
      · refine g_aload_n C 5 dX4_does_148 rfl rfl ?_
        refine g_iload_n C 3 dX4_does_149 rfl rfl ?_
        refine g_iload C 2 dX4_does_150 rfl ?_
        refine g_bipush C (v := (10 : Int32)) dX4_does_152 (by decide) ?_
        refine g_idiv C dX4_does_154 (by decide) ?_
        refine g_iload C 2 dX4_does_155 rfl ?_
        refine g_bipush C (v := (10 : Int32)) dX4_does_157 (by decide) ?_
        refine g_irem C dX4_does_159 (by decide) ?_
        refine g_topi (fun t13 => ?_)
        refine g_iconst C (v := (1 : Int32)) dX4_does_160 ic_1 ?_
        refine g_icmp_ne C 168 dX4_does_161 (by decide) (fun _ => ?_) (fun _ => ?_)
        · refine g_iconst C (v := (1 : Int32)) dX4_does_164 ic_1 ?_
          refine g_goto C 169 dX4_does_165 (by decide) ?_
          refine g_sub C (lv' := []) [] rfl ?_
          exact h_169 σ t3 (t4 / (10 : Int32)) (1 : Int32)
        · refine g_iconst C (v := (0 : Int32)) dX4_does_168 ic_0 ?_
          refine g_sub C (lv' := []) [] rfl ?_
          exact h_169 σ t3 (t4 / (10 : Int32)) (0 : Int32)
    · refine g_iconst C (v := (0 : Int32)) dX4_does_179 ic_0 ?_
      exact g_ret C ⟨dX4_does_180, rfl, rfl, Or.inl rfl⟩
  refine g_tcase C 181 (4 : Int32) dX4_does_40 (by decide) (by decide) rfl (by decide) (fun _ => ?_) (fun h14 => ?_)
  · refine g_iload_n C 6 dX4_does_181 rfl rfl ?_
    refine g_sipush C (v := (1000 : Int32)) dX4_does_182 (by decide) ?_
    refine g_irem C dX4_does_185 (by decide) ?_
    refine g_topi (fun t15 => ?_)
    refine g_if_ne C 201 dX4_does_186 (by decide) (fun _ => ?_) (fun _ => ?_)
    · refine g_aload_n C 5 dX4_does_189 rfl rfl ?_
      refine g_iload_n C 3 dX4_does_190 rfl rfl ?_
      refine g_callVi C (n := 1) (As := [.int t3]) (rest := []) (fun r h => mX4_turns l D K a _ _ r h) gE.same gX4_does_X4_turns rfl (by decide +kernel) ⟨Nat.le_of_ble_eq_true rfl, Nat.le_of_ble_eq_true rfl, rfl, rfl⟩ 0 (MWg_0 K a _) rfl rfl rfl (Nat.le_of_ble_eq_true rfl) dX4_does_191 (fun r16 _ => ?_)
      refine g_if_eq C 201 dX4_does_194 (by decide) (fun _ => ?_) (fun _ => ?_)
      · refine g_iconst C (v := (0 : Int32)) dX4_does_201 ic_0 ?_
        exact g_ret C ⟨dX4_does_202, rfl, rfl, Or.inl rfl⟩
      · refine g_iconst C (v := (1 : Int32)) dX4_does_197 ic_1 ?_
        refine g_goto C 202 dX4_does_198 (by decide) ?_
        exact g_ret C ⟨dX4_does_202, rfl, rfl, Or.inr rfl⟩
    · refine g_iconst C (v := (0 : Int32)) dX4_does_201 ic_0 ?_
      exact g_ret C ⟨dX4_does_202, rfl, rfl, Or.inl rfl⟩
  refine g_tcase C 203 (5 : Int32) dX4_does_40 (by decide) (by decide) rfl (by decide) (fun _ => ?_) (fun h17 => ?_)
  · refine g_iload C 0 dX4_does_203 rfl ?_
    refine g_if_ne C 223 dX4_does_205 (by decide) (fun _ => ?_) (fun _ => ?_)
    · refine g_aload_n C 5 dX4_does_208 rfl rfl ?_
      refine g_iload_n C 6 dX4_does_209 rfl rfl ?_
      refine g_bipush C (v := (100 : Int32)) dX4_does_210 (by decide) ?_
      refine g_irem C dX4_does_212 (by decide) ?_
      refine g_topi (fun t18 => ?_)
      refine g_callVi C (n := 1) (As := [.int t18]) (rest := []) (fun r h => mX4_passes l D K a _ _ r h) gE.same gX4_does_X4_passes rfl (by decide +kernel) ⟨Nat.le_of_ble_eq_true rfl, Nat.le_of_ble_eq_true rfl, rfl, rfl⟩ 0 (MWg_0 K a _) rfl rfl rfl (Nat.le_of_ble_eq_true rfl) dX4_does_213 (fun r19 _ => ?_)
      refine g_if_eq C 223 dX4_does_216 (by decide) (fun _ => ?_) (fun _ => ?_)
      · refine g_iconst C (v := (0 : Int32)) dX4_does_223 ic_0 ?_
        exact g_ret C ⟨dX4_does_224, rfl, rfl, Or.inl rfl⟩
      · refine g_iconst C (v := (1 : Int32)) dX4_does_219 ic_1 ?_
        refine g_goto C 224 dX4_does_220 (by decide) ?_
        exact g_ret C ⟨dX4_does_224, rfl, rfl, Or.inr rfl⟩
    · refine g_iconst C (v := (0 : Int32)) dX4_does_223 ic_0 ?_
      exact g_ret C ⟨dX4_does_224, rfl, rfl, Or.inl rfl⟩
  refine g_tcase C 225 (6 : Int32) dX4_does_40 (by decide) (by decide) rfl (by decide) (fun _ => ?_) (fun h20 => ?_)
  · refine g_iload_n C 3 dX4_does_225 rfl rfl ?_
    refine g_if_ne C 263 dX4_does_226 (by decide) (fun _ => ?_) (fun _ => ?_)
    · refine g_iload C 2 dX4_does_229 rfl ?_
      refine g_callSi C (n := 1) (As := [.int t4]) (rest := []) (fun r h => mX4_isBook l D K _ r h) gE.nil (τ := ()) gX4_does_X4_isBook rfl (by decide +kernel) ⟨Nat.le_of_ble_eq_true rfl, Nat.le_of_ble_eq_true rfl, rfl, rfl⟩ rfl rfl (Nat.le_of_ble_eq_true rfl) dX4_does_231 (fun r21 _ => ?_)
      refine g_if_eq C 263 dX4_does_234 (by decide) (fun _ => ?_) (fun _ => ?_)
      · refine g_iconst C (v := (0 : Int32)) dX4_does_263 ic_0 ?_
        exact g_ret C ⟨dX4_does_264, rfl, rfl, Or.inl rfl⟩
      · refine g_iload C 1 dX4_does_237 rfl ?_
        refine g_iconst C (v := (2 : Int32)) dX4_does_239 ic_2 ?_
        refine g_icmp_ge C 263 dX4_does_240 (by decide) (fun _ => ?_) (fun _ => ?_)
        · refine g_iconst C (v := (0 : Int32)) dX4_does_263 ic_0 ?_
          exact g_ret C ⟨dX4_does_264, rfl, rfl, Or.inl rfl⟩
        · refine g_aload_n C 5 dX4_does_243 rfl rfl ?_
          refine g_get C (fun _ h => List.mem_cons_of_mem _ (List.mem_append_right _ h)) 0 (MWg_0 K a _) rfl 8 (by decide) (List.mem_of_getElem? (i := 1) rfl) rfl rfl dX4_does_244 ?_
          refine g_iload C 2 dX4_does_247 rfl ?_
          refine g_iconst C (v := (3 : Int32)) dX4_does_249 ic_3 ?_
          refine g_callSi C (n := 2) (As := [.int t4, .int (3 : Int32)]) (rest := [.ref (a 4)]) (fun r h => mX4_bookAt l D K _ _ r h) gE.nil (τ := ()) gX4_does_X4_bookAt rfl (by decide +kernel) ⟨Nat.le_of_ble_eq_true rfl, Nat.le_of_ble_eq_true rfl, rfl, rfl⟩ rfl rfl (Nat.le_of_ble_eq_true rfl) dX4_does_250 (fun r22 _ => ?_)
          refine g_ialdG C 4 0 (MWg_4 K a _) rfl dX4_does_253 ?_
          refine g_iload C 1 dX4_does_254 rfl ?_
          refine g_icmp_ne C 263 dX4_does_256 (by decide) (fun _ => ?_) (fun _ => ?_)
          · refine g_iconst C (v := (1 : Int32)) dX4_does_259 ic_1 ?_
            refine g_goto C 264 dX4_does_260 (by decide) ?_
            exact g_ret C ⟨dX4_does_264, rfl, rfl, Or.inr rfl⟩
          · refine g_iconst C (v := (0 : Int32)) dX4_does_263 ic_0 ?_
            exact g_ret C ⟨dX4_does_264, rfl, rfl, Or.inl rfl⟩
    · refine g_iconst C (v := (0 : Int32)) dX4_does_263 ic_0 ?_
      exact g_ret C ⟨dX4_does_264, rfl, rfl, Or.inl rfl⟩
  refine g_tcase C 265 (7 : Int32) dX4_does_40 (by decide) (by decide) rfl (by decide) (fun _ => ?_) (fun h23 => ?_)
  · refine g_iload_n C 3 dX4_does_265 rfl rfl ?_
    refine g_callSi C (n := 1) (As := [.int t3]) (rest := []) (fun r h => mX4_isVisitor l D K _ r h) gE.nil (τ := ()) gX4_does_X4_isVisitor rfl (by decide +kernel) ⟨Nat.le_of_ble_eq_true rfl, Nat.le_of_ble_eq_true rfl, rfl, rfl⟩ rfl rfl (Nat.le_of_ble_eq_true rfl) dX4_does_266 (fun r24 _ => ?_)
    refine g_if_eq C 296 dX4_does_269 (by decide) (fun _ => ?_) (fun _ => ?_)
    · refine g_iconst C (v := (0 : Int32)) dX4_does_296 ic_0 ?_
      exact g_ret C ⟨dX4_does_297, rfl, rfl, Or.inl rfl⟩
    · refine g_iload C 2 dX4_does_272 rfl ?_
      refine g_if_ne C 296 dX4_does_274 (by decide) (fun _ => ?_) (fun _ => ?_)
      · refine g_aload_n C 5 dX4_does_277 rfl rfl ?_
        refine g_get C (fun _ h => List.mem_cons_of_mem _ (List.mem_append_right _ h)) 0 (MWg_0 K a _) rfl 8 (by decide) (List.mem_of_getElem? (i := 1) rfl) rfl rfl dX4_does_278 ?_
        refine g_iload_n C 3 dX4_does_281 rfl rfl ?_
        refine g_iconst C (v := (0 : Int32)) dX4_does_282 ic_0 ?_
        refine g_callSi C (n := 2) (As := [.int t3, .int (0 : Int32)]) (rest := [.ref (a 4)]) (fun r h => mX4_visitorAt l D K _ _ r h) gE.nil (τ := ()) gX4_does_X4_visitorAt rfl (by decide +kernel) ⟨Nat.le_of_ble_eq_true rfl, Nat.le_of_ble_eq_true rfl, rfl, rfl⟩ rfl rfl (Nat.le_of_ble_eq_true rfl) dX4_does_283 (fun r25 _ => ?_)
        refine g_ialdG C 4 0 (MWg_4 K a _) rfl dX4_does_286 ?_
        refine g_iload C 1 dX4_does_287 rfl ?_
        refine g_icmp_ne C 296 dX4_does_289 (by decide) (fun _ => ?_) (fun _ => ?_)
        · refine g_iconst C (v := (1 : Int32)) dX4_does_292 ic_1 ?_
          refine g_goto C 297 dX4_does_293 (by decide) ?_
          exact g_ret C ⟨dX4_does_297, rfl, rfl, Or.inr rfl⟩
        · refine g_iconst C (v := (0 : Int32)) dX4_does_296 ic_0 ?_
          exact g_ret C ⟨dX4_does_297, rfl, rfl, Or.inl rfl⟩
      · refine g_iconst C (v := (0 : Int32)) dX4_does_296 ic_0 ?_
        exact g_ret C ⟨dX4_does_297, rfl, rfl, Or.inl rfl⟩
  refine g_tcase C 298 (8 : Int32) dX4_does_40 (by decide) (by decide) rfl (by decide) (fun _ => ?_) (fun h26 => ?_)
  · refine g_iload C 0 dX4_does_298 rfl ?_
    refine g_if_ne C 322 dX4_does_300 (by decide) (fun _ => ?_) (fun _ => ?_)
    · refine g_aload_n C 5 dX4_does_303 rfl rfl ?_
      refine g_get C (fun _ h => List.mem_cons_of_mem _ (List.mem_append_right _ h)) 0 (MWg_0 K a _) rfl 8 (by decide) (List.mem_of_getElem? (i := 1) rfl) rfl rfl dX4_does_304 ?_
      refine g_sipush C (v := (201 : Int32)) dX4_does_307 (by decide) ?_
      refine g_iald C 4 0 (MWg_4 K a _) rfl (by decide) dX4_does_310 ?_
      refine g_iload_n C 6 dX4_does_311 rfl rfl ?_
      refine g_bipush C (v := (100 : Int32)) dX4_does_312 (by decide) ?_
      refine g_irem C dX4_does_314 (by decide) ?_
      refine g_topi (fun t27 => ?_)
      refine g_icmp_gt C 322 dX4_does_315 (by decide) (fun _ => ?_) (fun _ => ?_)
      · refine g_iconst C (v := (0 : Int32)) dX4_does_322 ic_0 ?_
        exact g_ret C ⟨dX4_does_323, rfl, rfl, Or.inl rfl⟩
      · refine g_iconst C (v := (1 : Int32)) dX4_does_318 ic_1 ?_
        refine g_goto C 323 dX4_does_319 (by decide) ?_
        exact g_ret C ⟨dX4_does_323, rfl, rfl, Or.inr rfl⟩
    · refine g_iconst C (v := (0 : Int32)) dX4_does_322 ic_0 ?_
      exact g_ret C ⟨dX4_does_323, rfl, rfl, Or.inl rfl⟩
  refine g_tcase C 324 (9 : Int32) dX4_does_40 (by decide) (by decide) rfl (by decide) (fun _ => ?_) (fun h28 => ?_)
  · refine g_iload C 0 dX4_does_324 rfl ?_
    refine g_if_ne C 348 dX4_does_326 (by decide) (fun _ => ?_) (fun _ => ?_)
    · refine g_aload_n C 5 dX4_does_329 rfl rfl ?_
      refine g_get C (fun _ h => List.mem_cons_of_mem _ (List.mem_append_right _ h)) 0 (MWg_0 K a _) rfl 8 (by decide) (List.mem_of_getElem? (i := 1) rfl) rfl rfl dX4_does_330 ?_
      refine g_sipush C (v := (199 : Int32)) dX4_does_333 (by decide) ?_
      refine g_iald C 4 0 (MWg_4 K a _) rfl (by decide) dX4_does_336 ?_
      refine g_iload_n C 6 dX4_does_337 rfl rfl ?_
      refine g_bipush C (v := (100 : Int32)) dX4_does_338 (by decide) ?_
      refine g_irem C dX4_does_340 (by decide) ?_
      refine g_topi (fun t29 => ?_)
      refine g_icmp_lt C 348 dX4_does_341 (by decide) (fun _ => ?_) (fun _ => ?_)
      · refine g_iconst C (v := (0 : Int32)) dX4_does_348 ic_0 ?_
        exact g_ret C ⟨dX4_does_349, rfl, rfl, Or.inl rfl⟩
      · refine g_iconst C (v := (1 : Int32)) dX4_does_344 ic_1 ?_
        refine g_goto C 349 dX4_does_345 (by decide) ?_
        exact g_ret C ⟨dX4_does_349, rfl, rfl, Or.inr rfl⟩
    · refine g_iconst C (v := (0 : Int32)) dX4_does_348 ic_0 ?_
      exact g_ret C ⟨dX4_does_349, rfl, rfl, Or.inl rfl⟩
  refine g_tdef2 C 350 [1, 2, 3, 4, 5, 6, 7, 8, 9] dX4_does_40 (List.forall_mem_cons.mpr ⟨i32nz h7 (by decide), (List.forall_mem_cons.mpr ⟨i32nz h9 (by decide), (List.forall_mem_cons.mpr ⟨i32nz h11 (by decide), (List.forall_mem_cons.mpr ⟨i32nz h14 (by decide), (List.forall_mem_cons.mpr ⟨i32nz h17 (by decide), (List.forall_mem_cons.mpr ⟨i32nz h20 (by decide), (List.forall_mem_cons.mpr ⟨i32nz h23 (by decide), (List.forall_mem_cons.mpr ⟨i32nz h26 (by decide), (List.forall_mem_cons.mpr ⟨i32nz h28 (by decide), (fun _ h9 => absurd h9 List.not_mem_nil)⟩)⟩)⟩)⟩)⟩)⟩)⟩)⟩)⟩) (by decide) (by decide) (by decide) ?_
  refine g_iconst C (v := (0 : Int32)) dX4_does_350 ic_0 ?_
  exact g_ret C ⟨dX4_does_351, rfl, rfl, Or.inl rfl⟩
set_option maxHeartbeats 4000000 in
set_option maxRecDepth 100000 in
theorem mX4_runScript (l : Launch) (D : va_G) (K : Nat → ClassId) (a : Nat → Nat) (σ : gS) (p1 : Int32) (p2 : Int64) (r : (Int32 × gS)) (hf : fX4_runScript σ p1 p2 = some r) : gMi l yX4_runScript wsX4_runScript { frames := 8, cells := 0, slots := 0, locals := 185 } D (gT K) (MW K a) [.ref (a 0), .int p1, .long p2] σ r := by
  refine mk_i (nL := 6) (cc := cX4_runScript) (by decide) rfl (Nat.le_of_ble_eq_true rfl) rfl rfl hf (fun g C => ?_)
  refine g_sub C (lv' := [(0, .ref (a 0)), (1, .int p1), (2, .long p2)]) [0, 1, 2] rfl ?_
  unfold fX4_runScript
  have h_47 : ∀ (σ : gS) (v1 : Int32) (v2 : Int64) (s1 : Int32), g (fX4_runScript_L47 σ v1 v2 s1) 47 [(0, .ref (a 0)), (1, .int v1), (2, .long v2)] [.int s1, .ref (a 0)] σ := by
    have h_62 : ∀ (n : Nat) (σ : gS) (v1 : Int32) (v2 : Int64) (v5 : Int32), g (fX4_runScript_L62 n σ v1 v2 v5) 62 [(0, .ref (a 0)), (1, .int v1), (2, .long v2), (5, .int v5)] [] σ := by
      intro n
      induction n with
      | zero =>
        intro σ v1 v2 v5
        exact g_none C
      | succ n62 ih_62 =>
        intro σ v1 v2 v5
        unfold fX4_runScript_L62
        refine g_iload C 3 dX4_runScript_62 rfl ?_
        refine g_iload_n C 1 dX4_runScript_64 rfl rfl ?_
        refine g_icmp_ge C 102 dX4_runScript_65 (by decide) (fun _ => ?_) (fun _ => ?_)
        · refine g_bipush C (v := (-9 : Int32)) dX4_runScript_102 (by decide) ?_
          exact g_ret C ⟨dX4_runScript_104, rfl, rfl⟩
        · refine g_aload_n C 0 dX4_runScript_68 rfl rfl ?_
          refine g_lload_n C 2 dX4_runScript_69 rfl rfl ?_
          refine g_iconst C (v := (5 : Int32)) dX4_runScript_70 ic_5 ?_
          refine g_iload_n C 1 dX4_runScript_71 rfl rfl ?_
          refine g_iconst C (v := (1 : Int32)) dX4_runScript_72 ic_1 ?_
          refine g_isub C dX4_runScript_73 ?_
          refine g_iload C 3 dX4_runScript_74 rfl ?_
          refine g_isub C dX4_runScript_76 ?_
          refine g_imul C dX4_runScript_77 ?_
          refine g_callSl C (n := 1) (As := [.int ((5 : Int32) * ((v1 - (1 : Int32)) - v5))]) (rest := [.long v2, .ref (a 0)]) (fun r h => mX4_tenTo l D K _ r h) gE.nil (τ := ()) gX4_runScript_X4_tenTo rfl (by decide +kernel) ⟨Nat.le_of_ble_eq_true rfl, Nat.le_of_ble_eq_true rfl, rfl, rfl⟩ rfl rfl (Nat.le_of_ble_eq_true rfl) dX4_runScript_78 (fun r1 _ => ?_)
          refine g_ldivG C dX4_runScript_81 ?_
          refine g_ldc2 C (v := (100000 : Int64)) (List.mem_of_getElem? (i := 2) rfl) dX4_runScript_82 ?_
          refine g_lrem C dX4_runScript_85 (by decide) ?_
          refine g_topl (fun t2 => ?_)
          refine g_l2i C dX4_runScript_86 ?_
          refine g_topi (fun t3 => ?_)
          refine g_callVi C (n := 1) (As := [.int t3]) (rest := []) (fun r h => mX4_does l D K a _ _ r h) gE.same gX4_runScript_X4_does rfl (by decide +kernel) ⟨Nat.le_of_ble_eq_true rfl, Nat.le_of_ble_eq_true rfl, rfl, rfl⟩ 0 (MWg_0 K a _) rfl rfl rfl (Nat.le_of_ble_eq_true rfl) dX4_runScript_87 (fun r4 _ => ?_)
          refine g_if_ne C 96 dX4_runScript_90 (by decide) (fun _ => ?_) (fun _ => ?_)
          · refine g_iload C 3 dX4_runScript_93 rfl ?_
            exact g_ret C ⟨dX4_runScript_95, rfl, rfl⟩
          · refine g_iinc C (w := (1 : Int32)) (lv' := [(5, .int (v5 + (1 : Int32))), (0, .ref (a 0)), (1, .int v1), (2, .long v2)]) 3 dX4_runScript_96 rfl ic_1 (by decide) rfl ?_
            refine g_goto C 62 dX4_runScript_99 (by decide) ?_
            refine g_sub C (lv' := [(0, .ref (a 0)), (1, .int v1), (2, .long v2), (5, .int (v5 + (1 : Int32)))]) [1, 2, 3, 0] rfl ?_
            exact ih_62 r4.2 v1 v2 (v5 + (1 : Int32))
    intro σ v1 v2 s1
    unfold fX4_runScript_L47
    refine g_callVi C (n := 1) (As := [.int s1]) (rest := []) (fun r h => mX4_refused l D K a _ _ r h) gE.same gX4_runScript_X4_refused rfl (by decide +kernel) ⟨Nat.le_of_ble_eq_true rfl, Nat.le_of_ble_eq_true rfl, rfl, rfl⟩ 0 (MWg_0 K a _) rfl rfl rfl (Nat.le_of_ble_eq_true rfl) dX4_runScript_47 (fun r5 _ => ?_)
    refine g_if_eq C 55 dX4_runScript_50 (by decide) (fun _ => ?_) (fun _ => ?_)
    · refine g_aload_n C 0 dX4_runScript_55 rfl rfl ?_
      refine g_callVv C (n := 0) (As := []) (rest := []) (fun r h => mX4_tryIt l D K a _ r h) gE.same gX4_runScript_X4_tryIt rfl (by decide +kernel) ⟨Nat.le_of_ble_eq_true rfl, Nat.le_of_ble_eq_true rfl, rfl, rfl⟩ 0 (MWg_0 K a _) rfl rfl rfl (Nat.le_of_ble_eq_true rfl) dX4_runScript_56 (fun r6 _ => ?_)
      refine g_iconst C (v := (0 : Int32)) dX4_runScript_59 ic_0 ?_
      refine g_istore C (lv' := [(5, .int (0 : Int32)), (0, .ref (a 0)), (1, .int v1), (2, .long v2)]) dX4_runScript_60 (by decide) rfl ?_
      refine g_sub C (lv' := [(0, .ref (a 0)), (1, .int v1), (2, .long v2), (5, .int (0 : Int32))]) [1, 2, 3, 0] rfl ?_
      exact h_62 gFuel r6 v1 v2 (0 : Int32)
    · refine g_iconst C (v := (0 : Int32)) dX4_runScript_53 ic_0 ?_
      exact g_ret C ⟨dX4_runScript_54, rfl, rfl⟩
  have h_31 : ∀ (σ : gS) (v1 : Int32) (v2 : Int64) (s1 : Int64) (s2 : Int64) (s3 : Int32), g (fX4_runScript_L31 σ v1 v2 s1 s2 s3) 31 [(0, .ref (a 0)), (1, .int v1), (2, .long v2)] [.int s3, .long s2, .long s1, .ref (a 0)] σ := by
    intro σ v1 v2 s1 s2 s3
    unfold fX4_runScript_L31
    refine g_callSl C (n := 1) (As := [.int s3]) (rest := [.long s2, .long s1, .ref (a 0)]) (fun r h => mX4_tenTo l D K _ r h) gE.nil (τ := ()) gX4_runScript_X4_tenTo rfl (by decide +kernel) ⟨Nat.le_of_ble_eq_true rfl, Nat.le_of_ble_eq_true rfl, rfl, rfl⟩ rfl rfl (Nat.le_of_ble_eq_true rfl) dX4_runScript_31 (fun r7 _ => ?_)
    refine g_lconst C (v := (1 : Int64)) dX4_runScript_34 (by decide) ?_
    refine g_lsub C dX4_runScript_35 ?_
    refine g_callSi C (n := 3) (As := [.long s1, .long s2, .long (r7.1 - (1 : Int64))]) (rest := [.ref (a 0)]) (fun r h => mX4_in l D K _ _ _ r h) gE.nil (τ := ()) gX4_runScript_X4_in rfl (by decide +kernel) ⟨Nat.le_of_ble_eq_true rfl, Nat.le_of_ble_eq_true rfl, rfl, rfl⟩ rfl rfl (Nat.le_of_ble_eq_true rfl) dX4_runScript_36 (fun r8 _ => ?_)
    refine g_if_eq C 46 dX4_runScript_39 (by decide) (fun _ => ?_) (fun _ => ?_)
    · refine g_iconst C (v := (1 : Int32)) dX4_runScript_46 ic_1 ?_
      exact h_47 σ v1 v2 (1 : Int32)
    · refine g_iconst C (v := (0 : Int32)) dX4_runScript_42 ic_0 ?_
      refine g_goto C 47 dX4_runScript_43 (by decide) ?_
      exact h_47 σ v1 v2 (0 : Int32)
  refine g_iload_n C 1 dX4_runScript_0 rfl rfl ?_
  refine g_i2l C dX4_runScript_1 ?_
  refine g_lconst C (v := (1 : Int64)) dX4_runScript_2 (by decide) ?_
  refine g_ldc2 C (v := (3 : Int64)) (List.mem_of_getElem? (i := 1) rfl) dX4_runScript_3 ?_
  refine g_callSi C (n := 3) (As := [.long (p1).toInt64, .long (1 : Int64), .long (3 : Int64)]) (rest := []) (fun r h => mX4_in l D K _ _ _ r h) gE.nil (τ := ()) gX4_runScript_X4_in rfl (by decide +kernel) ⟨Nat.le_of_ble_eq_true rfl, Nat.le_of_ble_eq_true rfl, rfl, rfl⟩ rfl rfl (Nat.le_of_ble_eq_true rfl) dX4_runScript_6 (fun r9 _ => ?_)
  refine g_istore C (lv' := [(4, .int r9.1), (0, .ref (a 0)), (1, .int p1), (2, .long p2)]) dX4_runScript_9 (by decide) rfl ?_
  refine g_aload_n C 1 dX4_runScript_11 rfl rfl ?_
  refine g_iload C 0 dX4_runScript_12 rfl ?_
  refine g_if_eq C 46 dX4_runScript_14 (by decide) (fun _ => ?_) (fun _ => ?_)
  · refine g_iconst C (v := (1 : Int32)) dX4_runScript_46 ic_1 ?_
    refine g_sub C (lv' := [(0, .ref (a 0)), (1, .int p1), (2, .long p2)]) [1, 2, 3] rfl ?_
    exact h_47 σ p1 p2 (1 : Int32)
  · refine g_lload_n C 3 dX4_runScript_17 rfl rfl ?_
    refine g_lconst C (v := (0 : Int64)) dX4_runScript_18 (by decide) ?_
    refine g_iload C 0 dX4_runScript_19 rfl ?_
    refine g_if_eq C 30 dX4_runScript_21 (by decide) (fun _ => ?_) (fun _ => ?_)
    · refine g_iconst C (v := (0 : Int32)) dX4_runScript_30 ic_0 ?_
      refine g_sub C (lv' := [(0, .ref (a 0)), (1, .int p1), (2, .long p2)]) [1, 2, 3] rfl ?_
      exact h_31 σ p1 p2 p2 (0 : Int64) (0 : Int32)
    · refine g_iconst C (v := (5 : Int32)) dX4_runScript_24 ic_5 ?_
      refine g_iload_n C 2 dX4_runScript_25 rfl rfl ?_
      refine g_imul C dX4_runScript_26 ?_
      refine g_goto C 31 dX4_runScript_27 (by decide) ?_
      refine g_sub C (lv' := [(0, .ref (a 0)), (1, .int p1), (2, .long p2)]) [1, 2, 3] rfl ?_
      exact h_31 σ p1 p2 p2 (0 : Int64) ((5 : Int32) * p1)
set_option maxHeartbeats 4000000 in
set_option maxRecDepth 100000 in
theorem mX4_stir (l : Launch) (D : va_G) (K : Nat → ClassId) (a : Nat → Nat) (σ : gS) (p1 : Int32) (r : gS) (hf : fX4_stir σ p1 = some r) : gMv l yX4_stir wsX4_stir { frames := 5, cells := 0, slots := 0, locals := 108 } D (gT K) (MW K a) [.ref (a 0), .int p1] σ r := by
  refine mk_v (nL := 5) (cc := cX4_stir) (by decide) rfl (Nat.le_of_ble_eq_true rfl) rfl rfl hf (fun g C => ?_)
  refine g_sub C (lv' := [(0, .ref (a 0)), (1, .int p1)]) [0, 1] rfl ?_
  unfold fX4_stir
  refine g_iload_n C 1 dX4_stir_0 rfl rfl ?_
  refine g_bipush C (v := (8 : Int32)) dX4_stir_1 (by decide) ?_
  refine g_idiv C dX4_stir_3 (by decide) ?_
  refine g_bipush C (v := (6 : Int32)) dX4_stir_4 (by decide) ?_
  refine g_irem C dX4_stir_6 (by decide) ?_
  refine g_topi (fun t1 => ?_)
  refine g_istore_n C (lv' := [(2, .int t1), (0, .ref (a 0)), (1, .int p1)]) dX4_stir_7 rfl (by decide) rfl ?_
  refine g_iload_n C 2 dX4_stir_8 rfl rfl ?_
  refine g_bipush C (v := (64 : Int32)) dX4_stir_9 (by decide) ?_
  refine g_idiv C dX4_stir_11 (by decide) ?_
  refine g_bipush C (v := (20 : Int32)) dX4_stir_12 (by decide) ?_
  refine g_irem C dX4_stir_14 (by decide) ?_
  refine g_topi (fun t2 => ?_)
  refine g_istore_n C (lv' := [(3, .int t2), (2, .int t1), (0, .ref (a 0)), (1, .int p1)]) dX4_stir_15 rfl (by decide) rfl ?_
  refine g_iload_n C 3 dX4_stir_16 rfl rfl ?_
  refine g_sipush C (v := (2048 : Int32)) dX4_stir_17 (by decide) ?_
  refine g_idiv C dX4_stir_20 (by decide) ?_
  refine g_iconst C (v := (3 : Int32)) dX4_stir_21 ic_3 ?_
  refine g_irem C dX4_stir_22 (by decide) ?_
  refine g_topi (fun t3 => ?_)
  refine g_istore C (lv' := [(4, .int t3), (3, .int t2), (2, .int t1), (0, .ref (a 0)), (1, .int p1)]) dX4_stir_23 (by decide) rfl ?_
  refine g_iload_n C 4 dX4_stir_25 rfl rfl ?_
  refine g_bipush C (v := (8 : Int32)) dX4_stir_26 (by decide) ?_
  refine g_irem C dX4_stir_28 (by decide) ?_
  refine g_topi (fun t4 => ?_)
  refine g_tcase C 68 (0 : Int32) dX4_stir_29 (by decide) (by decide) rfl (by decide) (fun _ => ?_) (fun h5 => ?_)
  · refine g_aload_n C 3 dX4_stir_68 rfl rfl ?_
    refine g_iload_n C 2 dX4_stir_69 rfl rfl ?_
    refine g_iload_n C 1 dX4_stir_70 rfl rfl ?_
    refine g_callVi C (n := 2) (As := [.int t1, .int t2]) (rest := []) (fun r h => mX4_takes l D K a _ _ _ r h) gE.same gX4_stir_X4_takes rfl (by decide +kernel) ⟨Nat.le_of_ble_eq_true rfl, Nat.le_of_ble_eq_true rfl, rfl, rfl⟩ 0 (MWg_0 K a _) rfl rfl rfl (Nat.le_of_ble_eq_true rfl) dX4_stir_71 (fun r6 _ => ?_)
    refine g_pop C dX4_stir_74 rfl ?_
    refine g_goto C 133 dX4_stir_75 (by decide) ?_
    exact g_ret C ⟨dX4_stir_133, rfl, rfl⟩
  refine g_tcase C 68 (1 : Int32) dX4_stir_29 (by decide) (by decide) rfl (by decide) (fun _ => ?_) (fun h7 => ?_)
  · refine g_aload_n C 3 dX4_stir_68 rfl rfl ?_
    refine g_iload_n C 2 dX4_stir_69 rfl rfl ?_
    refine g_iload_n C 1 dX4_stir_70 rfl rfl ?_
    refine g_callVi C (n := 2) (As := [.int t1, .int t2]) (rest := []) (fun r h => mX4_takes l D K a _ _ _ r h) gE.same gX4_stir_X4_takes rfl (by decide +kernel) ⟨Nat.le_of_ble_eq_true rfl, Nat.le_of_ble_eq_true rfl, rfl, rfl⟩ 0 (MWg_0 K a _) rfl rfl rfl (Nat.le_of_ble_eq_true rfl) dX4_stir_71 (fun r8 _ => ?_)
    refine g_pop C dX4_stir_74 rfl ?_
    refine g_goto C 133 dX4_stir_75 (by decide) ?_
    exact g_ret C ⟨dX4_stir_133, rfl, rfl⟩
  refine g_tcase C 78 (2 : Int32) dX4_stir_29 (by decide) (by decide) rfl (by decide) (fun _ => ?_) (fun h9 => ?_)
  · refine g_aload_n C 3 dX4_stir_78 rfl rfl ?_
    refine g_iload_n C 1 dX4_stir_79 rfl rfl ?_
    refine g_aload_n C 3 dX4_stir_80 rfl rfl ?_
    refine g_get C (fun _ h => List.mem_cons_of_mem _ (List.mem_append_right _ h)) 0 (MWg_0 K a _) rfl 8 (by decide) (List.mem_of_getElem? (i := 1) rfl) rfl rfl dX4_stir_81 ?_
    refine g_iload_n C 1 dX4_stir_84 rfl rfl ?_
    refine g_iconst C (v := (1 : Int32)) dX4_stir_85 ic_1 ?_
    refine g_callSi C (n := 2) (As := [.int t2, .int (1 : Int32)]) (rest := [.ref (a 4), .int t2, .ref (a 0)]) (fun r h => mX4_bookAt l D K _ _ r h) gE.nil (τ := ()) gX4_stir_X4_bookAt rfl (by decide +kernel) ⟨Nat.le_of_ble_eq_true rfl, Nat.le_of_ble_eq_true rfl, rfl, rfl⟩ rfl rfl (Nat.le_of_ble_eq_true rfl) dX4_stir_86 (fun r10 _ => ?_)
    refine g_ialdG C 4 0 (MWg_4 K a _) rfl dX4_stir_89 ?_
    refine g_if_ne C 97 dX4_stir_90 (by decide) (fun _ => ?_) (fun _ => ?_)
    · refine g_iconst C (v := (1 : Int32)) dX4_stir_93 ic_1 ?_
      refine g_goto C 98 dX4_stir_94 (by decide) ?_
      refine g_callVi C (n := 2) (As := [.int t2, .int (1 : Int32)]) (rest := []) (fun r h => mX4_marks l D K a _ _ _ r h) gE.same gX4_stir_X4_marks rfl (by decide +kernel) ⟨Nat.le_of_ble_eq_true rfl, Nat.le_of_ble_eq_true rfl, rfl, rfl⟩ 0 (MWg_0 K a _) rfl rfl rfl (Nat.le_of_ble_eq_true rfl) dX4_stir_98 (fun r11 _ => ?_)
      refine g_pop C dX4_stir_101 rfl ?_
      refine g_goto C 133 dX4_stir_102 (by decide) ?_
      exact g_ret C ⟨dX4_stir_133, rfl, rfl⟩
    · refine g_iconst C (v := (2 : Int32)) dX4_stir_97 ic_2 ?_
      refine g_callVi C (n := 2) (As := [.int t2, .int (2 : Int32)]) (rest := []) (fun r h => mX4_marks l D K a _ _ _ r h) gE.same gX4_stir_X4_marks rfl (by decide +kernel) ⟨Nat.le_of_ble_eq_true rfl, Nat.le_of_ble_eq_true rfl, rfl, rfl⟩ 0 (MWg_0 K a _) rfl rfl rfl (Nat.le_of_ble_eq_true rfl) dX4_stir_98 (fun r12 _ => ?_)
      refine g_pop C dX4_stir_101 rfl ?_
      refine g_goto C 133 dX4_stir_102 (by decide) ?_
      exact g_ret C ⟨dX4_stir_133, rfl, rfl⟩
  refine g_tcase C 105 (3 : Int32) dX4_stir_29 (by decide) (by decide) rfl (by decide) (fun _ => ?_) (fun h13 => ?_)
  · refine g_aload_n C 3 dX4_stir_105 rfl rfl ?_
    refine g_iload_n C 2 dX4_stir_106 rfl rfl ?_
    refine g_iload C 0 dX4_stir_107 rfl ?_
    refine g_aload_n C 3 dX4_stir_109 rfl rfl ?_
    refine g_get C (fun _ h => List.mem_cons_of_mem _ (List.mem_append_right _ h)) 0 (MWg_0 K a _) rfl 8 (by decide) (List.mem_of_getElem? (i := 1) rfl) rfl rfl dX4_stir_110 ?_
    refine g_iload_n C 2 dX4_stir_113 rfl rfl ?_
    refine g_callSi C (n := 2) (As := [.ref (a 4), .int t1]) (rest := [.int t3, .int t1, .ref (a 0)]) (fun r h => mX4_isInside l D K (a 4) _ _ r h) (MWe_4 D K a _) gX4_stir_X4_isInside rfl (by decide +kernel) ⟨Nat.le_of_ble_eq_true rfl, Nat.le_of_ble_eq_true rfl, rfl, rfl⟩ rfl rfl (Nat.le_of_ble_eq_true rfl) dX4_stir_114 (fun r14 _ => ?_)
    refine g_state (fun u15 => ?_)
    refine g_callVi C (n := 3) (As := [.int t1, .int t3, .int r14.1]) (rest := []) (fun r h => mX4_walks l D K a _ _ _ _ r h) gE.same gX4_stir_X4_walks rfl (by decide +kernel) ⟨Nat.le_of_ble_eq_true rfl, Nat.le_of_ble_eq_true rfl, rfl, rfl⟩ 0 (MWg_0 K a _) rfl rfl rfl (Nat.le_of_ble_eq_true rfl) dX4_stir_117 (fun r16 _ => ?_)
    refine g_pop C dX4_stir_120 rfl ?_
    refine g_goto C 133 dX4_stir_121 (by decide) ?_
    exact g_ret C ⟨dX4_stir_133, rfl, rfl⟩
  refine g_tcase C 105 (4 : Int32) dX4_stir_29 (by decide) (by decide) rfl (by decide) (fun _ => ?_) (fun h17 => ?_)
  · refine g_aload_n C 3 dX4_stir_105 rfl rfl ?_
    refine g_iload_n C 2 dX4_stir_106 rfl rfl ?_
    refine g_iload C 0 dX4_stir_107 rfl ?_
    refine g_aload_n C 3 dX4_stir_109 rfl rfl ?_
    refine g_get C (fun _ h => List.mem_cons_of_mem _ (List.mem_append_right _ h)) 0 (MWg_0 K a _) rfl 8 (by decide) (List.mem_of_getElem? (i := 1) rfl) rfl rfl dX4_stir_110 ?_
    refine g_iload_n C 2 dX4_stir_113 rfl rfl ?_
    refine g_callSi C (n := 2) (As := [.ref (a 4), .int t1]) (rest := [.int t3, .int t1, .ref (a 0)]) (fun r h => mX4_isInside l D K (a 4) _ _ r h) (MWe_4 D K a _) gX4_stir_X4_isInside rfl (by decide +kernel) ⟨Nat.le_of_ble_eq_true rfl, Nat.le_of_ble_eq_true rfl, rfl, rfl⟩ rfl rfl (Nat.le_of_ble_eq_true rfl) dX4_stir_114 (fun r18 _ => ?_)
    refine g_state (fun u19 => ?_)
    refine g_callVi C (n := 3) (As := [.int t1, .int t3, .int r18.1]) (rest := []) (fun r h => mX4_walks l D K a _ _ _ _ r h) gE.same gX4_stir_X4_walks rfl (by decide +kernel) ⟨Nat.le_of_ble_eq_true rfl, Nat.le_of_ble_eq_true rfl, rfl, rfl⟩ 0 (MWg_0 K a _) rfl rfl rfl (Nat.le_of_ble_eq_true rfl) dX4_stir_117 (fun r20 _ => ?_)
    refine g_pop C dX4_stir_120 rfl ?_
    refine g_goto C 133 dX4_stir_121 (by decide) ?_
    exact g_ret C ⟨dX4_stir_133, rfl, rfl⟩
  refine g_tcase C 124 (5 : Int32) dX4_stir_29 (by decide) (by decide) rfl (by decide) (fun _ => ?_) (fun h21 => ?_)
  · refine g_aload_n C 3 dX4_stir_124 rfl rfl ?_
    refine g_iload_n C 2 dX4_stir_125 rfl rfl ?_
    refine g_callVi C (n := 1) (As := [.int t1]) (rest := []) (fun r h => mX4_turns l D K a _ _ r h) gE.same gX4_stir_X4_turns rfl (by decide +kernel) ⟨Nat.le_of_ble_eq_true rfl, Nat.le_of_ble_eq_true rfl, rfl, rfl⟩ 0 (MWg_0 K a _) rfl rfl rfl (Nat.le_of_ble_eq_true rfl) dX4_stir_126 (fun r22 _ => ?_)
    refine g_pop C dX4_stir_129 rfl ?_
    refine g_goto C 133 dX4_stir_130 (by decide) ?_
    exact g_ret C ⟨dX4_stir_133, rfl, rfl⟩
  refine g_tdef2 C 133 [0, 1, 2, 3, 4, 5] dX4_stir_29 (List.forall_mem_cons.mpr ⟨i32nz h5 (by decide), (List.forall_mem_cons.mpr ⟨i32nz h7 (by decide), (List.forall_mem_cons.mpr ⟨i32nz h9 (by decide), (List.forall_mem_cons.mpr ⟨i32nz h13 (by decide), (List.forall_mem_cons.mpr ⟨i32nz h17 (by decide), (List.forall_mem_cons.mpr ⟨i32nz h21 (by decide), (fun _ h9 => absurd h9 List.not_mem_nil)⟩)⟩)⟩)⟩)⟩)⟩) (by decide) (by decide) (by decide) ?_
  exact g_ret C ⟨dX4_stir_133, rfl, rfl⟩
set_option maxHeartbeats 4000000 in
set_option maxRecDepth 100000 in
theorem mX4_simulate (l : Launch) (D : va_G) (K : Nat → ClassId) (a : Nat → Nat) (σ : gS) (p1 : Int64) (p3 : Int32) (r : (Int32 × gS)) (hf : fX4_simulate σ p1 p3 = some r) : gMi l yX4_simulate wsX4_simulate { frames := 6, cells := 0, slots := 0, locals := 132 } D (gT K) (MW K a) [.ref (a 0), .long p1, .int p3] σ r := by
  refine mk_i (nL := 7) (cc := cX4_simulate) (by decide) rfl (Nat.le_of_ble_eq_true rfl) rfl rfl hf (fun g C => ?_)
  refine g_sub C (lv' := [(0, .ref (a 0)), (1, .long p1), (3, .int p3)]) [0, 1, 2] rfl ?_
  unfold fX4_simulate
  have h_18 : ∀ (σ : gS) (v1 : Int64) (v3 : Int32) (s1 : Int32), g (fX4_simulate_L18 σ v1 v3 s1) 18 [(0, .ref (a 0)), (1, .long v1), (3, .int v3)] [.int s1, .ref (a 0)] σ := by
    have h_36 : ∀ (n : Nat) (σ : gS) (v3 : Int32) (v4 : Int64) (v6 : Int32), g (fX4_simulate_L36 n σ v3 v4 v6) 36 [(0, .ref (a 0)), (3, .int v3), (4, .long v4), (6, .int v6)] [] σ := by
      intro n
      induction n with
      | zero =>
        intro σ v3 v4 v6
        exact g_none C
      | succ n36 ih_36 =>
        intro σ v3 v4 v6
        unfold fX4_simulate_L36
        refine g_iload C 3 dX4_simulate_36 rfl ?_
        refine g_iload_n C 1 dX4_simulate_38 rfl rfl ?_
        refine g_icmp_ge C 77 dX4_simulate_39 (by decide) (fun _ => ?_) (fun _ => ?_)
        · refine g_sipush C (v := (10000 : Int32)) dX4_simulate_77 (by decide) ?_
          refine g_aload_n C 0 dX4_simulate_80 rfl rfl ?_
          refine g_get C (fun _ h => List.mem_cons_of_mem _ (List.mem_append_right _ h)) 0 (MWg_0 K a _) rfl 8 (by decide) (List.mem_of_getElem? (i := 4) rfl) rfl rfl dX4_simulate_81 ?_
          refine g_sipush C (v := (199 : Int32)) dX4_simulate_84 (by decide) ?_
          refine g_iald C 4 0 (MWg_4 K a _) rfl (by decide) dX4_simulate_87 ?_
          refine g_aload_n C 0 dX4_simulate_88 rfl rfl ?_
          refine g_get C (fun _ h => List.mem_cons_of_mem _ (List.mem_append_right _ h)) 0 (MWg_0 K a _) rfl 7 (by decide) (List.mem_of_getElem? (i := 5) rfl) rfl rfl dX4_simulate_89 ?_
          refine g_sipush C (v := (199 : Int32)) dX4_simulate_92 (by decide) ?_
          refine g_iald C 3 0 (MWg_3 K a _) rfl (by decide) dX4_simulate_95 ?_
          refine g_isub C dX4_simulate_96 ?_
          refine g_imul C dX4_simulate_97 ?_
          refine g_bipush C (v := (100 : Int32)) dX4_simulate_98 (by decide) ?_
          refine g_aload_n C 0 dX4_simulate_100 rfl rfl ?_
          refine g_get C (fun _ h => List.mem_cons_of_mem _ (List.mem_append_right _ h)) 0 (MWg_0 K a _) rfl 8 (by decide) (List.mem_of_getElem? (i := 4) rfl) rfl rfl dX4_simulate_101 ?_
          refine g_sipush C (v := (200 : Int32)) dX4_simulate_104 (by decide) ?_
          refine g_iald C 4 0 (MWg_4 K a _) rfl (by decide) dX4_simulate_107 ?_
          refine g_aload_n C 0 dX4_simulate_108 rfl rfl ?_
          refine g_get C (fun _ h => List.mem_cons_of_mem _ (List.mem_append_right _ h)) 0 (MWg_0 K a _) rfl 7 (by decide) (List.mem_of_getElem? (i := 5) rfl) rfl rfl dX4_simulate_109 ?_
          refine g_sipush C (v := (200 : Int32)) dX4_simulate_112 (by decide) ?_
          refine g_iald C 3 0 (MWg_3 K a _) rfl (by decide) dX4_simulate_115 ?_
          refine g_isub C dX4_simulate_116 ?_
          refine g_imul C dX4_simulate_117 ?_
          refine g_iadd C dX4_simulate_118 ?_
          refine g_aload_n C 0 dX4_simulate_119 rfl rfl ?_
          refine g_get C (fun _ h => List.mem_cons_of_mem _ (List.mem_append_right _ h)) 0 (MWg_0 K a _) rfl 8 (by decide) (List.mem_of_getElem? (i := 4) rfl) rfl rfl dX4_simulate_120 ?_
          refine g_sipush C (v := (201 : Int32)) dX4_simulate_123 (by decide) ?_
          refine g_iald C 4 0 (MWg_4 K a _) rfl (by decide) dX4_simulate_126 ?_
          refine g_iadd C dX4_simulate_127 ?_
          refine g_aload_n C 0 dX4_simulate_128 rfl rfl ?_
          refine g_get C (fun _ h => List.mem_cons_of_mem _ (List.mem_append_right _ h)) 0 (MWg_0 K a _) rfl 7 (by decide) (List.mem_of_getElem? (i := 5) rfl) rfl rfl dX4_simulate_129 ?_
          refine g_sipush C (v := (201 : Int32)) dX4_simulate_132 (by decide) ?_
          refine g_iald C 3 0 (MWg_3 K a _) rfl (by decide) dX4_simulate_135 ?_
          refine g_isub C dX4_simulate_136 ?_
          exact g_ret C ⟨dX4_simulate_137, rfl, rfl⟩
        · refine g_lload C 2 dX4_simulate_42 rfl ?_
          refine g_ldc2 C (v := (6364136223846793005 : Int64)) (List.mem_of_getElem? (i := 2) rfl) dX4_simulate_44 ?_
          refine g_lmul C dX4_simulate_47 ?_
          refine g_ldc2 C (v := (1442695040888963407 : Int64)) (List.mem_of_getElem? (i := 3) rfl) dX4_simulate_48 ?_
          refine g_ladd C dX4_simulate_51 ?_
          refine g_topl (fun t1 => ?_)
          refine g_lstore C (lv' := [(4, .long t1), (0, .ref (a 0)), (3, .int v3), (6, .int v6)]) dX4_simulate_52 (by decide) rfl ?_
          refine g_aload_n C 1 dX4_simulate_54 rfl rfl ?_
          refine g_lload C 0 dX4_simulate_55 rfl ?_
          refine g_bipush C (v := (33 : Int32)) dX4_simulate_57 (by decide) ?_
          refine g_lushr C dX4_simulate_59 ?_
          refine g_l2i C dX4_simulate_60 ?_
          refine g_topi (fun t2 => ?_)
          refine g_callVv C (n := 1) (As := [.int t2]) (rest := []) (fun r h => mX4_stir l D K a _ _ r h) gE.same gX4_simulate_X4_stir rfl (by decide +kernel) ⟨Nat.le_of_ble_eq_true rfl, Nat.le_of_ble_eq_true rfl, rfl, rfl⟩ 0 (MWg_0 K a _) rfl rfl rfl (Nat.le_of_ble_eq_true rfl) dX4_simulate_61 (fun r3 _ => ?_)
          refine g_aload_n C 1 dX4_simulate_64 rfl rfl ?_
          refine g_get C (fun _ h => List.mem_cons_of_mem _ (List.mem_append_right _ h)) 0 (MWg_0 K a _) rfl 8 (by decide) (List.mem_of_getElem? (i := 4) rfl) rfl rfl dX4_simulate_65 ?_
          refine g_callSv C (n := 1) (As := [.ref (a 4)]) (rest := []) (fun r h => mX4_tick l D K (a 4) _ r h) (MWe_4 D K a _) gX4_simulate_X4_tick rfl (by decide +kernel) ⟨Nat.le_of_ble_eq_true rfl, Nat.le_of_ble_eq_true rfl, rfl, rfl⟩ rfl rfl (Nat.le_of_ble_eq_true rfl) dX4_simulate_68 (fun r4 _ => ?_)
          refine g_state (fun u5 => ?_)
          refine g_iinc C (w := (1 : Int32)) (lv' := [(6, .int (v6 + (1 : Int32))), (4, .long t1), (0, .ref (a 0)), (3, .int v3)]) 3 dX4_simulate_71 rfl ic_1 (by decide) rfl ?_
          refine g_goto C 36 dX4_simulate_74 (by decide) ?_
          refine g_sub C (lv' := [(0, .ref (a 0)), (3, .int v3), (4, .long t1), (6, .int (v6 + (1 : Int32)))]) [2, 3, 1, 0] rfl ?_
          exact ih_36 u5 v3 t1 (v6 + (1 : Int32))
    intro σ v1 v3 s1
    unfold fX4_simulate_L18
    refine g_callVi C (n := 1) (As := [.int s1]) (rest := []) (fun r h => mX4_refused l D K a _ _ r h) gE.same gX4_simulate_X4_refused rfl (by decide +kernel) ⟨Nat.le_of_ble_eq_true rfl, Nat.le_of_ble_eq_true rfl, rfl, rfl⟩ 0 (MWg_0 K a _) rfl rfl rfl (Nat.le_of_ble_eq_true rfl) dX4_simulate_18 (fun r6 _ => ?_)
    refine g_if_eq C 26 dX4_simulate_21 (by decide) (fun _ => ?_) (fun _ => ?_)
    · refine g_aload_n C 0 dX4_simulate_26 rfl rfl ?_
      refine g_callVv C (n := 0) (As := []) (rest := []) (fun r h => mX4_tryIt l D K a _ r h) gE.same gX4_simulate_X4_tryIt rfl (by decide +kernel) ⟨Nat.le_of_ble_eq_true rfl, Nat.le_of_ble_eq_true rfl, rfl, rfl⟩ 0 (MWg_0 K a _) rfl rfl rfl (Nat.le_of_ble_eq_true rfl) dX4_simulate_27 (fun r7 _ => ?_)
      refine g_lload_n C 1 dX4_simulate_30 rfl rfl ?_
      refine g_lstore C (lv' := [(4, .long v1), (0, .ref (a 0)), (1, .long v1), (3, .int v3)]) dX4_simulate_31 (by decide) rfl ?_
      refine g_iconst C (v := (0 : Int32)) dX4_simulate_33 ic_0 ?_
      refine g_istore C (lv' := [(6, .int (0 : Int32)), (4, .long v1), (0, .ref (a 0)), (1, .long v1), (3, .int v3)]) dX4_simulate_34 (by decide) rfl ?_
      refine g_sub C (lv' := [(0, .ref (a 0)), (3, .int v3), (4, .long v1), (6, .int (0 : Int32))]) [2, 4, 1, 0] rfl ?_
      exact h_36 gFuel r7 v3 v1 (0 : Int32)
    · refine g_iconst C (v := (0 : Int32)) dX4_simulate_24 ic_0 ?_
      exact g_ret C ⟨dX4_simulate_25, rfl, rfl⟩
  refine g_aload_n C 0 dX4_simulate_0 rfl rfl ?_
  refine g_iload_n C 2 dX4_simulate_1 rfl rfl ?_
  refine g_i2l C dX4_simulate_2 ?_
  refine g_lconst C (v := (1 : Int64)) dX4_simulate_3 (by decide) ?_
  refine g_ldc2 C (v := (99 : Int64)) (List.mem_of_getElem? (i := 1) rfl) dX4_simulate_4 ?_
  refine g_callSi C (n := 3) (As := [.long (p3).toInt64, .long (1 : Int64), .long (99 : Int64)]) (rest := [.ref (a 0)]) (fun r h => mX4_in l D K _ _ _ r h) gE.nil (τ := ()) gX4_simulate_X4_in rfl (by decide +kernel) ⟨Nat.le_of_ble_eq_true rfl, Nat.le_of_ble_eq_true rfl, rfl, rfl⟩ rfl rfl (Nat.le_of_ble_eq_true rfl) dX4_simulate_7 (fun r8 _ => ?_)
  refine g_if_eq C 17 dX4_simulate_10 (by decide) (fun _ => ?_) (fun _ => ?_)
  · refine g_iconst C (v := (1 : Int32)) dX4_simulate_17 ic_1 ?_
    exact h_18 σ p1 p3 (1 : Int32)
  · refine g_iconst C (v := (0 : Int32)) dX4_simulate_13 ic_0 ?_
    refine g_goto C 18 dX4_simulate_14 (by decide) ?_
    exact h_18 σ p1 p3 (0 : Int32)
set_option maxHeartbeats 4000000 in
set_option maxRecDepth 100000 in
theorem mX4_save (l : Launch) (D : va_G) (K : Nat → ClassId) (a : Nat → Nat) (σ : gS) (p1 : Int32) (r : (Int32 × gS)) (hf : fX4_save σ p1 = some r) : gMi l yX4_save wsX4_save { frames := 1, cells := 0, slots := 0, locals := 25 } D (gT K) (MW K a) [.ref (a 0), .int p1] σ r := by
  refine mk_i (nL := 2) (cc := cX4_save) (by decide) rfl (Nat.le_of_ble_eq_true rfl) rfl rfl hf (fun g C => ?_)
  refine g_sub C (lv' := [(0, .ref (a 0)), (1, .int p1)]) [0, 1] rfl ?_
  unfold fX4_save
  have h_16 : ∀ (σ : gS) (v1 : Int32) (s1 : Int32), g (fX4_save_L16 σ v1 s1) 16 [(0, .ref (a 0)), (1, .int v1)] [.int s1, .ref (a 0)] σ := by
    intro σ v1 s1
    unfold fX4_save_L16
    refine g_callVi C (n := 1) (As := [.int s1]) (rest := []) (fun r h => mX4_refused l D K a _ _ r h) gE.same gX4_save_X4_refused rfl (by decide +kernel) ⟨Nat.le_of_ble_eq_true rfl, Nat.le_of_ble_eq_true rfl, rfl, rfl⟩ 0 (MWg_0 K a _) rfl rfl rfl (Nat.le_of_ble_eq_true rfl) dX4_save_16 (fun r1 _ => ?_)
    refine g_if_eq C 24 dX4_save_19 (by decide) (fun _ => ?_) (fun _ => ?_)
    · refine g_aload_n C 0 dX4_save_24 rfl rfl ?_
      refine g_get C (fun _ h => List.mem_cons_of_mem _ (List.mem_append_right _ h)) 0 (MWg_0 K a _) rfl 7 (by decide) (List.mem_of_getElem? (i := 1) rfl) rfl rfl dX4_save_25 ?_
      refine g_iconst C (v := (0 : Int32)) dX4_save_28 ic_0 ?_
      refine g_aload_n C 0 dX4_save_29 rfl rfl ?_
      refine g_get C (fun _ h => List.mem_cons_of_mem _ (List.mem_append_right _ h)) 0 (MWg_0 K a _) rfl 11 (by decide) (List.mem_of_getElem? (i := 2) rfl) rfl rfl dX4_save_30 ?_
      refine g_sipush C (v := (233 : Int32)) dX4_save_33 (by decide) ?_
      refine g_iload_n C 1 dX4_save_36 rfl rfl ?_
      refine g_imul C dX4_save_37 ?_
      refine g_sipush C (v := (233 : Int32)) dX4_save_38 (by decide) ?_
      refine g_callSv C (n := 5) (As := [.ref (a 3), .int (0 : Int32), .ref (a 6), .int ((233 : Int32) * v1), .int (233 : Int32)]) (rest := []) (fun r h => mX4_copy_233_466 l D K (a 3) (a 6) _ _ _ _ r h) (MWc_3_6 D K a _) gX4_save_X4_copy rfl (by decide +kernel) ⟨Nat.le_of_ble_eq_true rfl, Nat.le_of_ble_eq_true rfl, rfl, rfl⟩ rfl rfl (Nat.le_of_ble_eq_true rfl) dX4_save_41 (fun r2 _ => ?_)
      refine g_state (fun u3 => ?_)
      refine g_aload_n C 0 dX4_save_44 rfl rfl ?_
      refine g_get C (fun _ h => List.mem_cons_of_mem _ (List.mem_append_right _ h)) 0 (MWg_0 K a _) rfl 12 (by decide) (List.mem_of_getElem? (i := 3) rfl) rfl rfl dX4_save_45 ?_
      refine g_iload_n C 1 dX4_save_48 rfl rfl ?_
      refine g_iconst C (v := (1 : Int32)) dX4_save_49 ic_1 ?_
      refine g_zastG C 7 1 (MWg_7 K a _) rfl (Or.inr rfl) (MWs_7 K a _ _) dX4_save_50 ?_
      refine g_state (fun u4 => ?_)
      refine g_aload_n C 0 dX4_save_51 rfl rfl ?_
      refine g_get C (fun _ h => List.mem_cons_of_mem _ (List.mem_append_right _ h)) 0 (MWg_0 K a _) rfl 7 (by decide) (List.mem_of_getElem? (i := 1) rfl) rfl rfl dX4_save_52 ?_
      refine g_sipush C (v := (198 : Int32)) dX4_save_55 (by decide) ?_
      refine g_iald C 3 0 (MWg_3 K a _) rfl (by decide) dX4_save_58 ?_
      exact g_ret C ⟨dX4_save_59, rfl, rfl⟩
    · refine g_iconst C (v := (0 : Int32)) dX4_save_22 ic_0 ?_
      exact g_ret C ⟨dX4_save_23, rfl, rfl⟩
  refine g_aload_n C 0 dX4_save_0 rfl rfl ?_
  refine g_iload_n C 1 dX4_save_1 rfl rfl ?_
  refine g_i2l C dX4_save_2 ?_
  refine g_lconst C (v := (0 : Int64)) dX4_save_3 (by decide) ?_
  refine g_lconst C (v := (1 : Int64)) dX4_save_4 (by decide) ?_
  refine g_callSi C (n := 3) (As := [.long (p1).toInt64, .long (0 : Int64), .long (1 : Int64)]) (rest := [.ref (a 0)]) (fun r h => mX4_in l D K _ _ _ r h) gE.nil (τ := ()) gX4_save_X4_in rfl (by decide +kernel) ⟨Nat.le_of_ble_eq_true rfl, Nat.le_of_ble_eq_true rfl, rfl, rfl⟩ rfl rfl (Nat.le_of_ble_eq_true rfl) dX4_save_5 (fun r5 _ => ?_)
  refine g_if_eq C 15 dX4_save_8 (by decide) (fun _ => ?_) (fun _ => ?_)
  · refine g_iconst C (v := (1 : Int32)) dX4_save_15 ic_1 ?_
    exact h_16 σ p1 (1 : Int32)
  · refine g_iconst C (v := (0 : Int32)) dX4_save_11 ic_0 ?_
    refine g_goto C 16 dX4_save_12 (by decide) ?_
    exact h_16 σ p1 (0 : Int32)
set_option maxHeartbeats 4000000 in
set_option maxRecDepth 100000 in
theorem mX4_restore (l : Launch) (D : va_G) (K : Nat → ClassId) (a : Nat → Nat) (σ : gS) (p1 : Int32) (r : (Int32 × gS)) (hf : fX4_restore σ p1 = some r) : gMi l yX4_restore wsX4_restore { frames := 1, cells := 0, slots := 0, locals := 25 } D (gT K) (MW K a) [.ref (a 0), .int p1] σ r := by
  refine mk_i (nL := 2) (cc := cX4_restore) (by decide) rfl (Nat.le_of_ble_eq_true rfl) rfl rfl hf (fun g C => ?_)
  refine g_sub C (lv' := [(0, .ref (a 0)), (1, .int p1)]) [0, 1] rfl ?_
  unfold fX4_restore
  have h_29 : ∀ (σ : gS) (v1 : Int32) (s1 : Int32), g (fX4_restore_L29 σ v1 s1) 29 [(0, .ref (a 0)), (1, .int v1)] [.int s1, .ref (a 0)] σ := by
    intro σ v1 s1
    unfold fX4_restore_L29
    refine g_callVi C (n := 1) (As := [.int s1]) (rest := []) (fun r h => mX4_refused l D K a _ _ r h) gE.same gX4_restore_X4_refused rfl (by decide +kernel) ⟨Nat.le_of_ble_eq_true rfl, Nat.le_of_ble_eq_true rfl, rfl, rfl⟩ 0 (MWg_0 K a _) rfl rfl rfl (Nat.le_of_ble_eq_true rfl) dX4_restore_29 (fun r1 _ => ?_)
    refine g_if_eq C 37 dX4_restore_32 (by decide) (fun _ => ?_) (fun _ => ?_)
    · refine g_aload_n C 0 dX4_restore_37 rfl rfl ?_
      refine g_get C (fun _ h => List.mem_cons_of_mem _ (List.mem_append_right _ h)) 0 (MWg_0 K a _) rfl 11 (by decide) (List.mem_of_getElem? (i := 2) rfl) rfl rfl dX4_restore_38 ?_
      refine g_sipush C (v := (233 : Int32)) dX4_restore_41 (by decide) ?_
      refine g_iload_n C 1 dX4_restore_44 rfl rfl ?_
      refine g_imul C dX4_restore_45 ?_
      refine g_aload_n C 0 dX4_restore_46 rfl rfl ?_
      refine g_get C (fun _ h => List.mem_cons_of_mem _ (List.mem_append_right _ h)) 0 (MWg_0 K a _) rfl 7 (by decide) (List.mem_of_getElem? (i := 3) rfl) rfl rfl dX4_restore_47 ?_
      refine g_iconst C (v := (0 : Int32)) dX4_restore_50 ic_0 ?_
      refine g_sipush C (v := (233 : Int32)) dX4_restore_51 (by decide) ?_
      refine g_callSv C (n := 5) (As := [.ref (a 6), .int ((233 : Int32) * v1), .ref (a 3), .int (0 : Int32), .int (233 : Int32)]) (rest := []) (fun r h => mX4_copy_466_233 l D K (a 6) (a 3) _ _ _ _ r h) (MWc_6_3 D K a _) gX4_restore_X4_copy rfl (by decide +kernel) ⟨Nat.le_of_ble_eq_true rfl, Nat.le_of_ble_eq_true rfl, rfl, rfl⟩ rfl rfl (Nat.le_of_ble_eq_true rfl) dX4_restore_54 (fun r2 _ => ?_)
      refine g_state (fun u3 => ?_)
      refine g_aload_n C 0 dX4_restore_57 rfl rfl ?_
      refine g_iconst C (v := (0 : Int32)) dX4_restore_58 ic_0 ?_
      refine g_put C (ty := .int) (fun _ h => List.mem_cons_of_mem _ (List.mem_append_right _ h)) tyX4 tyX4_ok nmX4 0 (MWg_0 K a _) rfl 10 (by decide) (List.mem_of_getElem? (i := 4) rfl) rfl rfl (by decide +kernel) rfl rfl (Nat.le_of_ble_eq_true rfl) (MWp_0_10 K a _ _) dX4_restore_59 ?_
      refine g_state (fun u4 => ?_)
      refine g_aload_n C 0 dX4_restore_62 rfl rfl ?_
      refine g_get C (fun _ h => List.mem_cons_of_mem _ (List.mem_append_right _ h)) 0 (MWg_0 K a _) rfl 7 (by decide) (List.mem_of_getElem? (i := 3) rfl) rfl rfl dX4_restore_63 ?_
      refine g_sipush C (v := (198 : Int32)) dX4_restore_66 (by decide) ?_
      refine g_iald C 3 0 (MWg_3 K a _) rfl (by decide) dX4_restore_69 ?_
      exact g_ret C ⟨dX4_restore_70, rfl, rfl⟩
    · refine g_iconst C (v := (0 : Int32)) dX4_restore_35 ic_0 ?_
      exact g_ret C ⟨dX4_restore_36, rfl, rfl⟩
  refine g_aload_n C 0 dX4_restore_0 rfl rfl ?_
  refine g_iload_n C 1 dX4_restore_1 rfl rfl ?_
  refine g_i2l C dX4_restore_2 ?_
  refine g_lconst C (v := (0 : Int64)) dX4_restore_3 (by decide) ?_
  refine g_lconst C (v := (1 : Int64)) dX4_restore_4 (by decide) ?_
  refine g_callSi C (n := 3) (As := [.long (p1).toInt64, .long (0 : Int64), .long (1 : Int64)]) (rest := [.ref (a 0)]) (fun r h => mX4_in l D K _ _ _ r h) gE.nil (τ := ()) gX4_restore_X4_in rfl (by decide +kernel) ⟨Nat.le_of_ble_eq_true rfl, Nat.le_of_ble_eq_true rfl, rfl, rfl⟩ rfl rfl (Nat.le_of_ble_eq_true rfl) dX4_restore_5 (fun r5 _ => ?_)
  refine g_if_ne C 15 dX4_restore_8 (by decide) (fun _ => ?_) (fun _ => ?_)
  · refine g_iconst C (v := (1 : Int32)) dX4_restore_11 ic_1 ?_
    refine g_goto C 29 dX4_restore_12 (by decide) ?_
    exact h_29 σ p1 (1 : Int32)
  · refine g_aload_n C 0 dX4_restore_15 rfl rfl ?_
    refine g_get C (fun _ h => List.mem_cons_of_mem _ (List.mem_append_right _ h)) 0 (MWg_0 K a _) rfl 12 (by decide) (List.mem_of_getElem? (i := 1) rfl) rfl rfl dX4_restore_16 ?_
    refine g_iload_n C 1 dX4_restore_19 rfl rfl ?_
    refine g_zaldG C 7 1 (MWg_7 K a _) rfl dX4_restore_20 ?_
    refine g_if_eq C 28 dX4_restore_21 (by decide) (fun _ => ?_) (fun _ => ?_)
    · refine g_iconst C (v := (2 : Int32)) dX4_restore_28 ic_2 ?_
      exact h_29 σ p1 (2 : Int32)
    · refine g_iconst C (v := (0 : Int32)) dX4_restore_24 ic_0 ?_
      refine g_goto C 29 dX4_restore_25 (by decide) ?_
      exact h_29 σ p1 (0 : Int32)
