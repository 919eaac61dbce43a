set_option maxHeartbeats 4000000 in
set_option maxRecDepth 100000 in
theorem mX0_clear (l : Launch) (D : va_G) (K : Nat → ClassId) (a : Nat → Nat) (σ : gS) (r : gS) (hf : fX0_clear σ  = some r) : gMv l yX0_clear wsX0_clear { frames := 0, cells := 0, slots := 0, locals := 0 } D (gT K) (LW K a) [.ref (a 0)] σ r := by
  refine mk_v (nL := 2) (cc := cX0_clear) (by decide) rfl (Nat.le_of_ble_eq_true rfl) rfl rfl hf (fun g C => ?_)
  refine g_sub C (lv' := [(0, .ref (a 0))]) [0] rfl ?_
  unfold fX0_clear
  have h_2 : ∀ (n : Nat) (σ : gS) (v1 : Int32), g (fX0_clear_L2 n σ v1) 2 [(0, .ref (a 0)), (1, .int v1)] [] σ := by
    intro n
    induction n with
    | zero =>
      intro σ v1
      exact g_none C
    | succ n2 ih_2 =>
      have h_44 : ∀ (n : Nat) (σ : gS) (v1 : Int32), g (fX0_clear_L44 n σ v1) 44 [(0, .ref (a 0)), (1, .int v1)] [] σ := by
        intro n
        induction n with
        | zero =>
          intro σ v1
          exact g_none C
        | succ n44 ih_44 =>
          intro σ v1
          unfold fX0_clear_L44
          refine g_iload_n C 1 dX0_clear_44 rfl rfl ?_
          refine g_bipush C (v := (10 : Int32)) dX0_clear_45 (by decide) ?_
          refine g_icmp_ge C 80 dX0_clear_47 (by decide) (fun _ => ?_) (fun _ => ?_)
          · refine g_aload_n C 0 dX0_clear_80 rfl rfl ?_
            refine g_iconst C (v := (1 : Int32)) dX0_clear_81 ic_1 ?_
            refine g_put C (ty := .int) (fun _ h => List.mem_cons_of_mem _ (List.mem_append_right _ h)) tyX0 tyX0_ok nmX0 0 (LWg_0 K a _) rfl 8 (by decide) (List.mem_of_getElem? (i := 8) rfl) rfl rfl (by decide +kernel) rfl rfl (Nat.le_of_ble_eq_true rfl) (LWp_0_8 K a _ _) dX0_clear_82 ?_
            refine g_state (fun u1 => ?_)
            exact g_ret C ⟨dX0_clear_85, rfl, rfl⟩
          · refine g_aload_n C 0 dX0_clear_50 rfl rfl ?_
            refine g_get C (fun _ h => List.mem_cons_of_mem _ (List.mem_append_right _ h)) 0 (LWg_0 K a _) rfl 5 (by decide) (List.mem_of_getElem? (i := 5) rfl) rfl rfl dX0_clear_51 ?_
            refine g_iload_n C 1 dX0_clear_54 rfl rfl ?_
            refine g_bipush C (v := (-9 : Int32)) dX0_clear_55 (by decide) ?_
            refine g_iastG C 6 0 (LWg_6 K a _) rfl (LWs_6 K a _ _) dX0_clear_57 ?_
            refine g_state (fun u2 => ?_)
            refine g_aload_n C 0 dX0_clear_58 rfl rfl ?_
            refine g_get C (fun _ h => List.mem_cons_of_mem _ (List.mem_append_right _ h)) 0 (LWg_0 K a _) rfl 6 (by decide) (List.mem_of_getElem? (i := 6) rfl) rfl rfl dX0_clear_59 ?_
            refine g_iload_n C 1 dX0_clear_62 rfl rfl ?_
            refine g_bipush C (v := (-9 : Int32)) dX0_clear_63 (by decide) ?_
            refine g_iastG C 7 0 (LWg_7 K a _) rfl (LWs_7 K a _ _) dX0_clear_65 ?_
            refine g_state (fun u3 => ?_)
            refine g_aload_n C 0 dX0_clear_66 rfl rfl ?_
            refine g_get C (fun _ h => List.mem_cons_of_mem _ (List.mem_append_right _ h)) 0 (LWg_0 K a _) rfl 7 (by decide) (List.mem_of_getElem? (i := 7) rfl) rfl rfl dX0_clear_67 ?_
            refine g_iload_n C 1 dX0_clear_70 rfl rfl ?_
            refine g_bipush C (v := (-9 : Int32)) dX0_clear_71 (by decide) ?_
            refine g_iastG C 8 0 (LWg_8 K a _) rfl (LWs_8 K a _ _) dX0_clear_73 ?_
            refine g_state (fun u4 => ?_)
            refine g_iinc C (w := (1 : Int32)) (lv' := [(1, .int (v1 + (1 : Int32))), (0, .ref (a 0))]) 1 dX0_clear_74 rfl ic_1 (by decide) rfl ?_
            refine g_goto C 44 dX0_clear_77 (by decide) ?_
            refine g_sub C (lv' := [(0, .ref (a 0)), (1, .int (v1 + (1 : Int32)))]) [1, 0] rfl ?_
            exact ih_44 u4 (v1 + (1 : Int32))
      intro σ v1
      unfold fX0_clear_L2
      refine g_iload_n C 1 dX0_clear_2 rfl rfl ?_
      refine g_iconst C (v := (3 : Int32)) dX0_clear_3 ic_3 ?_
      refine g_icmp_ge C 42 dX0_clear_4 (by decide) (fun _ => ?_) (fun _ => ?_)
      · refine g_iconst C (v := (0 : Int32)) dX0_clear_42 ic_0 ?_
        refine g_istore_n C (lv' := [(1, .int (0 : Int32)), (0, .ref (a 0))]) dX0_clear_43 rfl (by decide) rfl ?_
        refine g_sub C (lv' := [(0, .ref (a 0)), (1, .int (0 : Int32))]) [1, 0] rfl ?_
        exact h_44 gFuel σ (0 : Int32)
      · refine g_aload_n C 0 dX0_clear_7 rfl rfl ?_
        refine g_get C (fun _ h => List.mem_cons_of_mem _ (List.mem_append_right _ h)) 0 (LWg_0 K a _) rfl 0 (by decide) (List.mem_of_getElem? (i := 1) rfl) rfl rfl dX0_clear_8 ?_
        refine g_iload_n C 1 dX0_clear_11 rfl rfl ?_
        refine g_bipush C (v := (7 : Int32)) dX0_clear_12 (by decide) ?_
        refine g_iastG C 1 0 (LWg_1 K a _) rfl (LWs_1 K a _ _) dX0_clear_14 ?_
        refine g_state (fun u5 => ?_)
        refine g_aload_n C 0 dX0_clear_15 rfl rfl ?_
        refine g_get C (fun _ h => List.mem_cons_of_mem _ (List.mem_append_right _ h)) 0 (LWg_0 K a _) rfl 1 (by decide) (List.mem_of_getElem? (i := 2) rfl) rfl rfl dX0_clear_16 ?_
        refine g_iload_n C 1 dX0_clear_19 rfl rfl ?_
        refine g_iconst C (v := (0 : Int32)) dX0_clear_20 ic_0 ?_
        refine g_iastG C 2 0 (LWg_2 K a _) rfl (LWs_2 K a _ _) dX0_clear_21 ?_
        refine g_state (fun u6 => ?_)
        refine g_aload_n C 0 dX0_clear_22 rfl rfl ?_
        refine g_get C (fun _ h => List.mem_cons_of_mem _ (List.mem_append_right _ h)) 0 (LWg_0 K a _) rfl 2 (by decide) (List.mem_of_getElem? (i := 3) rfl) rfl rfl dX0_clear_23 ?_
        refine g_iload_n C 1 dX0_clear_26 rfl rfl ?_
        refine g_iconst C (v := (0 : Int32)) dX0_clear_27 ic_0 ?_
        refine g_iastG C 3 0 (LWg_3 K a _) rfl (LWs_3 K a _ _) dX0_clear_28 ?_
        refine g_state (fun u7 => ?_)
        refine g_aload_n C 0 dX0_clear_29 rfl rfl ?_
        refine g_get C (fun _ h => List.mem_cons_of_mem _ (List.mem_append_right _ h)) 0 (LWg_0 K a _) rfl 3 (by decide) (List.mem_of_getElem? (i := 4) rfl) rfl rfl dX0_clear_30 ?_
        refine g_iload_n C 1 dX0_clear_33 rfl rfl ?_
        refine g_iconst C (v := (0 : Int32)) dX0_clear_34 ic_0 ?_
        refine g_iastG C 4 0 (LWg_4 K a _) rfl (LWs_4 K a _ _) dX0_clear_35 ?_
        refine g_state (fun u8 => ?_)
        refine g_iinc C (w := (1 : Int32)) (lv' := [(1, .int (v1 + (1 : Int32))), (0, .ref (a 0))]) 1 dX0_clear_36 rfl ic_1 (by decide) rfl ?_
        refine g_goto C 2 dX0_clear_39 (by decide) ?_
        refine g_sub C (lv' := [(0, .ref (a 0)), (1, .int (v1 + (1 : Int32)))]) [1, 0] rfl ?_
        exact ih_2 u8 (v1 + (1 : Int32))
  refine g_iconst C (v := (0 : Int32)) dX0_clear_0 ic_0 ?_
  refine g_istore_n C (lv' := [(1, .int (0 : Int32)), (0, .ref (a 0))]) dX0_clear_1 rfl (by decide) rfl ?_
  refine g_sub C (lv' := [(0, .ref (a 0)), (1, .int (0 : Int32))]) [1, 0] rfl ?_
  exact h_2 gFuel σ (0 : Int32)
set_option maxHeartbeats 4000000 in
set_option maxRecDepth 100000 in
theorem mX0_shoutCount (l : Launch) (D : va_G) (K : Nat → ClassId) (a : Nat → Nat) (σ : gS) (r : (Int32 × gS)) (hf : fX0_shoutCount σ  = some r) : gMi l yX0_shoutCount wsX0_shoutCount { frames := 0, cells := 0, slots := 0, locals := 0 } D (gT K) (LW K a) [.ref (a 0)] σ r := by
  refine mk_i (nL := 1) (cc := cX0_shoutCount) (by decide) rfl (Nat.le_of_ble_eq_true rfl) rfl rfl hf (fun g C => ?_)
  refine g_sub C (lv' := [(0, .ref (a 0))]) [0] rfl ?_
  unfold fX0_shoutCount
  refine g_aload_n C 0 dX0_shoutCount_0 rfl rfl ?_
  refine g_get C (fun _ h => List.mem_cons_of_mem _ (List.mem_append_right _ h)) 0 (LWg_0 K a _) rfl 2 (by decide) (List.mem_of_getElem? (i := 1) rfl) rfl rfl dX0_shoutCount_1 ?_
  refine g_iconst C (v := (0 : Int32)) dX0_shoutCount_4 ic_0 ?_
  refine g_iald C 3 0 (LWg_3 K a _) rfl (by decide) dX0_shoutCount_5 ?_
  refine g_aload_n C 0 dX0_shoutCount_6 rfl rfl ?_
  refine g_get C (fun _ h => List.mem_cons_of_mem _ (List.mem_append_right _ h)) 0 (LWg_0 K a _) rfl 2 (by decide) (List.mem_of_getElem? (i := 1) rfl) rfl rfl dX0_shoutCount_7 ?_
  refine g_iconst C (v := (1 : Int32)) dX0_shoutCount_10 ic_1 ?_
  refine g_iald C 3 0 (LWg_3 K a _) rfl (by decide) dX0_shoutCount_11 ?_
  refine g_iadd C dX0_shoutCount_12 ?_
  refine g_aload_n C 0 dX0_shoutCount_13 rfl rfl ?_
  refine g_get C (fun _ h => List.mem_cons_of_mem _ (List.mem_append_right _ h)) 0 (LWg_0 K a _) rfl 2 (by decide) (List.mem_of_getElem? (i := 1) rfl) rfl rfl dX0_shoutCount_14 ?_
  refine g_iconst C (v := (2 : Int32)) dX0_shoutCount_17 ic_2 ?_
  refine g_iald C 3 0 (LWg_3 K a _) rfl (by decide) dX0_shoutCount_18 ?_
  refine g_iadd C dX0_shoutCount_19 ?_
  exact g_ret C ⟨dX0_shoutCount_20, rfl, rfl⟩
set_option maxHeartbeats 4000000 in
set_option maxRecDepth 100000 in
theorem mX0_waitingCount (l : Launch) (D : va_G) (K : Nat → ClassId) (a : Nat → Nat) (σ : gS) (r : (Int32 × gS)) (hf : fX0_waitingCount σ  = some r) : gMi l yX0_waitingCount wsX0_waitingCount { frames := 0, cells := 0, slots := 0, locals := 0 } D (gT K) (LW K a) [.ref (a 0)] σ r := by
  refine mk_i (nL := 1) (cc := cX0_waitingCount) (by decide) rfl (Nat.le_of_ble_eq_true rfl) rfl rfl hf (fun g C => ?_)
  refine g_sub C (lv' := [(0, .ref (a 0))]) [0] rfl ?_
  unfold fX0_waitingCount
  refine g_aload_n C 0 dX0_waitingCount_0 rfl rfl ?_
  refine g_get C (fun _ h => List.mem_cons_of_mem _ (List.mem_append_right _ h)) 0 (LWg_0 K a _) rfl 3 (by decide) (List.mem_of_getElem? (i := 1) rfl) rfl rfl dX0_waitingCount_1 ?_
  refine g_iconst C (v := (0 : Int32)) dX0_waitingCount_4 ic_0 ?_
  refine g_iald C 4 0 (LWg_4 K a _) rfl (by decide) dX0_waitingCount_5 ?_
  refine g_aload_n C 0 dX0_waitingCount_6 rfl rfl ?_
  refine g_get C (fun _ h => List.mem_cons_of_mem _ (List.mem_append_right _ h)) 0 (LWg_0 K a _) rfl 3 (by decide) (List.mem_of_getElem? (i := 1) rfl) rfl rfl dX0_waitingCount_7 ?_
  refine g_iconst C (v := (1 : Int32)) dX0_waitingCount_10 ic_1 ?_
  refine g_iald C 4 0 (LWg_4 K a _) rfl (by decide) dX0_waitingCount_11 ?_
  refine g_iadd C dX0_waitingCount_12 ?_
  refine g_aload_n C 0 dX0_waitingCount_13 rfl rfl ?_
  refine g_get C (fun _ h => List.mem_cons_of_mem _ (List.mem_append_right _ h)) 0 (LWg_0 K a _) rfl 3 (by decide) (List.mem_of_getElem? (i := 1) rfl) rfl rfl dX0_waitingCount_14 ?_
  refine g_iconst C (v := (2 : Int32)) dX0_waitingCount_17 ic_2 ?_
  refine g_iald C 4 0 (LWg_4 K a _) rfl (by decide) dX0_waitingCount_18 ?_
  refine g_iadd C dX0_waitingCount_19 ?_
  exact g_ret C ⟨dX0_waitingCount_20, rfl, rfl⟩
set_option maxHeartbeats 4000000 in
set_option maxRecDepth 100000 in
theorem mX0_firstWaiting (l : Launch) (D : va_G) (K : Nat → ClassId) (a : Nat → Nat) (σ : gS) (p1 : Int32) (r : (Int32 × gS)) (hf : fX0_firstWaiting σ p1 = some r) : gMi l yX0_firstWaiting wsX0_firstWaiting { frames := 0, cells := 0, slots := 0, locals := 0 } D (gT K) (LW K a) [.ref (a 0), .int p1] σ r := by
  refine mk_i (nL := 2) (cc := cX0_firstWaiting) (by decide) rfl (Nat.le_of_ble_eq_true rfl) rfl rfl hf (fun g C => ?_)
  refine g_sub C (lv' := [(0, .ref (a 0)), (1, .int p1)]) [0, 1] rfl ?_
  unfold fX0_firstWaiting
  refine g_aload_n C 0 dX0_firstWaiting_0 rfl rfl ?_
  refine g_get C (fun _ h => List.mem_cons_of_mem _ (List.mem_append_right _ h)) 0 (LWg_0 K a _) rfl 3 (by decide) (List.mem_of_getElem? (i := 1) rfl) rfl rfl dX0_firstWaiting_1 ?_
  refine g_iload_n C 1 dX0_firstWaiting_4 rfl rfl ?_
  refine g_ialdG C 4 0 (LWg_4 K a _) rfl dX0_firstWaiting_5 ?_
  refine g_if_le C 21 dX0_firstWaiting_6 (by decide) (fun _ => ?_) (fun _ => ?_)
  · refine g_bipush C (v := (-9 : Int32)) dX0_firstWaiting_21 (by decide) ?_
    exact g_ret C ⟨dX0_firstWaiting_23, rfl, rfl⟩
  · refine g_aload_n C 0 dX0_firstWaiting_9 rfl rfl ?_
    refine g_get C (fun _ h => List.mem_cons_of_mem _ (List.mem_append_right _ h)) 0 (LWg_0 K a _) rfl 4 (by decide) (List.mem_of_getElem? (i := 2) rfl) rfl rfl dX0_firstWaiting_10 ?_
    refine g_bipush C (v := (20 : Int32)) dX0_firstWaiting_13 (by decide) ?_
    refine g_iload_n C 1 dX0_firstWaiting_15 rfl rfl ?_
    refine g_imul C dX0_firstWaiting_16 ?_
    refine g_ialdG C 5 0 (LWg_5 K a _) rfl dX0_firstWaiting_17 ?_
    refine g_goto C 23 dX0_firstWaiting_18 (by decide) ?_
    exact g_ret C ⟨dX0_firstWaiting_23, rfl, rfl⟩
set_option maxHeartbeats 4000000 in
set_option maxRecDepth 100000 in
theorem mX0_putAtEnd (l : Launch) (D : va_G) (K : Nat → ClassId) (a : Nat → Nat) (σ : gS) (p1 : Int32) (p2 : Int32) (r : gS) (hf : fX0_putAtEnd σ p1 p2 = some r) : gMv l yX0_putAtEnd wsX0_putAtEnd { frames := 0, cells := 0, slots := 0, locals := 0 } D (gT K) (LW K a) [.ref (a 0), .int p1, .int p2] σ r := by
  refine mk_v (nL := 3) (cc := cX0_putAtEnd) (by decide) rfl (Nat.le_of_ble_eq_true rfl) rfl rfl hf (fun g C => ?_)
  refine g_sub C (lv' := [(0, .ref (a 0)), (1, .int p1), (2, .int p2)]) [0, 1, 2] rfl ?_
  unfold fX0_putAtEnd
  refine g_aload_n C 0 dX0_putAtEnd_0 rfl rfl ?_
  refine g_get C (fun _ h => List.mem_cons_of_mem _ (List.mem_append_right _ h)) 0 (LWg_0 K a _) rfl 3 (by decide) (List.mem_of_getElem? (i := 1) rfl) rfl rfl dX0_putAtEnd_1 ?_
  refine g_iload_n C 1 dX0_putAtEnd_4 rfl rfl ?_
  refine g_ialdG C 4 0 (LWg_4 K a _) rfl dX0_putAtEnd_5 ?_
  refine g_bipush C (v := (20 : Int32)) dX0_putAtEnd_6 (by decide) ?_
  refine g_icmp_ge C 38 dX0_putAtEnd_8 (by decide) (fun _ => ?_) (fun _ => ?_)
  · exact g_ret C ⟨dX0_putAtEnd_38, rfl, rfl⟩
  · refine g_aload_n C 0 dX0_putAtEnd_11 rfl rfl ?_
    refine g_get C (fun _ h => List.mem_cons_of_mem _ (List.mem_append_right _ h)) 0 (LWg_0 K a _) rfl 4 (by decide) (List.mem_of_getElem? (i := 2) rfl) rfl rfl dX0_putAtEnd_12 ?_
    refine g_bipush C (v := (20 : Int32)) dX0_putAtEnd_15 (by decide) ?_
    refine g_iload_n C 1 dX0_putAtEnd_17 rfl rfl ?_
    refine g_imul C dX0_putAtEnd_18 ?_
    refine g_aload_n C 0 dX0_putAtEnd_19 rfl rfl ?_
    refine g_get C (fun _ h => List.mem_cons_of_mem _ (List.mem_append_right _ h)) 0 (LWg_0 K a _) rfl 3 (by decide) (List.mem_of_getElem? (i := 1) rfl) rfl rfl dX0_putAtEnd_20 ?_
    refine g_iload_n C 1 dX0_putAtEnd_23 rfl rfl ?_
    refine g_ialdG C 4 0 (LWg_4 K a _) rfl dX0_putAtEnd_24 ?_
    refine g_iadd C dX0_putAtEnd_25 ?_
    refine g_iload_n C 2 dX0_putAtEnd_26 rfl rfl ?_
    refine g_iastG C 5 0 (LWg_5 K a _) rfl (LWs_5 K a _ _) dX0_putAtEnd_27 ?_
    refine g_state (fun u1 => ?_)
    refine g_aload_n C 0 dX0_putAtEnd_28 rfl rfl ?_
    refine g_get C (fun _ h => List.mem_cons_of_mem _ (List.mem_append_right _ h)) 0 (LWg_0 K a _) rfl 3 (by decide) (List.mem_of_getElem? (i := 1) rfl) rfl rfl dX0_putAtEnd_29 ?_
    refine g_iload_n C 1 dX0_putAtEnd_32 rfl rfl ?_
    refine g_dup2 C dX0_putAtEnd_33 rfl rfl ?_
    refine g_ialdG C 4 0 (LWg_4 K a _) rfl dX0_putAtEnd_34 ?_
    refine g_iconst C (v := (1 : Int32)) dX0_putAtEnd_35 ic_1 ?_
    refine g_iadd C dX0_putAtEnd_36 ?_
    refine g_topi (fun t2 => ?_)
    refine g_iastG C 4 0 (LWg_4 K a _) rfl (LWs_4 K a _ _) dX0_putAtEnd_37 ?_
    refine g_state (fun u3 => ?_)
    exact g_ret C ⟨dX0_putAtEnd_38, rfl, rfl⟩
set_option maxHeartbeats 4000000 in
set_option maxRecDepth 100000 in
theorem mX0_forget (l : Launch) (D : va_G) (K : Nat → ClassId) (a : Nat → Nat) (σ : gS) (p1 : Int32) (r : gS) (hf : fX0_forget σ p1 = some r) : gMv l yX0_forget wsX0_forget { frames := 1, cells := 0, slots := 0, locals := 21 } D (gT K) (LW K a) [.ref (a 0), .int p1] σ r := by
  refine mk_v (nL := 6) (cc := cX0_forget) (by decide) rfl (Nat.le_of_ble_eq_true rfl) rfl rfl hf (fun g C => ?_)
  refine g_sub C (lv' := [(0, .ref (a 0)), (1, .int p1)]) [0, 1] rfl ?_
  unfold fX0_forget
  have h_2 : ∀ (n : Nat) (σ : gS) (v1 : Int32) (v2 : Int32), g (fX0_forget_L2 n σ v1 v2) 2 [(0, .ref (a 0)), (1, .int v1), (2, .int v2)] [] σ := by
    intro n
    induction n with
    | zero =>
      intro σ v1 v2
      exact g_none C
    | succ n2 ih_2 =>
      have h_12 : ∀ (n : Nat) (σ : gS) (v1 : Int32) (v2 : Int32) (v3 : Int32) (v4 : Int32), g (fX0_forget_L12 (fX0_forget_L2 n2) n σ v1 v2 v3 v4) 12 [(0, .ref (a 0)), (1, .int v1), (2, .int v2), (3, .int v3), (4, .int v4)] [] σ := by
        intro n
        induction n with
        | zero =>
          intro σ v1 v2 v3 v4
          exact g_none C
        | succ n12 ih_12 =>
          intro σ v1 v2 v3 v4
          unfold fX0_forget_L12
          refine g_iload C 4 dX0_forget_12 rfl ?_
          refine g_bipush C (v := (20 : Int32)) dX0_forget_14 (by decide) ?_
          refine g_icmp_ge C 75 dX0_forget_16 (by decide) (fun _ => ?_) (fun _ => ?_)
          · refine g_aload_n C 0 dX0_forget_75 rfl rfl ?_
            refine g_get C (fun _ h => List.mem_cons_of_mem _ (List.mem_append_right _ h)) 0 (LWg_0 K a _) rfl 3 (by decide) (List.mem_of_getElem? (i := 1) rfl) rfl rfl dX0_forget_76 ?_
            refine g_iload_n C 2 dX0_forget_79 rfl rfl ?_
            refine g_iload_n C 3 dX0_forget_80 rfl rfl ?_
            refine g_iastG C 4 0 (LWg_4 K a _) rfl (LWs_4 K a _ _) dX0_forget_81 ?_
            refine g_state (fun u1 => ?_)
            refine g_iinc C (w := (1 : Int32)) (lv' := [(2, .int (v2 + (1 : Int32))), (0, .ref (a 0)), (1, .int v1), (3, .int v3), (4, .int v4)]) 2 dX0_forget_82 rfl ic_1 (by decide) rfl ?_
            refine g_goto C 2 dX0_forget_85 (by decide) ?_
            refine g_sub C (lv' := [(0, .ref (a 0)), (1, .int v1), (2, .int (v2 + (1 : Int32)))]) [1, 2, 0] rfl ?_
            exact ih_2 u1 v1 (v2 + (1 : Int32))
          · refine g_iload C 4 dX0_forget_19 rfl ?_
            refine g_aload_n C 0 dX0_forget_21 rfl rfl ?_
            refine g_get C (fun _ h => List.mem_cons_of_mem _ (List.mem_append_right _ h)) 0 (LWg_0 K a _) rfl 3 (by decide) (List.mem_of_getElem? (i := 1) rfl) rfl rfl dX0_forget_22 ?_
            refine g_iload_n C 2 dX0_forget_25 rfl rfl ?_
            refine g_ialdG C 4 0 (LWg_4 K a _) rfl dX0_forget_26 ?_
            refine g_icmp_ge C 75 dX0_forget_27 (by decide) (fun _ => ?_) (fun _ => ?_)
            · refine g_aload_n C 0 dX0_forget_75 rfl rfl ?_
              refine g_get C (fun _ h => List.mem_cons_of_mem _ (List.mem_append_right _ h)) 0 (LWg_0 K a _) rfl 3 (by decide) (List.mem_of_getElem? (i := 1) rfl) rfl rfl dX0_forget_76 ?_
              refine g_iload_n C 2 dX0_forget_79 rfl rfl ?_
              refine g_iload_n C 3 dX0_forget_80 rfl rfl ?_
              refine g_iastG C 4 0 (LWg_4 K a _) rfl (LWs_4 K a _ _) dX0_forget_81 ?_
              refine g_state (fun u2 => ?_)
              refine g_iinc C (w := (1 : Int32)) (lv' := [(2, .int (v2 + (1 : Int32))), (0, .ref (a 0)), (1, .int v1), (3, .int v3), (4, .int v4)]) 2 dX0_forget_82 rfl ic_1 (by decide) rfl ?_
              refine g_goto C 2 dX0_forget_85 (by decide) ?_
              refine g_sub C (lv' := [(0, .ref (a 0)), (1, .int v1), (2, .int (v2 + (1 : Int32)))]) [1, 2, 0] rfl ?_
              exact ih_2 u2 v1 (v2 + (1 : Int32))
            · refine g_aload_n C 0 dX0_forget_30 rfl rfl ?_
              refine g_get C (fun _ h => List.mem_cons_of_mem _ (List.mem_append_right _ h)) 0 (LWg_0 K a _) rfl 4 (by decide) (List.mem_of_getElem? (i := 2) rfl) rfl rfl dX0_forget_31 ?_
              refine g_bipush C (v := (20 : Int32)) dX0_forget_34 (by decide) ?_
              refine g_iload_n C 2 dX0_forget_36 rfl rfl ?_
              refine g_imul C dX0_forget_37 ?_
              refine g_iload C 4 dX0_forget_38 rfl ?_
              refine g_iadd C dX0_forget_40 ?_
              refine g_ialdG C 5 0 (LWg_5 K a _) rfl dX0_forget_41 ?_
              refine g_topi (fun t3 => ?_)
              refine g_istore C (lv' := [(5, .int t3), (0, .ref (a 0)), (1, .int v1), (2, .int v2), (3, .int v3), (4, .int v4)]) dX0_forget_42 (by decide) rfl ?_
              refine g_iload_n C 2 dX0_forget_44 rfl rfl ?_
              refine g_iload C 0 dX0_forget_45 rfl ?_
              refine g_callNi C (n := 2) (As := [.int v1, .int t3]) (rest := []) (fun r h => mX3_has l D K _ _ r h) gE.nil (τ := ()) gX0_forget_X3_has_n44 (List.mem_of_getElem? (i := 2) rfl) (List.mem_of_getElem? (i := 4) rfl) (List.mem_of_getElem? (i := 3) rfl) rfl (by decide +kernel) ⟨Nat.le_of_ble_eq_true rfl, Nat.le_of_ble_eq_true rfl, rfl, rfl⟩ rfl rfl (Nat.le_of_ble_eq_true rfl) dX0_forget_47 (fun r4 _ => ?_)
              refine g_if_ne C 69 dX0_forget_50 (by decide) (fun _ => ?_) (fun _ => ?_)
              · refine g_aload_n C 1 dX0_forget_53 rfl rfl ?_
                refine g_get C (fun _ h => List.mem_cons_of_mem _ (List.mem_append_right _ h)) 0 (LWg_0 K a _) rfl 4 (by decide) (List.mem_of_getElem? (i := 2) rfl) rfl rfl dX0_forget_54 ?_
                refine g_bipush C (v := (20 : Int32)) dX0_forget_57 (by decide) ?_
                refine g_iload_n C 3 dX0_forget_59 rfl rfl ?_
                refine g_imul C dX0_forget_60 ?_
                refine g_iload_n C 4 dX0_forget_61 rfl rfl ?_
                refine g_iadd C dX0_forget_62 ?_
                refine g_iload C 0 dX0_forget_63 rfl ?_
                refine g_iastG C 5 0 (LWg_5 K a _) rfl (LWs_5 K a _ _) dX0_forget_65 ?_
                refine g_state (fun u5 => ?_)
                refine g_iinc C (w := (1 : Int32)) (lv' := [(3, .int (v3 + (1 : Int32))), (5, .int t3), (0, .ref (a 0)), (1, .int v1), (2, .int v2), (4, .int v4)]) 4 dX0_forget_66 rfl ic_1 (by decide) rfl ?_
                refine g_iinc C (w := (1 : Int32)) (lv' := [(4, .int (v4 + (1 : Int32))), (3, .int (v3 + (1 : Int32))), (5, .int t3), (0, .ref (a 0)), (1, .int v1), (2, .int v2)]) 5 dX0_forget_69 rfl ic_1 (by decide) rfl ?_
                refine g_goto C 12 dX0_forget_72 (by decide) ?_
                refine g_sub C (lv' := [(0, .ref (a 0)), (1, .int v1), (2, .int v2), (3, .int (v3 + (1 : Int32))), (4, .int (v4 + (1 : Int32)))]) [3, 4, 5, 1, 0] rfl ?_
                exact ih_12 u5 v1 v2 (v3 + (1 : Int32)) (v4 + (1 : Int32))
              · refine g_iinc C (w := (1 : Int32)) (lv' := [(4, .int (v4 + (1 : Int32))), (5, .int t3), (0, .ref (a 0)), (1, .int v1), (2, .int v2), (3, .int v3)]) 5 dX0_forget_69 rfl ic_1 (by decide) rfl ?_
                refine g_goto C 12 dX0_forget_72 (by decide) ?_
                refine g_sub C (lv' := [(0, .ref (a 0)), (1, .int v1), (2, .int v2), (3, .int v3), (4, .int (v4 + (1 : Int32)))]) [2, 3, 4, 5, 0] rfl ?_
                exact ih_12 σ v1 v2 v3 (v4 + (1 : Int32))
      intro σ v1 v2
      unfold fX0_forget_L2
      refine g_iload_n C 2 dX0_forget_2 rfl rfl ?_
      refine g_iconst C (v := (3 : Int32)) dX0_forget_3 ic_3 ?_
      refine g_icmp_ge C 88 dX0_forget_4 (by decide) (fun _ => ?_) (fun _ => ?_)
      · exact g_ret C ⟨dX0_forget_88, rfl, rfl⟩
      · refine g_iconst C (v := (0 : Int32)) dX0_forget_7 ic_0 ?_
        refine g_istore_n C (lv' := [(3, .int (0 : Int32)), (0, .ref (a 0)), (1, .int v1), (2, .int v2)]) dX0_forget_8 rfl (by decide) rfl ?_
        refine g_iconst C (v := (0 : Int32)) dX0_forget_9 ic_0 ?_
        refine g_istore C (lv' := [(4, .int (0 : Int32)), (3, .int (0 : Int32)), (0, .ref (a 0)), (1, .int v1), (2, .int v2)]) dX0_forget_10 (by decide) rfl ?_
        refine g_sub C (lv' := [(0, .ref (a 0)), (1, .int v1), (2, .int v2), (3, .int (0 : Int32)), (4, .int (0 : Int32))]) [2, 3, 4, 1, 0] rfl ?_
        exact h_12 gFuel σ v1 v2 (0 : Int32) (0 : Int32)
  refine g_iconst C (v := (0 : Int32)) dX0_forget_0 ic_0 ?_
  refine g_istore_n C (lv' := [(2, .int (0 : Int32)), (0, .ref (a 0)), (1, .int p1)]) dX0_forget_1 rfl (by decide) rfl ?_
  refine g_sub C (lv' := [(0, .ref (a 0)), (1, .int p1), (2, .int (0 : Int32))]) [1, 2, 0] rfl ?_
  exact h_2 gFuel σ p1 (0 : Int32)
set_option maxHeartbeats 4000000 in
set_option maxRecDepth 100000 in
theorem mX0_keepShout (l : Launch) (D : va_G) (K : Nat → ClassId) (a : Nat → Nat) (σ : gS) (p1 : Int32) (p2 : Int32) (p3 : Int32) (r : gS) (hf : fX0_keepShout σ p1 p2 p3 = some r) : gMv l yX0_keepShout wsX0_keepShout { frames := 0, cells := 0, slots := 0, locals := 0 } D (gT K) (LW K a) [.ref (a 0), .int p1, .int p2, .int p3] σ r := by
  refine mk_v (nL := 5) (cc := cX0_keepShout) (by decide) rfl (Nat.le_of_ble_eq_true rfl) rfl rfl hf (fun g C => ?_)
  refine g_sub C (lv' := [(0, .ref (a 0)), (1, .int p1), (2, .int p2), (3, .int p3)]) [0, 1, 2, 3] rfl ?_
  unfold fX0_keepShout
  have h_4 : ∀ (n : Nat) (σ : gS) (v1 : Int32) (v2 : Int32) (v3 : Int32) (v4 : Int32), g (fX0_keepShout_L4 n σ v1 v2 v3 v4) 4 [(0, .ref (a 0)), (1, .int v1), (2, .int v2), (3, .int v3), (4, .int v4)] [] σ := by
    intro n
    induction n with
    | zero =>
      intro σ v1 v2 v3 v4
      exact g_none C
    | succ n4 ih_4 =>
      intro σ v1 v2 v3 v4
      unfold fX0_keepShout_L4
      refine g_iload C 4 dX0_keepShout_4 rfl ?_
      refine g_if_le C 63 dX0_keepShout_6 (by decide) (fun _ => ?_) (fun _ => ?_)
      · refine g_aload_n C 0 dX0_keepShout_63 rfl rfl ?_
        refine g_get C (fun _ h => List.mem_cons_of_mem _ (List.mem_append_right _ h)) 0 (LWg_0 K a _) rfl 5 (by decide) (List.mem_of_getElem? (i := 1) rfl) rfl rfl dX0_keepShout_64 ?_
        refine g_iconst C (v := (0 : Int32)) dX0_keepShout_67 ic_0 ?_
        refine g_iload_n C 1 dX0_keepShout_68 rfl rfl ?_
        refine g_iast C 6 0 (LWg_6 K a _) rfl (by decide) (LWs_6 K a _ _) dX0_keepShout_69 ?_
        refine g_state (fun u1 => ?_)
        refine g_aload_n C 0 dX0_keepShout_70 rfl rfl ?_
        refine g_get C (fun _ h => List.mem_cons_of_mem _ (List.mem_append_right _ h)) 0 (LWg_0 K a _) rfl 6 (by decide) (List.mem_of_getElem? (i := 2) rfl) rfl rfl dX0_keepShout_71 ?_
        refine g_iconst C (v := (0 : Int32)) dX0_keepShout_74 ic_0 ?_
        refine g_iload_n C 2 dX0_keepShout_75 rfl rfl ?_
        refine g_iast C 7 0 (LWg_7 K a _) rfl (by decide) (LWs_7 K a _ _) dX0_keepShout_76 ?_
        refine g_state (fun u2 => ?_)
        refine g_aload_n C 0 dX0_keepShout_77 rfl rfl ?_
        refine g_get C (fun _ h => List.mem_cons_of_mem _ (List.mem_append_right _ h)) 0 (LWg_0 K a _) rfl 7 (by decide) (List.mem_of_getElem? (i := 3) rfl) rfl rfl dX0_keepShout_78 ?_
        refine g_iconst C (v := (0 : Int32)) dX0_keepShout_81 ic_0 ?_
        refine g_iload_n C 3 dX0_keepShout_82 rfl rfl ?_
        refine g_iast C 8 0 (LWg_8 K a _) rfl (by decide) (LWs_8 K a _ _) dX0_keepShout_83 ?_
        refine g_state (fun u3 => ?_)
        exact g_ret C ⟨dX0_keepShout_84, rfl, rfl⟩
      · refine g_aload_n C 0 dX0_keepShout_9 rfl rfl ?_
        refine g_get C (fun _ h => List.mem_cons_of_mem _ (List.mem_append_right _ h)) 0 (LWg_0 K a _) rfl 5 (by decide) (List.mem_of_getElem? (i := 1) rfl) rfl rfl dX0_keepShout_10 ?_
        refine g_iload C 4 dX0_keepShout_13 rfl ?_
        refine g_aload_n C 0 dX0_keepShout_15 rfl rfl ?_
        refine g_get C (fun _ h => List.mem_cons_of_mem _ (List.mem_append_right _ h)) 0 (LWg_0 K a _) rfl 5 (by decide) (List.mem_of_getElem? (i := 1) rfl) rfl rfl dX0_keepShout_16 ?_
        refine g_iload C 4 dX0_keepShout_19 rfl ?_
        refine g_iconst C (v := (1 : Int32)) dX0_keepShout_21 ic_1 ?_
        refine g_isub C dX0_keepShout_22 ?_
        refine g_ialdG C 6 0 (LWg_6 K a _) rfl dX0_keepShout_23 ?_
        refine g_topi (fun t4 => ?_)
        refine g_iastG C 6 0 (LWg_6 K a _) rfl (LWs_6 K a _ _) dX0_keepShout_24 ?_
        refine g_state (fun u5 => ?_)
        refine g_aload_n C 0 dX0_keepShout_25 rfl rfl ?_
        refine g_get C (fun _ h => List.mem_cons_of_mem _ (List.mem_append_right _ h)) 0 (LWg_0 K a _) rfl 6 (by decide) (List.mem_of_getElem? (i := 2) rfl) rfl rfl dX0_keepShout_26 ?_
        refine g_iload C 4 dX0_keepShout_29 rfl ?_
        refine g_aload_n C 0 dX0_keepShout_31 rfl rfl ?_
        refine g_get C (fun _ h => List.mem_cons_of_mem _ (List.mem_append_right _ h)) 0 (LWg_0 K a _) rfl 6 (by decide) (List.mem_of_getElem? (i := 2) rfl) rfl rfl dX0_keepShout_32 ?_
        refine g_iload C 4 dX0_keepShout_35 rfl ?_
        refine g_iconst C (v := (1 : Int32)) dX0_keepShout_37 ic_1 ?_
        refine g_isub C dX0_keepShout_38 ?_
        refine g_ialdG C 7 0 (LWg_7 K a _) rfl dX0_keepShout_39 ?_
        refine g_topi (fun t6 => ?_)
        refine g_iastG C 7 0 (LWg_7 K a _) rfl (LWs_7 K a _ _) dX0_keepShout_40 ?_
        refine g_state (fun u7 => ?_)
        refine g_aload_n C 0 dX0_keepShout_41 rfl rfl ?_
        refine g_get C (fun _ h => List.mem_cons_of_mem _ (List.mem_append_right _ h)) 0 (LWg_0 K a _) rfl 7 (by decide) (List.mem_of_getElem? (i := 3) rfl) rfl rfl dX0_keepShout_42 ?_
        refine g_iload C 4 dX0_keepShout_45 rfl ?_
        refine g_aload_n C 0 dX0_keepShout_47 rfl rfl ?_
        refine g_get C (fun _ h => List.mem_cons_of_mem _ (List.mem_append_right _ h)) 0 (LWg_0 K a _) rfl 7 (by decide) (List.mem_of_getElem? (i := 3) rfl) rfl rfl dX0_keepShout_48 ?_
        refine g_iload C 4 dX0_keepShout_51 rfl ?_
        refine g_iconst C (v := (1 : Int32)) dX0_keepShout_53 ic_1 ?_
        refine g_isub C dX0_keepShout_54 ?_
        refine g_ialdG C 8 0 (LWg_8 K a _) rfl dX0_keepShout_55 ?_
        refine g_topi (fun t8 => ?_)
        refine g_iastG C 8 0 (LWg_8 K a _) rfl (LWs_8 K a _ _) dX0_keepShout_56 ?_
        refine g_state (fun u9 => ?_)
        refine g_iinc C (w := (-1 : Int32)) (lv' := [(4, .int (v4 + (-1 : Int32))), (0, .ref (a 0)), (1, .int v1), (2, .int v2), (3, .int v3)]) 4 dX0_keepShout_57 rfl ic_m1 (by decide) rfl ?_
        refine g_goto C 4 dX0_keepShout_60 (by decide) ?_
        refine g_sub C (lv' := [(0, .ref (a 0)), (1, .int v1), (2, .int v2), (3, .int v3), (4, .int (v4 + (-1 : Int32)))]) [1, 2, 3, 4, 0] rfl ?_
        exact ih_4 u9 v1 v2 v3 (v4 + (-1 : Int32))
  refine g_bipush C (v := (9 : Int32)) dX0_keepShout_0 (by decide) ?_
  refine g_istore C (lv' := [(4, .int (9 : Int32)), (0, .ref (a 0)), (1, .int p1), (2, .int p2), (3, .int p3)]) dX0_keepShout_2 (by decide) rfl ?_
  refine g_sub C (lv' := [(0, .ref (a 0)), (1, .int p1), (2, .int p2), (3, .int p3), (4, .int (9 : Int32))]) [1, 2, 3, 4, 0] rfl ?_
  exact h_4 gFuel σ p1 p2 p3 (9 : Int32)
set_option maxHeartbeats 4000000 in
set_option maxRecDepth 100000 in
theorem mX0_passTick (l : Launch) (D : va_G) (K : Nat → ClassId) (a : Nat → Nat) (σ : gS) (p1 : Int32) (p2 : Int32) (r : (Int32 × gS)) (hf : fX0_passTick σ p1 p2 = some r) : gMi l yX0_passTick wsX0_passTick { frames := 2, cells := 0, slots := 0, locals := 46 } D (gT K) (LW K a) [.ref (a 0), .int p1, .int p2] σ r := by
  refine mk_i (nL := 4) (cc := cX0_passTick) (by decide) rfl (Nat.le_of_ble_eq_true rfl) rfl rfl hf (fun g C => ?_)
  refine g_sub C (lv' := [(0, .ref (a 0)), (1, .int p1), (2, .int p2)]) [0, 1, 2] rfl ?_
  unfold fX0_passTick
  refine g_aload_n C 0 dX0_passTick_0 rfl rfl ?_
  refine g_get C (fun _ h => List.mem_cons_of_mem _ (List.mem_append_right _ h)) 0 (LWg_0 K a _) rfl 1 (by decide) (List.mem_of_getElem? (i := 1) rfl) rfl rfl dX0_passTick_1 ?_
  refine g_iload_n C 1 dX0_passTick_4 rfl rfl ?_
  refine g_ialdG C 2 0 (LWg_2 K a _) rfl dX0_passTick_5 ?_
  refine g_if_le C 22 dX0_passTick_6 (by decide) (fun _ => ?_) (fun _ => ?_)
  · refine g_aload_n C 0 dX0_passTick_22 rfl rfl ?_
    refine g_iload_n C 1 dX0_passTick_23 rfl rfl ?_
    refine g_callVi C (n := 1) (As := [.int p1]) (rest := []) (fun r h => mX0_firstWaiting l D K a _ _ r h) gE.same gX0_passTick_X0_firstWaiting rfl (by decide +kernel) ⟨Nat.le_of_ble_eq_true rfl, Nat.le_of_ble_eq_true rfl, rfl, rfl⟩ 0 (LWg_0 K a _) rfl rfl rfl (Nat.le_of_ble_eq_true rfl) dX0_passTick_24 (fun r1 _ => ?_)
    refine g_istore_n C (lv' := [(3, .int r1.1), (0, .ref (a 0)), (1, .int p1), (2, .int p2)]) dX0_passTick_27 rfl (by decide) rfl ?_
    refine g_iload_n C 0 dX0_passTick_28 rfl rfl ?_
    refine g_bipush C (v := (-9 : Int32)) dX0_passTick_29 (by decide) ?_
    refine g_icmp_ne C 37 dX0_passTick_31 (by decide) (fun _ => ?_) (fun _ => ?_)
    · refine g_bipush C (v := (-9 : Int32)) dX0_passTick_34 (by decide) ?_
      exact g_ret C ⟨dX0_passTick_36, rfl, rfl⟩
    · refine g_aload_n C 1 dX0_passTick_37 rfl rfl ?_
      refine g_iload_n C 0 dX0_passTick_38 rfl rfl ?_
      refine g_callNi C (n := 1) (As := [.int r1.1]) (rest := [.ref (a 0)]) (fun r h => mX3_bit l D K _ r h) gE.nil (τ := ()) gX0_passTick_X3_bit_n52 (List.mem_of_getElem? (i := 3) rfl) (List.mem_of_getElem? (i := 12) rfl) (List.mem_of_getElem? (i := 11) rfl) rfl (by decide +kernel) ⟨Nat.le_of_ble_eq_true rfl, Nat.le_of_ble_eq_true rfl, rfl, rfl⟩ rfl rfl (Nat.le_of_ble_eq_true rfl) dX0_passTick_39 (fun r2 _ => ?_)
      refine g_callVv C (n := 1) (As := [.int r2.1]) (rest := []) (fun r h => mX0_forget l D K a _ _ r h) gE.same gX0_passTick_X0_forget rfl (by decide +kernel) ⟨Nat.le_of_ble_eq_true rfl, Nat.le_of_ble_eq_true rfl, rfl, rfl⟩ 0 (LWg_0 K a _) rfl rfl rfl (Nat.le_of_ble_eq_true rfl) dX0_passTick_42 (fun r3 _ => ?_)
      refine g_aload_n C 1 dX0_passTick_45 rfl rfl ?_
      refine g_get C (fun _ h => List.mem_cons_of_mem _ (List.mem_append_right _ h)) 0 (LWg_0 K a _) rfl 1 (by decide) (List.mem_of_getElem? (i := 1) rfl) rfl rfl dX0_passTick_46 ?_
      refine g_iload_n C 2 dX0_passTick_49 rfl rfl ?_
      refine g_aload_n C 1 dX0_passTick_50 rfl rfl ?_
      refine g_get C (fun _ h => List.mem_cons_of_mem _ (List.mem_append_right _ h)) 0 (LWg_0 K a _) rfl 8 (by decide) (List.mem_of_getElem? (i := 2) rfl) rfl rfl dX0_passTick_51 ?_
      refine g_topi (fun t4 => ?_)
      refine g_iastG C 2 0 (LWg_2 K a _) rfl (LWs_2 K a _ _) dX0_passTick_54 ?_
      refine g_state (fun u5 => ?_)
      refine g_aload_n C 1 dX0_passTick_55 rfl rfl ?_
      refine g_get C (fun _ h => List.mem_cons_of_mem _ (List.mem_append_right _ h)) 0 (LWg_0 K a _) rfl 2 (by decide) (List.mem_of_getElem? (i := 3) rfl) rfl rfl dX0_passTick_56 ?_
      refine g_iload_n C 2 dX0_passTick_59 rfl rfl ?_
      refine g_dup2 C dX0_passTick_60 rfl rfl ?_
      refine g_ialdG C 3 0 (LWg_3 K a _) rfl dX0_passTick_61 ?_
      refine g_iconst C (v := (1 : Int32)) dX0_passTick_62 ic_1 ?_
      refine g_iadd C dX0_passTick_63 ?_
      refine g_topi (fun t6 => ?_)
      refine g_iastG C 3 0 (LWg_3 K a _) rfl (LWs_3 K a _ _) dX0_passTick_64 ?_
      refine g_state (fun u7 => ?_)
      refine g_aload_n C 1 dX0_passTick_65 rfl rfl ?_
      refine g_iload_n C 2 dX0_passTick_66 rfl rfl ?_
      refine g_iload_n C 0 dX0_passTick_67 rfl rfl ?_
      refine g_iload_n C 3 dX0_passTick_68 rfl rfl ?_
      refine g_callVv C (n := 3) (As := [.int p1, .int r1.1, .int p2]) (rest := []) (fun r h => mX0_keepShout l D K a _ _ _ _ r h) gE.same gX0_passTick_X0_keepShout rfl (by decide +kernel) ⟨Nat.le_of_ble_eq_true rfl, Nat.le_of_ble_eq_true rfl, rfl, rfl⟩ 0 (LWg_0 K a _) rfl rfl rfl (Nat.le_of_ble_eq_true rfl) dX0_passTick_69 (fun r8 _ => ?_)
      refine g_iload_n C 0 dX0_passTick_72 rfl rfl ?_
      exact g_ret C ⟨dX0_passTick_73, rfl, rfl⟩
  · refine g_aload_n C 0 dX0_passTick_9 rfl rfl ?_
    refine g_get C (fun _ h => List.mem_cons_of_mem _ (List.mem_append_right _ h)) 0 (LWg_0 K a _) rfl 1 (by decide) (List.mem_of_getElem? (i := 1) rfl) rfl rfl dX0_passTick_10 ?_
    refine g_iload_n C 1 dX0_passTick_13 rfl rfl ?_
    refine g_dup2 C dX0_passTick_14 rfl rfl ?_
    refine g_ialdG C 2 0 (LWg_2 K a _) rfl dX0_passTick_15 ?_
    refine g_iconst C (v := (1 : Int32)) dX0_passTick_16 ic_1 ?_
    refine g_isub C dX0_passTick_17 ?_
    refine g_topi (fun t9 => ?_)
    refine g_iastG C 2 0 (LWg_2 K a _) rfl (LWs_2 K a _ _) dX0_passTick_18 ?_
    refine g_state (fun u10 => ?_)
    refine g_bipush C (v := (-9 : Int32)) dX0_passTick_19 (by decide) ?_
    exact g_ret C ⟨dX0_passTick_21, rfl, rfl⟩
set_option maxHeartbeats 4000000 in
set_option maxRecDepth 100000 in
theorem mX1_clear (l : Launch) (D : va_G) (K : Nat → ClassId) (a : Nat → Nat) (σ : gS) (r : gS) (hf : fX1_clear σ  = some r) : gMv l yX1_clear wsX1_clear { frames := 1, cells := 0, slots := 0, locals := 21 } D (gT K) (LW K a) [.ref (a 9)] σ r := by
  refine mk_v (nL := 2) (cc := cX1_clear) (by decide) rfl (Nat.le_of_ble_eq_true rfl) rfl rfl hf (fun g C => ?_)
  refine g_sub C (lv' := [(0, .ref (a 9))]) [0] rfl ?_
  unfold fX1_clear
  have h_9 : ∀ (n : Nat) (σ : gS) (v1 : Int32), g (fX1_clear_L9 n σ v1) 9 [(0, .ref (a 9)), (1, .int v1)] [] σ := by
    intro n
    induction n with
    | zero =>
      intro σ v1
      exact g_none C
    | succ n9 ih_9 =>
      have h_60 : ∀ (n : Nat) (σ : gS) (v1 : Int32), g (fX1_clear_L60 n σ v1) 60 [(0, .ref (a 9)), (1, .int v1)] [] σ := by
        intro n
        induction n with
        | zero =>
          intro σ v1
          exact g_none C
        | succ n60 ih_60 =>
          intro σ v1
          unfold fX1_clear_L60
          refine g_iload_n C 1 dX1_clear_60 rfl rfl ?_
          refine g_bipush C (v := (20 : Int32)) dX1_clear_61 (by decide) ?_
          refine g_icmp_ge C 86 dX1_clear_63 (by decide) (fun _ => ?_) (fun _ => ?_)
          · refine g_aload_n C 0 dX1_clear_86 rfl rfl ?_
            refine g_iconst C (v := (0 : Int32)) dX1_clear_87 ic_0 ?_
            refine g_put C (ty := .int) (fun _ h => List.mem_cons_of_mem _ (List.mem_append_left _ (List.mem_append_right _ h))) tyX1 tyX1_ok nmX1 9 (LWg_9 K a _) rfl 8 (by decide) (List.mem_of_getElem? (i := 9) rfl) rfl rfl (by decide +kernel) rfl rfl (Nat.le_of_ble_eq_true rfl) (LWp_9_8 K a _ _) dX1_clear_88 ?_
            refine g_state (fun u1 => ?_)
            refine g_aload_n C 0 dX1_clear_91 rfl rfl ?_
            refine g_iconst C (v := (0 : Int32)) dX1_clear_92 ic_0 ?_
            refine g_put C (ty := .int) (fun _ h => List.mem_cons_of_mem _ (List.mem_append_left _ (List.mem_append_right _ h))) tyX1 tyX1_ok nmX1 9 (LWg_9 K a _) rfl 9 (by decide) (List.mem_of_getElem? (i := 10) rfl) rfl rfl (by decide +kernel) rfl rfl (Nat.le_of_ble_eq_true rfl) (LWp_9_9 K a _ _) dX1_clear_93 ?_
            refine g_state (fun u2 => ?_)
            refine g_aload_n C 0 dX1_clear_96 rfl rfl ?_
            refine g_iconst C (v := (2 : Int32)) dX1_clear_97 ic_2 ?_
            refine g_put C (ty := .int) (fun _ h => List.mem_cons_of_mem _ (List.mem_append_left _ (List.mem_append_right _ h))) tyX1 tyX1_ok nmX1 9 (LWg_9 K a _) rfl 10 (by decide) (List.mem_of_getElem? (i := 11) rfl) rfl rfl (by decide +kernel) rfl rfl (Nat.le_of_ble_eq_true rfl) (LWp_9_10 K a _ _) dX1_clear_98 ?_
            refine g_state (fun u3 => ?_)
            refine g_aload_n C 0 dX1_clear_101 rfl rfl ?_
            refine g_iconst C (v := (0 : Int32)) dX1_clear_102 ic_0 ?_
            refine g_put C (ty := .int) (fun _ h => List.mem_cons_of_mem _ (List.mem_append_left _ (List.mem_append_right _ h))) tyX1 tyX1_ok nmX1 9 (LWg_9 K a _) rfl 11 (by decide) (List.mem_of_getElem? (i := 12) rfl) rfl rfl (by decide +kernel) rfl rfl (Nat.le_of_ble_eq_true rfl) (LWp_9_11 K a _ _) dX1_clear_103 ?_
            refine g_state (fun u4 => ?_)
            refine g_aload_n C 0 dX1_clear_106 rfl rfl ?_
            refine g_iconst C (v := (0 : Int32)) dX1_clear_107 ic_0 ?_
            refine g_put C (ty := .int) (fun _ h => List.mem_cons_of_mem _ (List.mem_append_left _ (List.mem_append_right _ h))) tyX1 tyX1_ok nmX1 9 (LWg_9 K a _) rfl 12 (by decide) (List.mem_of_getElem? (i := 13) rfl) rfl rfl (by decide +kernel) rfl rfl (Nat.le_of_ble_eq_true rfl) (LWp_9_12 K a _ _) dX1_clear_108 ?_
            refine g_state (fun u5 => ?_)
            refine g_aload_n C 0 dX1_clear_111 rfl rfl ?_
            refine g_iconst C (v := (0 : Int32)) dX1_clear_112 ic_0 ?_
            refine g_put C (ty := .int) (fun _ h => List.mem_cons_of_mem _ (List.mem_append_left _ (List.mem_append_right _ h))) tyX1 tyX1_ok nmX1 9 (LWg_9 K a _) rfl 13 (by decide) (List.mem_of_getElem? (i := 14) rfl) rfl rfl (by decide +kernel) rfl rfl (Nat.le_of_ble_eq_true rfl) (LWp_9_13 K a _ _) dX1_clear_113 ?_
            refine g_state (fun u6 => ?_)
            refine g_aload_n C 0 dX1_clear_116 rfl rfl ?_
            refine g_iconst C (v := (0 : Int32)) dX1_clear_117 ic_0 ?_
            refine g_put C (ty := .int) (fun _ h => List.mem_cons_of_mem _ (List.mem_append_left _ (List.mem_append_right _ h))) tyX1 tyX1_ok nmX1 9 (LWg_9 K a _) rfl 14 (by decide) (List.mem_of_getElem? (i := 15) rfl) rfl rfl (by decide +kernel) rfl rfl (Nat.le_of_ble_eq_true rfl) (LWp_9_14 K a _ _) dX1_clear_118 ?_
            refine g_state (fun u7 => ?_)
            exact g_ret C ⟨dX1_clear_121, rfl, rfl⟩
          · refine g_aload_n C 0 dX1_clear_66 rfl rfl ?_
            refine g_get C (fun _ h => List.mem_cons_of_mem _ (List.mem_append_left _ (List.mem_append_right _ h))) 9 (LWg_9 K a _) rfl 6 (by decide) (List.mem_of_getElem? (i := 7) rfl) rfl rfl dX1_clear_67 ?_
            refine g_iload_n C 1 dX1_clear_70 rfl rfl ?_
            refine g_iconst C (v := (0 : Int32)) dX1_clear_71 ic_0 ?_
            refine g_iastG C 15 0 (LWg_15 K a _) rfl (LWs_15 K a _ _) dX1_clear_72 ?_
            refine g_state (fun u8 => ?_)
            refine g_aload_n C 0 dX1_clear_73 rfl rfl ?_
            refine g_get C (fun _ h => List.mem_cons_of_mem _ (List.mem_append_left _ (List.mem_append_right _ h))) 9 (LWg_9 K a _) rfl 7 (by decide) (List.mem_of_getElem? (i := 8) rfl) rfl rfl dX1_clear_74 ?_
            refine g_iload_n C 1 dX1_clear_77 rfl rfl ?_
            refine g_iconst C (v := (0 : Int32)) dX1_clear_78 ic_0 ?_
            refine g_iastG C 16 0 (LWg_16 K a _) rfl (LWs_16 K a _ _) dX1_clear_79 ?_
            refine g_state (fun u9 => ?_)
            refine g_iinc C (w := (1 : Int32)) (lv' := [(1, .int (v1 + (1 : Int32))), (0, .ref (a 9))]) 1 dX1_clear_80 rfl ic_1 (by decide) rfl ?_
            refine g_goto C 60 dX1_clear_83 (by decide) ?_
            refine g_sub C (lv' := [(0, .ref (a 9)), (1, .int (v1 + (1 : Int32)))]) [1, 0] rfl ?_
            exact ih_60 u9 (v1 + (1 : Int32))
      intro σ v1
      unfold fX1_clear_L9
      refine g_iload_n C 1 dX1_clear_9 rfl rfl ?_
      refine g_bipush C (v := (6 : Int32)) dX1_clear_10 (by decide) ?_
      refine g_icmp_ge C 58 dX1_clear_12 (by decide) (fun _ => ?_) (fun _ => ?_)
      · refine g_iconst C (v := (0 : Int32)) dX1_clear_58 ic_0 ?_
        refine g_istore_n C (lv' := [(1, .int (0 : Int32)), (0, .ref (a 9))]) dX1_clear_59 rfl (by decide) rfl ?_
        refine g_sub C (lv' := [(0, .ref (a 9)), (1, .int (0 : Int32))]) [1, 0] rfl ?_
        exact h_60 gFuel σ (0 : Int32)
      · refine g_aload_n C 0 dX1_clear_15 rfl rfl ?_
        refine g_get C (fun _ h => List.mem_cons_of_mem _ (List.mem_append_left _ (List.mem_append_right _ h))) 9 (LWg_9 K a _) rfl 1 (by decide) (List.mem_of_getElem? (i := 2) rfl) rfl rfl dX1_clear_16 ?_
        refine g_iload_n C 1 dX1_clear_19 rfl rfl ?_
        refine g_iconst C (v := (0 : Int32)) dX1_clear_20 ic_0 ?_
        refine g_iastG C 10 0 (LWg_10 K a _) rfl (LWs_10 K a _ _) dX1_clear_21 ?_
        refine g_state (fun u10 => ?_)
        refine g_aload_n C 0 dX1_clear_22 rfl rfl ?_
        refine g_get C (fun _ h => List.mem_cons_of_mem _ (List.mem_append_left _ (List.mem_append_right _ h))) 9 (LWg_9 K a _) rfl 2 (by decide) (List.mem_of_getElem? (i := 3) rfl) rfl rfl dX1_clear_23 ?_
        refine g_iload_n C 1 dX1_clear_26 rfl rfl ?_
        refine g_iconst C (v := (0 : Int32)) dX1_clear_27 ic_0 ?_
        refine g_iastG C 11 0 (LWg_11 K a _) rfl (LWs_11 K a _ _) dX1_clear_28 ?_
        refine g_state (fun u11 => ?_)
        refine g_aload_n C 0 dX1_clear_29 rfl rfl ?_
        refine g_get C (fun _ h => List.mem_cons_of_mem _ (List.mem_append_left _ (List.mem_append_right _ h))) 9 (LWg_9 K a _) rfl 3 (by decide) (List.mem_of_getElem? (i := 4) rfl) rfl rfl dX1_clear_30 ?_
        refine g_iload_n C 1 dX1_clear_33 rfl rfl ?_
        refine g_bipush C (v := (-9 : Int32)) dX1_clear_34 (by decide) ?_
        refine g_iastG C 12 0 (LWg_12 K a _) rfl (LWs_12 K a _ _) dX1_clear_36 ?_
        refine g_state (fun u12 => ?_)
        refine g_aload_n C 0 dX1_clear_37 rfl rfl ?_
        refine g_get C (fun _ h => List.mem_cons_of_mem _ (List.mem_append_left _ (List.mem_append_right _ h))) 9 (LWg_9 K a _) rfl 4 (by decide) (List.mem_of_getElem? (i := 5) rfl) rfl rfl dX1_clear_38 ?_
        refine g_iload_n C 1 dX1_clear_41 rfl rfl ?_
        refine g_bipush C (v := (-9 : Int32)) dX1_clear_42 (by decide) ?_
        refine g_iastG C 13 0 (LWg_13 K a _) rfl (LWs_13 K a _ _) dX1_clear_44 ?_
        refine g_state (fun u13 => ?_)
        refine g_aload_n C 0 dX1_clear_45 rfl rfl ?_
        refine g_get C (fun _ h => List.mem_cons_of_mem _ (List.mem_append_left _ (List.mem_append_right _ h))) 9 (LWg_9 K a _) rfl 5 (by decide) (List.mem_of_getElem? (i := 6) rfl) rfl rfl dX1_clear_46 ?_
        refine g_iload_n C 1 dX1_clear_49 rfl rfl ?_
        refine g_iconst C (v := (0 : Int32)) dX1_clear_50 ic_0 ?_
        refine g_zastG C 14 1 (LWg_14 K a _) rfl (Or.inl rfl) (LWs_14 K a _ _) dX1_clear_51 ?_
        refine g_state (fun u14 => ?_)
        refine g_iinc C (w := (1 : Int32)) (lv' := [(1, .int (v1 + (1 : Int32))), (0, .ref (a 9))]) 1 dX1_clear_52 rfl ic_1 (by decide) rfl ?_
        refine g_goto C 9 dX1_clear_55 (by decide) ?_
        refine g_sub C (lv' := [(0, .ref (a 9)), (1, .int (v1 + (1 : Int32)))]) [1, 0] rfl ?_
        exact ih_9 u14 (v1 + (1 : Int32))
  refine g_aload_n C 0 dX1_clear_0 rfl rfl ?_
  refine g_get C (fun _ h => List.mem_cons_of_mem _ (List.mem_append_left _ (List.mem_append_right _ h))) 9 (LWg_9 K a _) rfl 0 (by decide) (List.mem_of_getElem? (i := 1) rfl) rfl rfl dX1_clear_1 ?_
  refine g_callVv C (n := 0) (As := []) (rest := []) (fun r h => mX0_clear l D K a _ r h) gE.same gX1_clear_X0_clear rfl (by decide +kernel) ⟨Nat.le_of_ble_eq_true rfl, Nat.le_of_ble_eq_true rfl, rfl, rfl⟩ 0 (LWg_0 K a _) rfl rfl rfl (Nat.le_of_ble_eq_true rfl) dX1_clear_4 (fun r15 _ => ?_)
  refine g_iconst C (v := (0 : Int32)) dX1_clear_7 ic_0 ?_
  refine g_istore_n C (lv' := [(1, .int (0 : Int32)), (0, .ref (a 9))]) dX1_clear_8 rfl (by decide) rfl ?_
  refine g_sub C (lv' := [(0, .ref (a 9)), (1, .int (0 : Int32))]) [1, 0] rfl ?_
  exact h_9 gFuel r15 (0 : Int32)
set_option maxHeartbeats 4000000 in
set_option maxRecDepth 100000 in
theorem mX1_holderOf (l : Launch) (D : va_G) (K : Nat → ClassId) (a : Nat → Nat) (σ : gS) (p1 : Int32) (r : (Int32 × gS)) (hf : fX1_holderOf σ p1 = some r) : gMi l yX1_holderOf wsX1_holderOf { frames := 1, cells := 0, slots := 0, locals := 21 } D (gT K) (LW K a) [.ref (a 9), .int p1] σ r := by
  refine mk_i (nL := 3) (cc := cX1_holderOf) (by decide) rfl (Nat.le_of_ble_eq_true rfl) rfl rfl hf (fun g C => ?_)
  refine g_sub C (lv' := [(0, .ref (a 9)), (1, .int p1)]) [0, 1] rfl ?_
  unfold fX1_holderOf
  have h_2 : ∀ (n : Nat) (σ : gS) (v1 : Int32) (v2 : Int32), g (fX1_holderOf_L2 n σ v1 v2) 2 [(0, .ref (a 9)), (1, .int v1), (2, .int v2)] [] σ := by
    intro n
    induction n with
    | zero =>
      intro σ v1 v2
      exact g_none C
    | succ n2 ih_2 =>
      intro σ v1 v2
      unfold fX1_holderOf_L2
      refine g_iload_n C 2 dX1_holderOf_2 rfl rfl ?_
      refine g_bipush C (v := (6 : Int32)) dX1_holderOf_3 (by decide) ?_
      refine g_icmp_ge C 29 dX1_holderOf_5 (by decide) (fun _ => ?_) (fun _ => ?_)
      · refine g_bipush C (v := (-9 : Int32)) dX1_holderOf_29 (by decide) ?_
        exact g_ret C ⟨dX1_holderOf_31, rfl, rfl⟩
      · refine g_aload_n C 0 dX1_holderOf_8 rfl rfl ?_
        refine g_get C (fun _ h => List.mem_cons_of_mem _ (List.mem_append_right _ h)) 9 (LWg_9 K a _) rfl 1 (by decide) (List.mem_of_getElem? (i := 1) rfl) rfl rfl dX1_holderOf_9 ?_
        refine g_iload_n C 2 dX1_holderOf_12 rfl rfl ?_
        refine g_ialdG C 10 0 (LWg_10 K a _) rfl dX1_holderOf_13 ?_
        refine g_iload_n C 1 dX1_holderOf_14 rfl rfl ?_
        refine g_callNi C (n := 2) (As := [.int (σ 10 v2.toNatClampNeg), .int v1]) (rest := []) (fun r h => mX3_has l D K _ _ r h) gE.nil (τ := ()) gX1_holderOf_X3_has_n75 (List.mem_of_getElem? (i := 5) rfl) (List.mem_of_getElem? (i := 3) rfl) (List.mem_of_getElem? (i := 2) rfl) rfl (by decide +kernel) ⟨Nat.le_of_ble_eq_true rfl, Nat.le_of_ble_eq_true rfl, rfl, rfl⟩ rfl rfl (Nat.le_of_ble_eq_true rfl) dX1_holderOf_15 (fun r1 _ => ?_)
        refine g_if_eq C 23 dX1_holderOf_18 (by decide) (fun _ => ?_) (fun _ => ?_)
        · refine g_iinc C (w := (1 : Int32)) (lv' := [(2, .int (v2 + (1 : Int32))), (0, .ref (a 9)), (1, .int v1)]) 2 dX1_holderOf_23 rfl ic_1 (by decide) rfl ?_
          refine g_goto C 2 dX1_holderOf_26 (by decide) ?_
          refine g_sub C (lv' := [(0, .ref (a 9)), (1, .int v1), (2, .int (v2 + (1 : Int32)))]) [1, 2, 0] rfl ?_
          exact ih_2 σ v1 (v2 + (1 : Int32))
        · refine g_iload_n C 2 dX1_holderOf_21 rfl rfl ?_
          exact g_ret C ⟨dX1_holderOf_22, rfl, rfl⟩
  refine g_iconst C (v := (0 : Int32)) dX1_holderOf_0 ic_0 ?_
  refine g_istore_n C (lv' := [(2, .int (0 : Int32)), (0, .ref (a 9)), (1, .int p1)]) dX1_holderOf_1 rfl (by decide) rfl ?_
  refine g_sub C (lv' := [(0, .ref (a 9)), (1, .int p1), (2, .int (0 : Int32))]) [1, 2, 0] rfl ?_
  exact h_2 gFuel σ p1 (0 : Int32)
set_option maxHeartbeats 4000000 in
set_option maxRecDepth 100000 in
theorem mX1_booksInBags (l : Launch) (D : va_G) (K : Nat → ClassId) (a : Nat → Nat) (σ : gS) (r : (Int32 × gS)) (hf : fX1_booksInBags σ  = some r) : gMi l yX1_booksInBags wsX1_booksInBags { frames := 0, cells := 0, slots := 0, locals := 0 } D (gT K) (LW K a) [.ref (a 9)] σ r := by
  refine mk_i (nL := 3) (cc := cX1_booksInBags) (by decide) rfl (Nat.le_of_ble_eq_true rfl) rfl rfl hf (fun g C => ?_)
  refine g_sub C (lv' := [(0, .ref (a 9))]) [0] rfl ?_
  unfold fX1_booksInBags
  have h_4 : ∀ (n : Nat) (σ : gS) (v1 : Int32) (v2 : Int32), g (fX1_booksInBags_L4 n σ v1 v2) 4 [(0, .ref (a 9)), (1, .int v1), (2, .int v2)] [] σ := by
    intro n
    induction n with
    | zero =>
      intro σ v1 v2
      exact g_none C
    | succ n4 ih_4 =>
      intro σ v1 v2
      unfold fX1_booksInBags_L4
      refine g_iload_n C 2 dX1_booksInBags_4 rfl rfl ?_
      refine g_bipush C (v := (6 : Int32)) dX1_booksInBags_5 (by decide) ?_
      refine g_icmp_ge C 25 dX1_booksInBags_7 (by decide) (fun _ => ?_) (fun _ => ?_)
      · refine g_iload_n C 1 dX1_booksInBags_25 rfl rfl ?_
        exact g_ret C ⟨dX1_booksInBags_26, rfl, rfl⟩
      · refine g_iload_n C 1 dX1_booksInBags_10 rfl rfl ?_
        refine g_aload_n C 0 dX1_booksInBags_11 rfl rfl ?_
        refine g_get C (fun _ h => List.mem_cons_of_mem _ (List.mem_append_right _ h)) 9 (LWg_9 K a _) rfl 1 (by decide) (List.mem_of_getElem? (i := 1) rfl) rfl rfl dX1_booksInBags_12 ?_
        refine g_iload_n C 2 dX1_booksInBags_15 rfl rfl ?_
        refine g_ialdG C 10 0 (LWg_10 K a _) rfl dX1_booksInBags_16 ?_
        refine g_ior C dX1_booksInBags_17 ?_
        refine g_topi (fun t1 => ?_)
        refine g_istore_n C (lv' := [(1, .int t1), (0, .ref (a 9)), (2, .int v2)]) dX1_booksInBags_18 rfl (by decide) rfl ?_
        refine g_iinc C (w := (1 : Int32)) (lv' := [(2, .int (v2 + (1 : Int32))), (1, .int t1), (0, .ref (a 9))]) 2 dX1_booksInBags_19 rfl ic_1 (by decide) rfl ?_
        refine g_goto C 4 dX1_booksInBags_22 (by decide) ?_
        refine g_sub C (lv' := [(0, .ref (a 9)), (1, .int t1), (2, .int (v2 + (1 : Int32)))]) [2, 1, 0] rfl ?_
        exact ih_4 σ t1 (v2 + (1 : Int32))
  refine g_iconst C (v := (0 : Int32)) dX1_booksInBags_0 ic_0 ?_
  refine g_istore_n C (lv' := [(1, .int (0 : Int32)), (0, .ref (a 9))]) dX1_booksInBags_1 rfl (by decide) rfl ?_
  refine g_iconst C (v := (0 : Int32)) dX1_booksInBags_2 ic_0 ?_
  refine g_istore_n C (lv' := [(2, .int (0 : Int32)), (1, .int (0 : Int32)), (0, .ref (a 9))]) dX1_booksInBags_3 rfl (by decide) rfl ?_
  refine g_sub C (lv' := [(0, .ref (a 9)), (1, .int (0 : Int32)), (2, .int (0 : Int32))]) [2, 1, 0] rfl ?_
  exact h_4 gFuel σ (0 : Int32) (0 : Int32)
set_option maxHeartbeats 4000000 in
set_option maxRecDepth 100000 in
theorem mX1_visitorsWho (l : Launch) (D : va_G) (K : Nat → ClassId) (a : Nat → Nat) (σ : gS) (p1 : Int32) (r : (Int32 × gS)) (hf : fX1_visitorsWho σ p1 = some r) : gMi l yX1_visitorsWho wsX1_visitorsWho { frames := 1, cells := 0, slots := 0, locals := 20 } D (gT K) (LW K a) [.ref (a 9), .int p1] σ r := by
  refine mk_i (nL := 4) (cc := cX1_visitorsWho) (by decide) rfl (Nat.le_of_ble_eq_true rfl) rfl rfl hf (fun g C => ?_)
  refine g_sub C (lv' := [(0, .ref (a 9)), (1, .int p1)]) [0, 1] rfl ?_
  unfold fX1_visitorsWho
  have h_4 : ∀ (n : Nat) (σ : gS) (v1 : Int32) (v2 : Int32) (v3 : Int32), g (fX1_visitorsWho_L4 n σ v1 v2 v3) 4 [(0, .ref (a 9)), (1, .int v1), (2, .int v2), (3, .int v3)] [] σ := by
    intro n
    induction n with
    | zero =>
      intro σ v1 v2 v3
      exact g_none C
    | succ n4 ih_4 =>
      intro σ v1 v2 v3
      unfold fX1_visitorsWho_L4
      refine g_iload_n C 3 dX1_visitorsWho_4 rfl rfl ?_
      refine g_bipush C (v := (6 : Int32)) dX1_visitorsWho_5 (by decide) ?_
      refine g_icmp_ge C 37 dX1_visitorsWho_7 (by decide) (fun _ => ?_) (fun _ => ?_)
      · refine g_iload_n C 2 dX1_visitorsWho_37 rfl rfl ?_
        exact g_ret C ⟨dX1_visitorsWho_38, rfl, rfl⟩
      · refine g_iload_n C 2 dX1_visitorsWho_10 rfl rfl ?_
        refine g_aload_n C 0 dX1_visitorsWho_11 rfl rfl ?_
        refine g_get C (fun _ h => List.mem_cons_of_mem _ (List.mem_append_right _ h)) 9 (LWg_9 K a _) rfl 2 (by decide) (List.mem_of_getElem? (i := 1) rfl) rfl rfl dX1_visitorsWho_12 ?_
        refine g_iload_n C 3 dX1_visitorsWho_15 rfl rfl ?_
        refine g_ialdG C 11 0 (LWg_11 K a _) rfl dX1_visitorsWho_16 ?_
        refine g_iload_n C 1 dX1_visitorsWho_17 rfl rfl ?_
        refine g_icmp_ne C 25 dX1_visitorsWho_18 (by decide) (fun _ => ?_) (fun _ => ?_)
        · refine g_iconst C (v := (1 : Int32)) dX1_visitorsWho_21 ic_1 ?_
          refine g_goto C 26 dX1_visitorsWho_22 (by decide) ?_
          refine g_callNi C (n := 1) (As := [.int (1 : Int32)]) (rest := [.int v2]) (fun r h => mX3_oneIf l D K _ r h) gE.nil (τ := ()) gX1_visitorsWho_X3_oneIf_n79 (List.mem_of_getElem? (i := 6) rfl) (List.mem_of_getElem? (i := 3) rfl) (List.mem_of_getElem? (i := 2) rfl) rfl (by decide +kernel) ⟨Nat.le_of_ble_eq_true rfl, Nat.le_of_ble_eq_true rfl, rfl, rfl⟩ rfl rfl (Nat.le_of_ble_eq_true rfl) dX1_visitorsWho_26 (fun r1 _ => ?_)
          refine g_iadd C dX1_visitorsWho_29 ?_
          refine g_topi (fun t2 => ?_)
          refine g_istore_n C (lv' := [(2, .int t2), (0, .ref (a 9)), (1, .int v1), (3, .int v3)]) dX1_visitorsWho_30 rfl (by decide) rfl ?_
          refine g_iinc C (w := (1 : Int32)) (lv' := [(3, .int (v3 + (1 : Int32))), (2, .int t2), (0, .ref (a 9)), (1, .int v1)]) 3 dX1_visitorsWho_31 rfl ic_1 (by decide) rfl ?_
          refine g_goto C 4 dX1_visitorsWho_34 (by decide) ?_
          refine g_sub C (lv' := [(0, .ref (a 9)), (1, .int v1), (2, .int t2), (3, .int (v3 + (1 : Int32)))]) [2, 3, 1, 0] rfl ?_
          exact ih_4 σ v1 t2 (v3 + (1 : Int32))
        · refine g_iconst C (v := (0 : Int32)) dX1_visitorsWho_25 ic_0 ?_
          refine g_callNi C (n := 1) (As := [.int (0 : Int32)]) (rest := [.int v2]) (fun r h => mX3_oneIf l D K _ r h) gE.nil (τ := ()) gX1_visitorsWho_X3_oneIf_n79 (List.mem_of_getElem? (i := 6) rfl) (List.mem_of_getElem? (i := 3) rfl) (List.mem_of_getElem? (i := 2) rfl) rfl (by decide +kernel) ⟨Nat.le_of_ble_eq_true rfl, Nat.le_of_ble_eq_true rfl, rfl, rfl⟩ rfl rfl (Nat.le_of_ble_eq_true rfl) dX1_visitorsWho_26 (fun r3 _ => ?_)
          refine g_iadd C dX1_visitorsWho_29 ?_
          refine g_topi (fun t4 => ?_)
          refine g_istore_n C (lv' := [(2, .int t4), (0, .ref (a 9)), (1, .int v1), (3, .int v3)]) dX1_visitorsWho_30 rfl (by decide) rfl ?_
          refine g_iinc C (w := (1 : Int32)) (lv' := [(3, .int (v3 + (1 : Int32))), (2, .int t4), (0, .ref (a 9)), (1, .int v1)]) 3 dX1_visitorsWho_31 rfl ic_1 (by decide) rfl ?_
          refine g_goto C 4 dX1_visitorsWho_34 (by decide) ?_
          refine g_sub C (lv' := [(0, .ref (a 9)), (1, .int v1), (2, .int t4), (3, .int (v3 + (1 : Int32)))]) [2, 3, 1, 0] rfl ?_
          exact ih_4 σ v1 t4 (v3 + (1 : Int32))
  refine g_iconst C (v := (0 : Int32)) dX1_visitorsWho_0 ic_0 ?_
  refine g_istore_n C (lv' := [(2, .int (0 : Int32)), (0, .ref (a 9)), (1, .int p1)]) dX1_visitorsWho_1 rfl (by decide) rfl ?_
  refine g_iconst C (v := (0 : Int32)) dX1_visitorsWho_2 ic_0 ?_
  refine g_istore_n C (lv' := [(3, .int (0 : Int32)), (2, .int (0 : Int32)), (0, .ref (a 9)), (1, .int p1)]) dX1_visitorsWho_3 rfl (by decide) rfl ?_
  refine g_sub C (lv' := [(0, .ref (a 9)), (1, .int p1), (2, .int (0 : Int32)), (3, .int (0 : Int32))]) [2, 3, 1, 0] rfl ?_
  exact h_4 gFuel σ p1 (0 : Int32) (0 : Int32)
set_option maxHeartbeats 4000000 in
set_option maxRecDepth 100000 in
theorem mX1_visitorsAt (l : Launch) (D : va_G) (K : Nat → ClassId) (a : Nat → Nat) (σ : gS) (p1 : Int32) (r : (Int32 × gS)) (hf : fX1_visitorsAt σ p1 = some r) : gMi l yX1_visitorsAt wsX1_visitorsAt { frames := 1, cells := 0, slots := 0, locals := 20 } D (gT K) (LW K a) [.ref (a 9), .int p1] σ r := by
  refine mk_i (nL := 4) (cc := cX1_visitorsAt) (by decide) rfl (Nat.le_of_ble_eq_true rfl) rfl rfl hf (fun g C => ?_)
  refine g_sub C (lv' := [(0, .ref (a 9)), (1, .int p1)]) [0, 1] rfl ?_
  unfold fX1_visitorsAt
  have h_4 : ∀ (n : Nat) (σ : gS) (v1 : Int32) (v2 : Int32) (v3 : Int32), g (fX1_visitorsAt_L4 n σ v1 v2 v3) 4 [(0, .ref (a 9)), (1, .int v1), (2, .int v2), (3, .int v3)] [] σ := by
    intro n
    induction n with
    | zero =>
      intro σ v1 v2 v3
      exact g_none C
    | succ n4 ih_4 =>
      have h_35 : ∀ (σ : gS) (v1 : Int32) (v3 : Int32) (s0 : Int32), g (fX1_visitorsAt_L35 (fX1_visitorsAt_L4 n4) σ v1 v3 s0) 35 [(0, .ref (a 9)), (1, .int v1), (3, .int v3)] [.int s0] σ := by
        intro σ v1 v3 s0
        unfold fX1_visitorsAt_L35
        refine g_iconst C (v := (0 : Int32)) dX1_visitorsAt_35 ic_0 ?_
        refine g_callNi C (n := 1) (As := [.int (0 : Int32)]) (rest := [.int s0]) (fun r h => mX3_oneIf l D K _ r h) gE.nil (τ := ()) gX1_visitorsAt_X3_oneIf_n79 (List.mem_of_getElem? (i := 6) rfl) (List.mem_of_getElem? (i := 4) rfl) (List.mem_of_getElem? (i := 3) rfl) rfl (by decide +kernel) ⟨Nat.le_of_ble_eq_true rfl, Nat.le_of_ble_eq_true rfl, rfl, rfl⟩ rfl rfl (Nat.le_of_ble_eq_true rfl) dX1_visitorsAt_36 (fun r1 _ => ?_)
        refine g_iadd C dX1_visitorsAt_39 ?_
        refine g_topi (fun t2 => ?_)
        refine g_istore_n C (lv' := [(2, .int t2), (0, .ref (a 9)), (1, .int v1), (3, .int v3)]) dX1_visitorsAt_40 rfl (by decide) rfl ?_
        refine g_iinc C (w := (1 : Int32)) (lv' := [(3, .int (v3 + (1 : Int32))), (2, .int t2), (0, .ref (a 9)), (1, .int v1)]) 3 dX1_visitorsAt_41 rfl ic_1 (by decide) rfl ?_
        refine g_goto C 4 dX1_visitorsAt_44 (by decide) ?_
        refine g_sub C (lv' := [(0, .ref (a 9)), (1, .int v1), (2, .int t2), (3, .int (v3 + (1 : Int32)))]) [2, 3, 1, 0] rfl ?_
        exact ih_4 σ v1 t2 (v3 + (1 : Int32))
      intro σ v1 v2 v3
      unfold fX1_visitorsAt_L4
      refine g_iload_n C 3 dX1_visitorsAt_4 rfl rfl ?_
      refine g_bipush C (v := (6 : Int32)) dX1_visitorsAt_5 (by decide) ?_
      refine g_icmp_ge C 47 dX1_visitorsAt_7 (by decide) (fun _ => ?_) (fun _ => ?_)
      · refine g_iload_n C 2 dX1_visitorsAt_47 rfl rfl ?_
        exact g_ret C ⟨dX1_visitorsAt_48, rfl, rfl⟩
      · refine g_iload_n C 2 dX1_visitorsAt_10 rfl rfl ?_
        refine g_aload_n C 0 dX1_visitorsAt_11 rfl rfl ?_
        refine g_get C (fun _ h => List.mem_cons_of_mem _ (List.mem_append_right _ h)) 9 (LWg_9 K a _) rfl 2 (by decide) (List.mem_of_getElem? (i := 1) rfl) rfl rfl dX1_visitorsAt_12 ?_
        refine g_iload_n C 3 dX1_visitorsAt_15 rfl rfl ?_
        refine g_ialdG C 11 0 (LWg_11 K a _) rfl dX1_visitorsAt_16 ?_
        refine g_iconst C (v := (1 : Int32)) dX1_visitorsAt_17 ic_1 ?_
        refine g_icmp_ne C 35 dX1_visitorsAt_18 (by decide) (fun _ => ?_) (fun _ => ?_)
        · refine g_aload_n C 0 dX1_visitorsAt_21 rfl rfl ?_
          refine g_get C (fun _ h => List.mem_cons_of_mem _ (List.mem_append_right _ h)) 9 (LWg_9 K a _) rfl 3 (by decide) (List.mem_of_getElem? (i := 2) rfl) rfl rfl dX1_visitorsAt_22 ?_
          refine g_iload_n C 3 dX1_visitorsAt_25 rfl rfl ?_
          refine g_ialdG C 12 0 (LWg_12 K a _) rfl dX1_visitorsAt_26 ?_
          refine g_iload_n C 1 dX1_visitorsAt_27 rfl rfl ?_
          refine g_icmp_ne C 35 dX1_visitorsAt_28 (by decide) (fun _ => ?_) (fun _ => ?_)
          · refine g_iconst C (v := (1 : Int32)) dX1_visitorsAt_31 ic_1 ?_
            refine g_goto C 36 dX1_visitorsAt_32 (by decide) ?_
            refine g_callNi C (n := 1) (As := [.int (1 : Int32)]) (rest := [.int v2]) (fun r h => mX3_oneIf l D K _ r h) gE.nil (τ := ()) gX1_visitorsAt_X3_oneIf_n79 (List.mem_of_getElem? (i := 6) rfl) (List.mem_of_getElem? (i := 4) rfl) (List.mem_of_getElem? (i := 3) rfl) rfl (by decide +kernel) ⟨Nat.le_of_ble_eq_true rfl, Nat.le_of_ble_eq_true rfl, rfl, rfl⟩ rfl rfl (Nat.le_of_ble_eq_true rfl) dX1_visitorsAt_36 (fun r3 _ => ?_)
            refine g_iadd C dX1_visitorsAt_39 ?_
            refine g_topi (fun t4 => ?_)
            refine g_istore_n C (lv' := [(2, .int t4), (0, .ref (a 9)), (1, .int v1), (3, .int v3)]) dX1_visitorsAt_40 rfl (by decide) rfl ?_
            refine g_iinc C (w := (1 : Int32)) (lv' := [(3, .int (v3 + (1 : Int32))), (2, .int t4), (0, .ref (a 9)), (1, .int v1)]) 3 dX1_visitorsAt_41 rfl ic_1 (by decide) rfl ?_
            refine g_goto C 4 dX1_visitorsAt_44 (by decide) ?_
            refine g_sub C (lv' := [(0, .ref (a 9)), (1, .int v1), (2, .int t4), (3, .int (v3 + (1 : Int32)))]) [2, 3, 1, 0] rfl ?_
            exact ih_4 σ v1 t4 (v3 + (1 : Int32))
          · refine g_sub C (lv' := [(0, .ref (a 9)), (1, .int v1), (3, .int v3)]) [0, 1, 3] rfl ?_
            exact h_35 σ v1 v3 v2
        · refine g_sub C (lv' := [(0, .ref (a 9)), (1, .int v1), (3, .int v3)]) [0, 1, 3] rfl ?_
          exact h_35 σ v1 v3 v2
  refine g_iconst C (v := (0 : Int32)) dX1_visitorsAt_0 ic_0 ?_
  refine g_istore_n C (lv' := [(2, .int (0 : Int32)), (0, .ref (a 9)), (1, .int p1)]) dX1_visitorsAt_1 rfl (by decide) rfl ?_
  refine g_iconst C (v := (0 : Int32)) dX1_visitorsAt_2 ic_0 ?_
  refine g_istore_n C (lv' := [(3, .int (0 : Int32)), (2, .int (0 : Int32)), (0, .ref (a 9)), (1, .int p1)]) dX1_visitorsAt_3 rfl (by decide) rfl ?_
  refine g_sub C (lv' := [(0, .ref (a 9)), (1, .int p1), (2, .int (0 : Int32)), (3, .int (0 : Int32))]) [2, 3, 1, 0] rfl ?_
  exact h_4 gFuel σ p1 (0 : Int32) (0 : Int32)
set_option maxHeartbeats 4000000 in
set_option maxRecDepth 100000 in
theorem mX1_isBookInside (l : Launch) (D : va_G) (K : Nat → ClassId) (a : Nat → Nat) (σ : gS) (p1 : Int32) (r : (Int32 × gS)) (hf : fX1_isBookInside σ p1 = some r) : gMi l yX1_isBookInside wsX1_isBookInside { frames := 1, cells := 0, slots := 0, locals := 21 } D (gT K) (LW K a) [.ref (a 9), .int p1] σ r := by
  refine mk_z (nL := 3) (cc := cX1_isBookInside) (by decide) rfl (Nat.le_of_ble_eq_true rfl) rfl rfl hf (fun g C => ?_)
  refine g_sub C (lv' := [(0, .ref (a 9)), (1, .int p1)]) [0, 1] rfl ?_
  unfold fX1_isBookInside
  have h_2 : ∀ (n : Nat) (σ : gS) (v1 : Int32) (v2 : Int32), g (fX1_isBookInside_L2 n σ v1 v2) 2 [(0, .ref (a 9)), (1, .int v1), (2, .int v2)] [] σ := by
    intro n
    induction n with
    | zero =>
      intro σ v1 v2
      exact g_none C
    | succ n2 ih_2 =>
      intro σ v1 v2
      unfold fX1_isBookInside_L2
      refine g_iload_n C 2 dX1_isBookInside_2 rfl rfl ?_
      refine g_bipush C (v := (6 : Int32)) dX1_isBookInside_3 (by decide) ?_
      refine g_icmp_ge C 42 dX1_isBookInside_5 (by decide) (fun _ => ?_) (fun _ => ?_)
      · refine g_iconst C (v := (1 : Int32)) dX1_isBookInside_42 ic_1 ?_
        exact g_ret C ⟨dX1_isBookInside_43, rfl, rfl, Or.inr rfl⟩
      · refine g_aload_n C 0 dX1_isBookInside_8 rfl rfl ?_
        refine g_get C (fun _ h => List.mem_cons_of_mem _ (List.mem_append_right _ h)) 9 (LWg_9 K a _) rfl 1 (by decide) (List.mem_of_getElem? (i := 1) rfl) rfl rfl dX1_isBookInside_9 ?_
        refine g_iload_n C 2 dX1_isBookInside_12 rfl rfl ?_
        refine g_ialdG C 10 0 (LWg_10 K a _) rfl dX1_isBookInside_13 ?_
        refine g_iload_n C 1 dX1_isBookInside_14 rfl rfl ?_
        refine g_callNi C (n := 2) (As := [.int (σ 10 v2.toNatClampNeg), .int v1]) (rest := []) (fun r h => mX3_has l D K _ _ r h) gE.nil (τ := ()) gX1_isBookInside_X3_has_n75 (List.mem_of_getElem? (i := 5) rfl) (List.mem_of_getElem? (i := 4) rfl) (List.mem_of_getElem? (i := 3) rfl) rfl (by decide +kernel) ⟨Nat.le_of_ble_eq_true rfl, Nat.le_of_ble_eq_true rfl, rfl, rfl⟩ rfl rfl (Nat.le_of_ble_eq_true rfl) dX1_isBookInside_15 (fun r1 _ => ?_)
        refine g_if_eq C 36 dX1_isBookInside_18 (by decide) (fun _ => ?_) (fun _ => ?_)
        · refine g_iinc C (w := (1 : Int32)) (lv' := [(2, .int (v2 + (1 : Int32))), (0, .ref (a 9)), (1, .int v1)]) 2 dX1_isBookInside_36 rfl ic_1 (by decide) rfl ?_
          refine g_goto C 2 dX1_isBookInside_39 (by decide) ?_
          refine g_sub C (lv' := [(0, .ref (a 9)), (1, .int v1), (2, .int (v2 + (1 : Int32)))]) [1, 2, 0] rfl ?_
          exact ih_2 σ v1 (v2 + (1 : Int32))
        · refine g_aload_n C 0 dX1_isBookInside_21 rfl rfl ?_
          refine g_get C (fun _ h => List.mem_cons_of_mem _ (List.mem_append_right _ h)) 9 (LWg_9 K a _) rfl 2 (by decide) (List.mem_of_getElem? (i := 2) rfl) rfl rfl dX1_isBookInside_22 ?_
          refine g_iload_n C 2 dX1_isBookInside_25 rfl rfl ?_
          refine g_ialdG C 11 0 (LWg_11 K a _) rfl dX1_isBookInside_26 ?_
          refine g_if_ne C 34 dX1_isBookInside_27 (by decide) (fun _ => ?_) (fun _ => ?_)
          · refine g_iconst C (v := (1 : Int32)) dX1_isBookInside_30 ic_1 ?_
            refine g_goto C 35 dX1_isBookInside_31 (by decide) ?_
            exact g_ret C ⟨dX1_isBookInside_35, rfl, rfl, Or.inr rfl⟩
          · refine g_iconst C (v := (0 : Int32)) dX1_isBookInside_34 ic_0 ?_
            exact g_ret C ⟨dX1_isBookInside_35, rfl, rfl, Or.inl rfl⟩
  refine g_iconst C (v := (0 : Int32)) dX1_isBookInside_0 ic_0 ?_
  refine g_istore_n C (lv' := [(2, .int (0 : Int32)), (0, .ref (a 9)), (1, .int p1)]) dX1_isBookInside_1 rfl (by decide) rfl ?_
  refine g_sub C (lv' := [(0, .ref (a 9)), (1, .int p1), (2, .int (0 : Int32))]) [1, 2, 0] rfl ?_
  exact h_2 gFuel σ p1 (0 : Int32)
set_option maxHeartbeats 4000000 in
set_option maxRecDepth 100000 in
theorem mX1_canTake (l : Launch) (D : va_G) (K : Nat → ClassId) (a : Nat → Nat) (σ : gS) (p1 : Int32) (p2 : Int32) (r : (Int32 × gS)) (hf : fX1_canTake σ p1 p2 = some r) : gMi l yX1_canTake wsX1_canTake { frames := 2, cells := 0, slots := 0, locals := 43 } D (gT K) (LW K a) [.ref (a 9), .int p1, .int p2] σ r := by
  refine mk_z (nL := 3) (cc := cX1_canTake) (by decide) rfl (Nat.le_of_ble_eq_true rfl) rfl rfl hf (fun g C => ?_)
  refine g_sub C (lv' := [(0, .ref (a 9)), (1, .int p1), (2, .int p2)]) [0, 1, 2] rfl ?_
  unfold fX1_canTake
  refine g_iload_n C 1 dX1_canTake_0 rfl rfl ?_
  refine g_callNi C (n := 1) (As := [.int p1]) (rest := []) (fun r h => mX3_isVisitor l D K _ r h) gE.nil (τ := ()) gX1_canTake_X3_isVisitor_n83 (List.mem_of_getElem? (i := 7) rfl) (List.mem_of_getElem? (i := 4) rfl) (List.mem_of_getElem? (i := 3) rfl) rfl (by decide +kernel) ⟨Nat.le_of_ble_eq_true rfl, Nat.le_of_ble_eq_true rfl, rfl, rfl⟩ rfl rfl (Nat.le_of_ble_eq_true rfl) dX1_canTake_1 (fun r1 _ => ?_)
  refine g_if_eq C 51 dX1_canTake_4 (by decide) (fun _ => ?_) (fun _ => ?_)
  · refine g_iconst C (v := (0 : Int32)) dX1_canTake_51 ic_0 ?_
    exact g_ret C ⟨dX1_canTake_52, rfl, rfl, Or.inl rfl⟩
  · refine g_iload_n C 2 dX1_canTake_7 rfl rfl ?_
    refine g_callNi C (n := 1) (As := [.int p2]) (rest := []) (fun r h => mX3_isBook l D K _ r h) gE.nil (τ := ()) gX1_canTake_X3_isBook_n87 (List.mem_of_getElem? (i := 8) rfl) (List.mem_of_getElem? (i := 4) rfl) (List.mem_of_getElem? (i := 6) rfl) rfl (by decide +kernel) ⟨Nat.le_of_ble_eq_true rfl, Nat.le_of_ble_eq_true rfl, rfl, rfl⟩ rfl rfl (Nat.le_of_ble_eq_true rfl) dX1_canTake_8 (fun r2 _ => ?_)
    refine g_if_eq C 51 dX1_canTake_11 (by decide) (fun _ => ?_) (fun _ => ?_)
    · refine g_iconst C (v := (0 : Int32)) dX1_canTake_51 ic_0 ?_
      exact g_ret C ⟨dX1_canTake_52, rfl, rfl, Or.inl rfl⟩
    · refine g_aload_n C 0 dX1_canTake_14 rfl rfl ?_
      refine g_iload_n C 2 dX1_canTake_15 rfl rfl ?_
      refine g_callVi C (n := 1) (As := [.int p2]) (rest := []) (fun r h => mX1_holderOf l D K a _ _ r h) gE.same gX1_canTake_X1_holderOf rfl (by decide +kernel) ⟨Nat.le_of_ble_eq_true rfl, Nat.le_of_ble_eq_true rfl, rfl, rfl⟩ 9 (LWg_9 K a _) rfl rfl rfl (Nat.le_of_ble_eq_true rfl) dX1_canTake_16 (fun r3 _ => ?_)
      refine g_bipush C (v := (-9 : Int32)) dX1_canTake_19 (by decide) ?_
      refine g_icmp_ne C 51 dX1_canTake_21 (by decide) (fun _ => ?_) (fun _ => ?_)
      · refine g_aload_n C 0 dX1_canTake_24 rfl rfl ?_
        refine g_get C (fun _ h => List.mem_cons_of_mem _ (List.mem_append_right _ h)) 9 (LWg_9 K a _) rfl 2 (by decide) (List.mem_of_getElem? (i := 1) rfl) rfl rfl dX1_canTake_25 ?_
        refine g_iload_n C 1 dX1_canTake_28 rfl rfl ?_
        refine g_ialdG C 11 0 (LWg_11 K a _) rfl dX1_canTake_29 ?_
        refine g_if_ne C 51 dX1_canTake_30 (by decide) (fun _ => ?_) (fun _ => ?_)
        · refine g_aload_n C 0 dX1_canTake_33 rfl rfl ?_
          refine g_get C (fun _ h => List.mem_cons_of_mem _ (List.mem_append_right _ h)) 9 (LWg_9 K a _) rfl 1 (by decide) (List.mem_of_getElem? (i := 2) rfl) rfl rfl dX1_canTake_34 ?_
          refine g_iload_n C 1 dX1_canTake_37 rfl rfl ?_
          refine g_ialdG C 10 0 (LWg_10 K a _) rfl dX1_canTake_38 ?_
          refine g_callSi C (n := 1) (As := [.int (r3.2 10 p1.toNatClampNeg)]) (rest := []) (fun r h => mJ6_bitCount_0f7a4 l D K _ r h) gE.nil (τ := ()) gX1_canTake_J6_bitCount_0f7a4 rfl (by decide +kernel) ⟨Nat.le_of_ble_eq_true rfl, Nat.le_of_ble_eq_true rfl, rfl, rfl⟩ rfl rfl (Nat.le_of_ble_eq_true rfl) dX1_canTake_39 (fun r4 _ => ?_)
          refine g_bipush C (v := (6 : Int32)) dX1_canTake_42 (by decide) ?_
          refine g_icmp_ge C 51 dX1_canTake_44 (by decide) (fun _ => ?_) (fun _ => ?_)
          · refine g_iconst C (v := (0 : Int32)) dX1_canTake_51 ic_0 ?_
            exact g_ret C ⟨dX1_canTake_52, rfl, rfl, Or.inl rfl⟩
          · refine g_iconst C (v := (1 : Int32)) dX1_canTake_47 ic_1 ?_
            refine g_goto C 52 dX1_canTake_48 (by decide) ?_
            exact g_ret C ⟨dX1_canTake_52, rfl, rfl, Or.inr rfl⟩
        · refine g_iconst C (v := (0 : Int32)) dX1_canTake_51 ic_0 ?_
          exact g_ret C ⟨dX1_canTake_52, rfl, rfl, Or.inl rfl⟩
      · refine g_iconst C (v := (0 : Int32)) dX1_canTake_51 ic_0 ?_
        exact g_ret C ⟨dX1_canTake_52, rfl, rfl, Or.inl rfl⟩
set_option maxHeartbeats 4000000 in
set_option maxRecDepth 100000 in
theorem mX1_canPutBack (l : Launch) (D : va_G) (K : Nat → ClassId) (a : Nat → Nat) (σ : gS) (p1 : Int32) (r : (Int32 × gS)) (hf : fX1_canPutBack σ p1 = some r) : gMi l yX1_canPutBack wsX1_canPutBack { frames := 2, cells := 0, slots := 0, locals := 43 } D (gT K) (LW K a) [.ref (a 9), .int p1] σ r := by
  refine mk_z (nL := 2) (cc := cX1_canPutBack) (by decide) rfl (Nat.le_of_ble_eq_true rfl) rfl rfl hf (fun g C => ?_)
  refine g_sub C (lv' := [(0, .ref (a 9)), (1, .int p1)]) [0, 1] rfl ?_
  unfold fX1_canPutBack
  refine g_iload_n C 1 dX1_canPutBack_0 rfl rfl ?_
  refine g_callNi C (n := 1) (As := [.int p1]) (rest := []) (fun r h => mX3_isBook l D K _ r h) gE.nil (τ := ()) gX1_canPutBack_X3_isBook_n87 (List.mem_of_getElem? (i := 8) rfl) (List.mem_of_getElem? (i := 2) rfl) (List.mem_of_getElem? (i := 1) rfl) rfl (by decide +kernel) ⟨Nat.le_of_ble_eq_true rfl, Nat.le_of_ble_eq_true rfl, rfl, rfl⟩ rfl rfl (Nat.le_of_ble_eq_true rfl) dX1_canPutBack_1 (fun r1 _ => ?_)
  refine g_if_eq C 29 dX1_canPutBack_4 (by decide) (fun _ => ?_) (fun _ => ?_)
  · refine g_iconst C (v := (0 : Int32)) dX1_canPutBack_29 ic_0 ?_
    exact g_ret C ⟨dX1_canPutBack_30, rfl, rfl, Or.inl rfl⟩
  · refine g_aload_n C 0 dX1_canPutBack_7 rfl rfl ?_
    refine g_iload_n C 1 dX1_canPutBack_8 rfl rfl ?_
    refine g_callVi C (n := 1) (As := [.int p1]) (rest := []) (fun r h => mX1_holderOf l D K a _ _ r h) gE.same gX1_canPutBack_X1_holderOf rfl (by decide +kernel) ⟨Nat.le_of_ble_eq_true rfl, Nat.le_of_ble_eq_true rfl, rfl, rfl⟩ 9 (LWg_9 K a _) rfl rfl rfl (Nat.le_of_ble_eq_true rfl) dX1_canPutBack_9 (fun r2 _ => ?_)
    refine g_bipush C (v := (-9 : Int32)) dX1_canPutBack_12 (by decide) ?_
    refine g_icmp_eq C 29 dX1_canPutBack_14 (by decide) (fun _ => ?_) (fun _ => ?_)
    · refine g_iconst C (v := (0 : Int32)) dX1_canPutBack_29 ic_0 ?_
      exact g_ret C ⟨dX1_canPutBack_30, rfl, rfl, Or.inl rfl⟩
    · refine g_aload_n C 0 dX1_canPutBack_17 rfl rfl ?_
      refine g_iload_n C 1 dX1_canPutBack_18 rfl rfl ?_
      refine g_callVi C (n := 1) (As := [.int p1]) (rest := []) (fun r h => mX1_isBookInside l D K a _ _ r h) gE.same gX1_canPutBack_X1_isBookInside rfl (by decide +kernel) ⟨Nat.le_of_ble_eq_true rfl, Nat.le_of_ble_eq_true rfl, rfl, rfl⟩ 9 (LWg_9 K a _) rfl rfl rfl (Nat.le_of_ble_eq_true rfl) dX1_canPutBack_19 (fun r3 _ => ?_)
      refine g_if_eq C 29 dX1_canPutBack_22 (by decide) (fun _ => ?_) (fun _ => ?_)
      · refine g_iconst C (v := (0 : Int32)) dX1_canPutBack_29 ic_0 ?_
        exact g_ret C ⟨dX1_canPutBack_30, rfl, rfl, Or.inl rfl⟩
      · refine g_iconst C (v := (1 : Int32)) dX1_canPutBack_25 ic_1 ?_
        refine g_goto C 30 dX1_canPutBack_26 (by decide) ?_
        exact g_ret C ⟨dX1_canPutBack_30, rfl, rfl, Or.inr rfl⟩
set_option maxHeartbeats 4000000 in
set_option maxRecDepth 100000 in
theorem mX1_canBorrow (l : Launch) (D : va_G) (K : Nat → ClassId) (a : Nat → Nat) (σ : gS) (p1 : Int32) (r : (Int32 × gS)) (hf : fX1_canBorrow σ p1 = some r) : gMi l yX1_canBorrow wsX1_canBorrow { frames := 2, cells := 0, slots := 0, locals := 43 } D (gT K) (LW K a) [.ref (a 9), .int p1] σ r := by
  refine mk_z (nL := 2) (cc := cX1_canBorrow) (by decide) rfl (Nat.le_of_ble_eq_true rfl) rfl rfl hf (fun g C => ?_)
  refine g_sub C (lv' := [(0, .ref (a 9)), (1, .int p1)]) [0, 1] rfl ?_
  unfold fX1_canBorrow
  refine g_iload_n C 1 dX1_canBorrow_0 rfl rfl ?_
  refine g_callNi C (n := 1) (As := [.int p1]) (rest := []) (fun r h => mX3_isBook l D K _ r h) gE.nil (τ := ()) gX1_canBorrow_X3_isBook_n87 (List.mem_of_getElem? (i := 8) rfl) (List.mem_of_getElem? (i := 3) rfl) (List.mem_of_getElem? (i := 2) rfl) rfl (by decide +kernel) ⟨Nat.le_of_ble_eq_true rfl, Nat.le_of_ble_eq_true rfl, rfl, rfl⟩ rfl rfl (Nat.le_of_ble_eq_true rfl) dX1_canBorrow_1 (fun r1 _ => ?_)
  refine g_if_eq C 30 dX1_canBorrow_4 (by decide) (fun _ => ?_) (fun _ => ?_)
  · refine g_iconst C (v := (0 : Int32)) dX1_canBorrow_30 ic_0 ?_
    exact g_ret C ⟨dX1_canBorrow_31, rfl, rfl, Or.inl rfl⟩
  · refine g_aload_n C 0 dX1_canBorrow_7 rfl rfl ?_
    refine g_get C (fun _ h => List.mem_cons_of_mem _ (List.mem_append_right _ h)) 9 (LWg_9 K a _) rfl 8 (by decide) (List.mem_of_getElem? (i := 1) rfl) rfl rfl dX1_canBorrow_8 ?_
    refine g_iload_n C 1 dX1_canBorrow_11 rfl rfl ?_
    refine g_callNi C (n := 2) (As := [.int (σ 9 8), .int p1]) (rest := []) (fun r h => mX3_has l D K _ _ r h) gE.nil (τ := ()) gX1_canBorrow_X3_has_n75 (List.mem_of_getElem? (i := 5) rfl) (List.mem_of_getElem? (i := 3) rfl) (List.mem_of_getElem? (i := 5) rfl) rfl (by decide +kernel) ⟨Nat.le_of_ble_eq_true rfl, Nat.le_of_ble_eq_true rfl, rfl, rfl⟩ rfl rfl (Nat.le_of_ble_eq_true rfl) dX1_canBorrow_12 (fun r2 _ => ?_)
    refine g_if_ne C 30 dX1_canBorrow_15 (by decide) (fun _ => ?_) (fun _ => ?_)
    · refine g_aload_n C 0 dX1_canBorrow_18 rfl rfl ?_
      refine g_iload_n C 1 dX1_canBorrow_19 rfl rfl ?_
      refine g_callVi C (n := 1) (As := [.int p1]) (rest := []) (fun r h => mX1_isBookInside l D K a _ _ r h) gE.same gX1_canBorrow_X1_isBookInside rfl (by decide +kernel) ⟨Nat.le_of_ble_eq_true rfl, Nat.le_of_ble_eq_true rfl, rfl, rfl⟩ 9 (LWg_9 K a _) rfl rfl rfl (Nat.le_of_ble_eq_true rfl) dX1_canBorrow_20 (fun r3 _ => ?_)
      refine g_if_eq C 30 dX1_canBorrow_23 (by decide) (fun _ => ?_) (fun _ => ?_)
      · refine g_iconst C (v := (0 : Int32)) dX1_canBorrow_30 ic_0 ?_
        exact g_ret C ⟨dX1_canBorrow_31, rfl, rfl, Or.inl rfl⟩
      · refine g_iconst C (v := (1 : Int32)) dX1_canBorrow_26 ic_1 ?_
        refine g_goto C 31 dX1_canBorrow_27 (by decide) ?_
        exact g_ret C ⟨dX1_canBorrow_31, rfl, rfl, Or.inr rfl⟩
    · refine g_iconst C (v := (0 : Int32)) dX1_canBorrow_30 ic_0 ?_
      exact g_ret C ⟨dX1_canBorrow_31, rfl, rfl, Or.inl rfl⟩
set_option maxHeartbeats 4000000 in
set_option maxRecDepth 100000 in
theorem mX1_canBringBack (l : Launch) (D : va_G) (K : Nat → ClassId) (a : Nat → Nat) (σ : gS) (p1 : Int32) (r : (Int32 × gS)) (hf : fX1_canBringBack σ p1 = some r) : gMi l yX1_canBringBack wsX1_canBringBack { frames := 2, cells := 0, slots := 0, locals := 43 } D (gT K) (LW K a) [.ref (a 9), .int p1] σ r := by
  refine mk_z (nL := 2) (cc := cX1_canBringBack) (by decide) rfl (Nat.le_of_ble_eq_true rfl) rfl rfl hf (fun g C => ?_)
  refine g_sub C (lv' := [(0, .ref (a 9)), (1, .int p1)]) [0, 1] rfl ?_
  unfold fX1_canBringBack
  refine g_iload_n C 1 dX1_canBringBack_0 rfl rfl ?_
  refine g_callNi C (n := 1) (As := [.int p1]) (rest := []) (fun r h => mX3_isBook l D K _ r h) gE.nil (τ := ()) gX1_canBringBack_X3_isBook_n87 (List.mem_of_getElem? (i := 8) rfl) (List.mem_of_getElem? (i := 3) rfl) (List.mem_of_getElem? (i := 2) rfl) rfl (by decide +kernel) ⟨Nat.le_of_ble_eq_true rfl, Nat.le_of_ble_eq_true rfl, rfl, rfl⟩ rfl rfl (Nat.le_of_ble_eq_true rfl) dX1_canBringBack_1 (fun r1 _ => ?_)
  refine g_if_eq C 30 dX1_canBringBack_4 (by decide) (fun _ => ?_) (fun _ => ?_)
  · refine g_iconst C (v := (0 : Int32)) dX1_canBringBack_30 ic_0 ?_
    exact g_ret C ⟨dX1_canBringBack_31, rfl, rfl, Or.inl rfl⟩
  · refine g_aload_n C 0 dX1_canBringBack_7 rfl rfl ?_
    refine g_get C (fun _ h => List.mem_cons_of_mem _ (List.mem_append_right _ h)) 9 (LWg_9 K a _) rfl 8 (by decide) (List.mem_of_getElem? (i := 1) rfl) rfl rfl dX1_canBringBack_8 ?_
    refine g_iload_n C 1 dX1_canBringBack_11 rfl rfl ?_
    refine g_callNi C (n := 2) (As := [.int (σ 9 8), .int p1]) (rest := []) (fun r h => mX3_has l D K _ _ r h) gE.nil (τ := ()) gX1_canBringBack_X3_has_n75 (List.mem_of_getElem? (i := 5) rfl) (List.mem_of_getElem? (i := 3) rfl) (List.mem_of_getElem? (i := 5) rfl) rfl (by decide +kernel) ⟨Nat.le_of_ble_eq_true rfl, Nat.le_of_ble_eq_true rfl, rfl, rfl⟩ rfl rfl (Nat.le_of_ble_eq_true rfl) dX1_canBringBack_12 (fun r2 _ => ?_)
    refine g_if_eq C 30 dX1_canBringBack_15 (by decide) (fun _ => ?_) (fun _ => ?_)
    · refine g_iconst C (v := (0 : Int32)) dX1_canBringBack_30 ic_0 ?_
      exact g_ret C ⟨dX1_canBringBack_31, rfl, rfl, Or.inl rfl⟩
    · refine g_aload_n C 0 dX1_canBringBack_18 rfl rfl ?_
      refine g_iload_n C 1 dX1_canBringBack_19 rfl rfl ?_
      refine g_callVi C (n := 1) (As := [.int p1]) (rest := []) (fun r h => mX1_isBookInside l D K a _ _ r h) gE.same gX1_canBringBack_X1_isBookInside rfl (by decide +kernel) ⟨Nat.le_of_ble_eq_true rfl, Nat.le_of_ble_eq_true rfl, rfl, rfl⟩ 9 (LWg_9 K a _) rfl rfl rfl (Nat.le_of_ble_eq_true rfl) dX1_canBringBack_20 (fun r3 _ => ?_)
      refine g_if_eq C 30 dX1_canBringBack_23 (by decide) (fun _ => ?_) (fun _ => ?_)
      · refine g_iconst C (v := (0 : Int32)) dX1_canBringBack_30 ic_0 ?_
        exact g_ret C ⟨dX1_canBringBack_31, rfl, rfl, Or.inl rfl⟩
      · refine g_iconst C (v := (1 : Int32)) dX1_canBringBack_26 ic_1 ?_
        refine g_goto C 31 dX1_canBringBack_27 (by decide) ?_
        exact g_ret C ⟨dX1_canBringBack_31, rfl, rfl, Or.inr rfl⟩
set_option maxHeartbeats 4000000 in
set_option maxRecDepth 100000 in
theorem mX1_canWalk (l : Launch) (D : va_G) (K : Nat → ClassId) (a : Nat → Nat) (σ : gS) (p1 : Int32) (p2 : Int32) (p3 : Int32) (r : (Int32 × gS)) (hf : fX1_canWalk σ p1 p2 p3 = some r) : gMi l yX1_canWalk wsX1_canWalk { frames := 1, cells := 0, slots := 0, locals := 20 } D (gT K) (LW K a) [.ref (a 9), .int p1, .int p2, .int p3] σ r := by
  refine mk_z (nL := 4) (cc := cX1_canWalk) (by decide) rfl (Nat.le_of_ble_eq_true rfl) rfl rfl hf (fun g C => ?_)
  refine g_sub C (lv' := [(0, .ref (a 9)), (1, .int p1), (2, .int p2), (3, .int p3)]) [0, 1, 2, 3] rfl ?_
  unfold fX1_canWalk
  refine g_iload_n C 1 dX1_canWalk_0 rfl rfl ?_
  refine g_callNi C (n := 1) (As := [.int p1]) (rest := []) (fun r h => mX3_isVisitor l D K _ r h) gE.nil (τ := ()) gX1_canWalk_X3_isVisitor_n83 (List.mem_of_getElem? (i := 7) rfl) (List.mem_of_getElem? (i := 3) rfl) (List.mem_of_getElem? (i := 2) rfl) rfl (by decide +kernel) ⟨Nat.le_of_ble_eq_true rfl, Nat.le_of_ble_eq_true rfl, rfl, rfl⟩ rfl rfl (Nat.le_of_ble_eq_true rfl) dX1_canWalk_1 (fun r1 _ => ?_)
  refine g_if_eq C 36 dX1_canWalk_4 (by decide) (fun _ => ?_) (fun _ => ?_)
  · refine g_iconst C (v := (0 : Int32)) dX1_canWalk_36 ic_0 ?_
    exact g_ret C ⟨dX1_canWalk_37, rfl, rfl, Or.inl rfl⟩
  · refine g_iload_n C 2 dX1_canWalk_7 rfl rfl ?_
    refine g_callNi C (n := 1) (As := [.int p2]) (rest := []) (fun r h => mX3_isGate l D K _ r h) gE.nil (τ := ()) gX1_canWalk_X3_isGate_n102 (List.mem_of_getElem? (i := 9) rfl) (List.mem_of_getElem? (i := 3) rfl) (List.mem_of_getElem? (i := 5) rfl) rfl (by decide +kernel) ⟨Nat.le_of_ble_eq_true rfl, Nat.le_of_ble_eq_true rfl, rfl, rfl⟩ rfl rfl (Nat.le_of_ble_eq_true rfl) dX1_canWalk_8 (fun r2 _ => ?_)
    refine g_if_eq C 36 dX1_canWalk_11 (by decide) (fun _ => ?_) (fun _ => ?_)
    · refine g_iconst C (v := (0 : Int32)) dX1_canWalk_36 ic_0 ?_
      exact g_ret C ⟨dX1_canWalk_37, rfl, rfl, Or.inl rfl⟩
    · refine g_aload_n C 0 dX1_canWalk_14 rfl rfl ?_
      refine g_get C (fun _ h => List.mem_cons_of_mem _ (List.mem_append_right _ h)) 9 (LWg_9 K a _) rfl 2 (by decide) (List.mem_of_getElem? (i := 1) rfl) rfl rfl dX1_canWalk_15 ?_
      refine g_iload_n C 1 dX1_canWalk_18 rfl rfl ?_
      refine g_ialdG C 11 0 (LWg_11 K a _) rfl dX1_canWalk_19 ?_
      refine g_iload_n C 3 dX1_canWalk_20 rfl rfl ?_
      refine g_if_eq C 28 dX1_canWalk_21 (by decide) (fun _ => ?_) (fun _ => ?_)
      · refine g_iconst C (v := (2 : Int32)) dX1_canWalk_28 ic_2 ?_
        refine g_icmp_ne C 36 dX1_canWalk_29 (by decide) (fun _ => ?_) (fun _ => ?_)
        · refine g_iconst C (v := (1 : Int32)) dX1_canWalk_32 ic_1 ?_
          refine g_goto C 37 dX1_canWalk_33 (by decide) ?_
          exact g_ret C ⟨dX1_canWalk_37, rfl, rfl, Or.inr rfl⟩
        · refine g_iconst C (v := (0 : Int32)) dX1_canWalk_36 ic_0 ?_
          exact g_ret C ⟨dX1_canWalk_37, rfl, rfl, Or.inl rfl⟩
      · refine g_iconst C (v := (0 : Int32)) dX1_canWalk_24 ic_0 ?_
        refine g_goto C 29 dX1_canWalk_25 (by decide) ?_
        refine g_icmp_ne C 36 dX1_canWalk_29 (by decide) (fun _ => ?_) (fun _ => ?_)
        · refine g_iconst C (v := (1 : Int32)) dX1_canWalk_32 ic_1 ?_
          refine g_goto C 37 dX1_canWalk_33 (by decide) ?_
          exact g_ret C ⟨dX1_canWalk_37, rfl, rfl, Or.inr rfl⟩
        · refine g_iconst C (v := (0 : Int32)) dX1_canWalk_36 ic_0 ?_
          exact g_ret C ⟨dX1_canWalk_37, rfl, rfl, Or.inl rfl⟩
set_option maxHeartbeats 4000000 in
set_option maxRecDepth 100000 in
theorem mX1_canTurn (l : Launch) (D : va_G) (K : Nat → ClassId) (a : Nat → Nat) (σ : gS) (p1 : Int32) (r : (Int32 × gS)) (hf : fX1_canTurn σ p1 = some r) : gMi l yX1_canTurn wsX1_canTurn { frames := 1, cells := 0, slots := 0, locals := 20 } D (gT K) (LW K a) [.ref (a 9), .int p1] σ r := by
  refine mk_z (nL := 2) (cc := cX1_canTurn) (by decide) rfl (Nat.le_of_ble_eq_true rfl) rfl rfl hf (fun g C => ?_)
  refine g_sub C (lv' := [(0, .ref (a 9)), (1, .int p1)]) [0, 1] rfl ?_
  unfold fX1_canTurn
  refine g_iload_n C 1 dX1_canTurn_0 rfl rfl ?_
  refine g_callNi C (n := 1) (As := [.int p1]) (rest := []) (fun r h => mX3_isVisitor l D K _ r h) gE.nil (τ := ()) gX1_canTurn_X3_isVisitor_n83 (List.mem_of_getElem? (i := 7) rfl) (List.mem_of_getElem? (i := 3) rfl) (List.mem_of_getElem? (i := 2) rfl) rfl (by decide +kernel) ⟨Nat.le_of_ble_eq_true rfl, Nat.le_of_ble_eq_true rfl, rfl, rfl⟩ rfl rfl (Nat.le_of_ble_eq_true rfl) dX1_canTurn_1 (fun r1 _ => ?_)
  refine g_if_eq C 21 dX1_canTurn_4 (by decide) (fun _ => ?_) (fun _ => ?_)
  · refine g_iconst C (v := (0 : Int32)) dX1_canTurn_21 ic_0 ?_
    exact g_ret C ⟨dX1_canTurn_22, rfl, rfl, Or.inl rfl⟩
  · refine g_aload_n C 0 dX1_canTurn_7 rfl rfl ?_
    refine g_get C (fun _ h => List.mem_cons_of_mem _ (List.mem_append_right _ h)) 9 (LWg_9 K a _) rfl 2 (by decide) (List.mem_of_getElem? (i := 1) rfl) rfl rfl dX1_canTurn_8 ?_
    refine g_iload_n C 1 dX1_canTurn_11 rfl rfl ?_
    refine g_ialdG C 11 0 (LWg_11 K a _) rfl dX1_canTurn_12 ?_
    refine g_iconst C (v := (1 : Int32)) dX1_canTurn_13 ic_1 ?_
    refine g_icmp_ne C 21 dX1_canTurn_14 (by decide) (fun _ => ?_) (fun _ => ?_)
    · refine g_iconst C (v := (1 : Int32)) dX1_canTurn_17 ic_1 ?_
      refine g_goto C 22 dX1_canTurn_18 (by decide) ?_
      exact g_ret C ⟨dX1_canTurn_22, rfl, rfl, Or.inr rfl⟩
    · refine g_iconst C (v := (0 : Int32)) dX1_canTurn_21 ic_0 ?_
      exact g_ret C ⟨dX1_canTurn_22, rfl, rfl, Or.inl rfl⟩
set_option maxHeartbeats 4000000 in
set_option maxRecDepth 100000 in
theorem mX1_tryTake (l : Launch) (D : va_G) (K : Nat → ClassId) (a : Nat → Nat) (σ : gS) (p1 : Int32) (p2 : Int32) (r : (Int32 × gS)) (hf : fX1_tryTake σ p1 p2 = some r) : gMi l yX1_tryTake wsX1_tryTake { frames := 3, cells := 0, slots := 0, locals := 65 } D (gT K) (LW K a) [.ref (a 9), .int p1, .int p2] σ r := by
  refine mk_z (nL := 3) (cc := cX1_tryTake) (by decide) rfl (Nat.le_of_ble_eq_true rfl) rfl rfl hf (fun g C => ?_)
  refine g_sub C (lv' := [(0, .ref (a 9)), (1, .int p1), (2, .int p2)]) [0, 1, 2] rfl ?_
  unfold fX1_tryTake
  refine g_aload_n C 0 dX1_tryTake_0 rfl rfl ?_
  refine g_iload_n C 1 dX1_tryTake_1 rfl rfl ?_
  refine g_iload_n C 2 dX1_tryTake_2 rfl rfl ?_
  refine g_callVi C (n := 2) (As := [.int p1, .int p2]) (rest := []) (fun r h => mX1_canTake l D K a _ _ _ r h) gE.same gX1_tryTake_X1_canTake rfl (by decide +kernel) ⟨Nat.le_of_ble_eq_true rfl, Nat.le_of_ble_eq_true rfl, rfl, rfl⟩ 9 (LWg_9 K a _) rfl rfl rfl (Nat.le_of_ble_eq_true rfl) dX1_tryTake_3 (fun r1 _ => ?_)
  refine g_if_ne C 11 dX1_tryTake_6 (by decide) (fun _ => ?_) (fun _ => ?_)
  · refine g_iconst C (v := (0 : Int32)) dX1_tryTake_9 ic_0 ?_
    exact g_ret C ⟨dX1_tryTake_10, rfl, rfl, Or.inl rfl⟩
  · refine g_aload_n C 0 dX1_tryTake_11 rfl rfl ?_
    refine g_get C (fun _ h => List.mem_cons_of_mem _ (List.mem_append_right _ h)) 9 (LWg_9 K a _) rfl 1 (by decide) (List.mem_of_getElem? (i := 1) rfl) rfl rfl dX1_tryTake_12 ?_
    refine g_iload_n C 1 dX1_tryTake_15 rfl rfl ?_
    refine g_dup2 C dX1_tryTake_16 rfl rfl ?_
    refine g_ialdG C 10 0 (LWg_10 K a _) rfl dX1_tryTake_17 ?_
    refine g_iload_n C 2 dX1_tryTake_18 rfl rfl ?_
    refine g_callNi C (n := 1) (As := [.int p2]) (rest := [.int (r1.2 10 p1.toNatClampNeg), .int p1, .ref (a 10)]) (fun r h => mX3_bit l D K _ r h) gE.nil (τ := ()) gX1_tryTake_X3_bit_n108 (List.mem_of_getElem? (i := 10) rfl) (List.mem_of_getElem? (i := 9) rfl) (List.mem_of_getElem? (i := 26) rfl) rfl (by decide +kernel) ⟨Nat.le_of_ble_eq_true rfl, Nat.le_of_ble_eq_true rfl, rfl, rfl⟩ rfl rfl (Nat.le_of_ble_eq_true rfl) dX1_tryTake_19 (fun r2 _ => ?_)
    refine g_ior C dX1_tryTake_22 ?_
    refine g_topi (fun t3 => ?_)
    refine g_iastG C 10 0 (LWg_10 K a _) rfl (LWs_10 K a _ _) dX1_tryTake_23 ?_
    refine g_state (fun u4 => ?_)
    refine g_iconst C (v := (1 : Int32)) dX1_tryTake_24 ic_1 ?_
    exact g_ret C ⟨dX1_tryTake_25, rfl, rfl, Or.inr rfl⟩
set_option maxHeartbeats 4000000 in
set_option maxRecDepth 100000 in
theorem mX1_tryPutBack (l : Launch) (D : va_G) (K : Nat → ClassId) (a : Nat → Nat) (σ : gS) (p1 : Int32) (r : (Int32 × gS)) (hf : fX1_tryPutBack σ p1 = some r) : gMi l yX1_tryPutBack wsX1_tryPutBack { frames := 3, cells := 0, slots := 0, locals := 64 } D (gT K) (LW K a) [.ref (a 9), .int p1] σ r := by
  refine mk_z (nL := 3) (cc := cX1_tryPutBack) (by decide) rfl (Nat.le_of_ble_eq_true rfl) rfl rfl hf (fun g C => ?_)
  refine g_sub C (lv' := [(0, .ref (a 9)), (1, .int p1)]) [0, 1] rfl ?_
  unfold fX1_tryPutBack
  have h_12 : ∀ (n : Nat) (σ : gS) (v1 : Int32) (v2 : Int32), g (fX1_tryPutBack_L12 n σ v1 v2) 12 [(0, .ref (a 9)), (1, .int v1), (2, .int v2)] [] σ := by
    intro n
    induction n with
    | zero =>
      intro σ v1 v2
      exact g_none C
    | succ n12 ih_12 =>
      intro σ v1 v2
      unfold fX1_tryPutBack_L12
      refine g_iload_n C 2 dX1_tryPutBack_12 rfl rfl ?_
      refine g_bipush C (v := (6 : Int32)) dX1_tryPutBack_13 (by decide) ?_
      refine g_icmp_ge C 39 dX1_tryPutBack_15 (by decide) (fun _ => ?_) (fun _ => ?_)
      · refine g_iconst C (v := (1 : Int32)) dX1_tryPutBack_39 ic_1 ?_
        exact g_ret C ⟨dX1_tryPutBack_40, rfl, rfl, Or.inr rfl⟩
      · refine g_aload_n C 0 dX1_tryPutBack_18 rfl rfl ?_
        refine g_get C (fun _ h => List.mem_cons_of_mem _ (List.mem_append_right _ h)) 9 (LWg_9 K a _) rfl 1 (by decide) (List.mem_of_getElem? (i := 1) rfl) rfl rfl dX1_tryPutBack_19 ?_
        refine g_iload_n C 2 dX1_tryPutBack_22 rfl rfl ?_
        refine g_dup2 C dX1_tryPutBack_23 rfl rfl ?_
        refine g_ialdG C 10 0 (LWg_10 K a _) rfl dX1_tryPutBack_24 ?_
        refine g_iload_n C 1 dX1_tryPutBack_25 rfl rfl ?_
        refine g_callNi C (n := 1) (As := [.int v1]) (rest := [.int (σ 10 v2.toNatClampNeg), .int v2, .ref (a 10)]) (fun r h => mX3_bit l D K _ r h) gE.nil (τ := ()) gX1_tryPutBack_X3_bit_n108 (List.mem_of_getElem? (i := 10) rfl) (List.mem_of_getElem? (i := 8) rfl) (List.mem_of_getElem? (i := 21) rfl) rfl (by decide +kernel) ⟨Nat.le_of_ble_eq_true rfl, Nat.le_of_ble_eq_true rfl, rfl, rfl⟩ rfl rfl (Nat.le_of_ble_eq_true rfl) dX1_tryPutBack_26 (fun r1 _ => ?_)
        refine g_iconst C (v := (-1 : Int32)) dX1_tryPutBack_29 ic_m1 ?_
        refine g_ixor C dX1_tryPutBack_30 ?_
        refine g_iand C dX1_tryPutBack_31 ?_
        refine g_topi (fun t2 => ?_)
        refine g_iastG C 10 0 (LWg_10 K a _) rfl (LWs_10 K a _ _) dX1_tryPutBack_32 ?_
        refine g_state (fun u3 => ?_)
        refine g_iinc C (w := (1 : Int32)) (lv' := [(2, .int (v2 + (1 : Int32))), (0, .ref (a 9)), (1, .int v1)]) 2 dX1_tryPutBack_33 rfl ic_1 (by decide) rfl ?_
        refine g_goto C 12 dX1_tryPutBack_36 (by decide) ?_
        refine g_sub C (lv' := [(0, .ref (a 9)), (1, .int v1), (2, .int (v2 + (1 : Int32)))]) [1, 2, 0] rfl ?_
        exact ih_12 u3 v1 (v2 + (1 : Int32))
  refine g_aload_n C 0 dX1_tryPutBack_0 rfl rfl ?_
  refine g_iload_n C 1 dX1_tryPutBack_1 rfl rfl ?_
  refine g_callVi C (n := 1) (As := [.int p1]) (rest := []) (fun r h => mX1_canPutBack l D K a _ _ r h) gE.same gX1_tryPutBack_X1_canPutBack rfl (by decide +kernel) ⟨Nat.le_of_ble_eq_true rfl, Nat.le_of_ble_eq_true rfl, rfl, rfl⟩ 9 (LWg_9 K a _) rfl rfl rfl (Nat.le_of_ble_eq_true rfl) dX1_tryPutBack_2 (fun r4 _ => ?_)
  refine g_if_ne C 10 dX1_tryPutBack_5 (by decide) (fun _ => ?_) (fun _ => ?_)
  · refine g_iconst C (v := (0 : Int32)) dX1_tryPutBack_8 ic_0 ?_
    exact g_ret C ⟨dX1_tryPutBack_9, rfl, rfl, Or.inl rfl⟩
  · refine g_iconst C (v := (0 : Int32)) dX1_tryPutBack_10 ic_0 ?_
    refine g_istore_n C (lv' := [(2, .int (0 : Int32)), (0, .ref (a 9)), (1, .int p1)]) dX1_tryPutBack_11 rfl (by decide) rfl ?_
    refine g_sub C (lv' := [(0, .ref (a 9)), (1, .int p1), (2, .int (0 : Int32))]) [1, 2, 0] rfl ?_
    exact h_12 gFuel r4.2 p1 (0 : Int32)
set_option maxHeartbeats 4000000 in
set_option maxRecDepth 100000 in
theorem mX1_tryBorrow (l : Launch) (D : va_G) (K : Nat → ClassId) (a : Nat → Nat) (σ : gS) (p1 : Int32) (r : (Int32 × gS)) (hf : fX1_tryBorrow σ p1 = some r) : gMi l yX1_tryBorrow wsX1_tryBorrow { frames := 3, cells := 0, slots := 0, locals := 64 } D (gT K) (LW K a) [.ref (a 9), .int p1] σ r := by
  refine mk_z (nL := 2) (cc := cX1_tryBorrow) (by decide) rfl (Nat.le_of_ble_eq_true rfl) rfl rfl hf (fun g C => ?_)
  refine g_sub C (lv' := [(0, .ref (a 9)), (1, .int p1)]) [0, 1] rfl ?_
  unfold fX1_tryBorrow
  refine g_aload_n C 0 dX1_tryBorrow_0 rfl rfl ?_
  refine g_iload_n C 1 dX1_tryBorrow_1 rfl rfl ?_
  refine g_callVi C (n := 1) (As := [.int p1]) (rest := []) (fun r h => mX1_canBorrow l D K a _ _ r h) gE.same gX1_tryBorrow_X1_canBorrow rfl (by decide +kernel) ⟨Nat.le_of_ble_eq_true rfl, Nat.le_of_ble_eq_true rfl, rfl, rfl⟩ 9 (LWg_9 K a _) rfl rfl rfl (Nat.le_of_ble_eq_true rfl) dX1_tryBorrow_2 (fun r1 _ => ?_)
  refine g_if_ne C 10 dX1_tryBorrow_5 (by decide) (fun _ => ?_) (fun _ => ?_)
  · refine g_iconst C (v := (0 : Int32)) dX1_tryBorrow_8 ic_0 ?_
    exact g_ret C ⟨dX1_tryBorrow_9, rfl, rfl, Or.inl rfl⟩
  · refine g_aload_n C 0 dX1_tryBorrow_10 rfl rfl ?_
    refine g_dup C dX1_tryBorrow_11 rfl ?_
    refine g_get C (fun _ h => List.mem_cons_of_mem _ (List.mem_append_right _ h)) 9 (LWg_9 K a _) rfl 8 (by decide) (List.mem_of_getElem? (i := 1) rfl) rfl rfl dX1_tryBorrow_12 ?_
    refine g_iload_n C 1 dX1_tryBorrow_15 rfl rfl ?_
    refine g_callNi C (n := 1) (As := [.int p1]) (rest := [.int (r1.2 9 8), .ref (a 9)]) (fun r h => mX3_bit l D K _ r h) gE.nil (τ := ()) gX1_tryBorrow_X3_bit_n108 (List.mem_of_getElem? (i := 10) rfl) (List.mem_of_getElem? (i := 8) rfl) (List.mem_of_getElem? (i := 18) rfl) rfl (by decide +kernel) ⟨Nat.le_of_ble_eq_true rfl, Nat.le_of_ble_eq_true rfl, rfl, rfl⟩ rfl rfl (Nat.le_of_ble_eq_true rfl) dX1_tryBorrow_16 (fun r2 _ => ?_)
    refine g_ior C dX1_tryBorrow_19 ?_
    refine g_topi (fun t3 => ?_)
    refine g_put C (ty := .int) (fun _ h => List.mem_cons_of_mem _ (List.mem_append_right _ h)) tyX1 tyX1_ok nmX1 9 (LWg_9 K a _) rfl 8 (by decide) (List.mem_of_getElem? (i := 1) rfl) rfl rfl (by decide +kernel) rfl rfl (Nat.le_of_ble_eq_true rfl) (LWp_9_8 K a _ _) dX1_tryBorrow_20 ?_
    refine g_state (fun u4 => ?_)
    refine g_iconst C (v := (1 : Int32)) dX1_tryBorrow_23 ic_1 ?_
    exact g_ret C ⟨dX1_tryBorrow_24, rfl, rfl, Or.inr rfl⟩
set_option maxHeartbeats 4000000 in
set_option maxRecDepth 100000 in
theorem mX1_tryBringBack (l : Launch) (D : va_G) (K : Nat → ClassId) (a : Nat → Nat) (σ : gS) (p1 : Int32) (r : (Int32 × gS)) (hf : fX1_tryBringBack σ p1 = some r) : gMi l yX1_tryBringBack wsX1_tryBringBack { frames := 3, cells := 0, slots := 0, locals := 64 } D (gT K) (LW K a) [.ref (a 9), .int p1] σ r := by
  refine mk_z (nL := 2) (cc := cX1_tryBringBack) (by decide) rfl (Nat.le_of_ble_eq_true rfl) rfl rfl hf (fun g C => ?_)
  refine g_sub C (lv' := [(0, .ref (a 9)), (1, .int p1)]) [0, 1] rfl ?_
  unfold fX1_tryBringBack
  refine g_aload_n C 0 dX1_tryBringBack_0 rfl rfl ?_
  refine g_iload_n C 1 dX1_tryBringBack_1 rfl rfl ?_
  refine g_callVi C (n := 1) (As := [.int p1]) (rest := []) (fun r h => mX1_canBringBack l D K a _ _ r h) gE.same gX1_tryBringBack_X1_canBringBack rfl (by decide +kernel) ⟨Nat.le_of_ble_eq_true rfl, Nat.le_of_ble_eq_true rfl, rfl, rfl⟩ 9 (LWg_9 K a _) rfl rfl rfl (Nat.le_of_ble_eq_true rfl) dX1_tryBringBack_2 (fun r1 _ => ?_)
  refine g_if_ne C 10 dX1_tryBringBack_5 (by decide) (fun _ => ?_) (fun _ => ?_)
  · refine g_iconst C (v := (0 : Int32)) dX1_tryBringBack_8 ic_0 ?_
    exact g_ret C ⟨dX1_tryBringBack_9, rfl, rfl, Or.inl rfl⟩
  · refine g_aload_n C 0 dX1_tryBringBack_10 rfl rfl ?_
    refine g_dup C dX1_tryBringBack_11 rfl ?_
    refine g_get C (fun _ h => List.mem_cons_of_mem _ (List.mem_append_right _ h)) 9 (LWg_9 K a _) rfl 8 (by decide) (List.mem_of_getElem? (i := 1) rfl) rfl rfl dX1_tryBringBack_12 ?_
    refine g_iload_n C 1 dX1_tryBringBack_15 rfl rfl ?_
    refine g_callNi C (n := 1) (As := [.int p1]) (rest := [.int (r1.2 9 8), .ref (a 9)]) (fun r h => mX3_bit l D K _ r h) gE.nil (τ := ()) gX1_tryBringBack_X3_bit_n108 (List.mem_of_getElem? (i := 10) rfl) (List.mem_of_getElem? (i := 8) rfl) (List.mem_of_getElem? (i := 18) rfl) rfl (by decide +kernel) ⟨Nat.le_of_ble_eq_true rfl, Nat.le_of_ble_eq_true rfl, rfl, rfl⟩ rfl rfl (Nat.le_of_ble_eq_true rfl) dX1_tryBringBack_16 (fun r2 _ => ?_)
    refine g_iconst C (v := (-1 : Int32)) dX1_tryBringBack_19 ic_m1 ?_
    refine g_ixor C dX1_tryBringBack_20 ?_
    refine g_iand C dX1_tryBringBack_21 ?_
    refine g_topi (fun t3 => ?_)
    refine g_put C (ty := .int) (fun _ h => List.mem_cons_of_mem _ (List.mem_append_right _ h)) tyX1 tyX1_ok nmX1 9 (LWg_9 K a _) rfl 8 (by decide) (List.mem_of_getElem? (i := 1) rfl) rfl rfl (by decide +kernel) rfl rfl (Nat.le_of_ble_eq_true rfl) (LWp_9_8 K a _ _) dX1_tryBringBack_22 ?_
    refine g_state (fun u4 => ?_)
    refine g_iconst C (v := (1 : Int32)) dX1_tryBringBack_25 ic_1 ?_
    exact g_ret C ⟨dX1_tryBringBack_26, rfl, rfl, Or.inr rfl⟩
set_option maxHeartbeats 4000000 in
set_option maxRecDepth 100000 in
theorem mX1_tryBorrowOrBringBack (l : Launch) (D : va_G) (K : Nat → ClassId) (a : Nat → Nat) (σ : gS) (p1 : Int32) (r : (Int32 × gS)) (hf : fX1_tryBorrowOrBringBack σ p1 = some r) : gMi l yX1_tryBorrowOrBringBack wsX1_tryBorrowOrBringBack { frames := 4, cells := 0, slots := 0, locals := 85 } D (gT K) (LW K a) [.ref (a 9), .int p1] σ r := by
  refine mk_z (nL := 2) (cc := cX1_tryBorrowOrBringBack) (by decide) rfl (Nat.le_of_ble_eq_true rfl) rfl rfl hf (fun g C => ?_)
  refine g_sub C (lv' := [(0, .ref (a 9)), (1, .int p1)]) [0, 1] rfl ?_
  unfold fX1_tryBorrowOrBringBack
  refine g_aload_n C 0 dX1_tryBorrowOrBringBack_0 rfl rfl ?_
  refine g_get C (fun _ h => List.mem_cons_of_mem _ (List.mem_append_right _ h)) 9 (LWg_9 K a _) rfl 8 (by decide) (List.mem_of_getElem? (i := 1) rfl) rfl rfl dX1_tryBorrowOrBringBack_1 ?_
  refine g_iload_n C 1 dX1_tryBorrowOrBringBack_4 rfl rfl ?_
  refine g_callNi C (n := 2) (As := [.int (σ 9 8), .int p1]) (rest := []) (fun r h => mX3_has l D K _ _ r h) gE.nil (τ := ()) gX1_tryBorrowOrBringBack_X3_has_n75 (List.mem_of_getElem? (i := 5) rfl) (List.mem_of_getElem? (i := 3) rfl) (List.mem_of_getElem? (i := 2) rfl) rfl (by decide +kernel) ⟨Nat.le_of_ble_eq_true rfl, Nat.le_of_ble_eq_true rfl, rfl, rfl⟩ rfl rfl (Nat.le_of_ble_eq_true rfl) dX1_tryBorrowOrBringBack_5 (fun r1 _ => ?_)
  refine g_if_eq C 19 dX1_tryBorrowOrBringBack_8 (by decide) (fun _ => ?_) (fun _ => ?_)
  · refine g_aload_n C 0 dX1_tryBorrowOrBringBack_19 rfl rfl ?_
    refine g_iload_n C 1 dX1_tryBorrowOrBringBack_20 rfl rfl ?_
    refine g_callVi C (n := 1) (As := [.int p1]) (rest := []) (fun r h => mX1_tryBorrow l D K a _ _ r h) gE.same gX1_tryBorrowOrBringBack_X1_tryBorrow rfl (by decide +kernel) ⟨Nat.le_of_ble_eq_true rfl, Nat.le_of_ble_eq_true rfl, rfl, rfl⟩ 9 (LWg_9 K a _) rfl rfl rfl (Nat.le_of_ble_eq_true rfl) dX1_tryBorrowOrBringBack_21 (fun r2 _ => ?_)
    refine g_bool C (fun h9 => ?_)
    exact g_ret C ⟨dX1_tryBorrowOrBringBack_24, rfl, rfl, h9⟩
  · refine g_aload_n C 0 dX1_tryBorrowOrBringBack_11 rfl rfl ?_
    refine g_iload_n C 1 dX1_tryBorrowOrBringBack_12 rfl rfl ?_
    refine g_callVi C (n := 1) (As := [.int p1]) (rest := []) (fun r h => mX1_tryBringBack l D K a _ _ r h) gE.same gX1_tryBorrowOrBringBack_X1_tryBringBack rfl (by decide +kernel) ⟨Nat.le_of_ble_eq_true rfl, Nat.le_of_ble_eq_true rfl, rfl, rfl⟩ 9 (LWg_9 K a _) rfl rfl rfl (Nat.le_of_ble_eq_true rfl) dX1_tryBorrowOrBringBack_13 (fun r3 _ => ?_)
    refine g_goto C 24 dX1_tryBorrowOrBringBack_16 (by decide) ?_
    refine g_bool C (fun h9 => ?_)
    exact g_ret C ⟨dX1_tryBorrowOrBringBack_24, rfl, rfl, h9⟩
set_option maxHeartbeats 4000000 in
set_option maxRecDepth 100000 in
theorem mX1_tryWalk (l : Launch) (D : va_G) (K : Nat → ClassId) (a : Nat → Nat) (σ : gS) (p1 : Int32) (p2 : Int32) (p3 : Int32) (r : (Int32 × gS)) (hf : fX1_tryWalk σ p1 p2 p3 = some r) : gMi l yX1_tryWalk wsX1_tryWalk { frames := 2, cells := 0, slots := 0, locals := 43 } D (gT K) (LW K a) [.ref (a 9), .int p1, .int p2, .int p3] σ r := by
  refine mk_z (nL := 4) (cc := cX1_tryWalk) (by decide) rfl (Nat.le_of_ble_eq_true rfl) rfl rfl hf (fun g C => ?_)
  refine g_sub C (lv' := [(0, .ref (a 9)), (1, .int p1), (2, .int p2), (3, .int p3)]) [0, 1, 2, 3] rfl ?_
  unfold fX1_tryWalk
  refine g_aload_n C 0 dX1_tryWalk_0 rfl rfl ?_
  refine g_iload_n C 1 dX1_tryWalk_1 rfl rfl ?_
  refine g_iload_n C 2 dX1_tryWalk_2 rfl rfl ?_
  refine g_iload_n C 3 dX1_tryWalk_3 rfl rfl ?_
  refine g_callVi C (n := 3) (As := [.int p1, .int p2, .int p3]) (rest := []) (fun r h => mX1_canWalk l D K a _ _ _ _ r h) gE.same gX1_tryWalk_X1_canWalk rfl (by decide +kernel) ⟨Nat.le_of_ble_eq_true rfl, Nat.le_of_ble_eq_true rfl, rfl, rfl⟩ 9 (LWg_9 K a _) rfl rfl rfl (Nat.le_of_ble_eq_true rfl) dX1_tryWalk_4 (fun r1 _ => ?_)
  refine g_if_ne C 12 dX1_tryWalk_7 (by decide) (fun _ => ?_) (fun _ => ?_)
  · refine g_iconst C (v := (0 : Int32)) dX1_tryWalk_10 ic_0 ?_
    exact g_ret C ⟨dX1_tryWalk_11, rfl, rfl, Or.inl rfl⟩
  · refine g_aload_n C 0 dX1_tryWalk_12 rfl rfl ?_
    refine g_get C (fun _ h => List.mem_cons_of_mem _ (List.mem_append_right _ h)) 9 (LWg_9 K a _) rfl 2 (by decide) (List.mem_of_getElem? (i := 1) rfl) rfl rfl dX1_tryWalk_13 ?_
    refine g_iload_n C 1 dX1_tryWalk_16 rfl rfl ?_
    refine g_iconst C (v := (1 : Int32)) dX1_tryWalk_17 ic_1 ?_
    refine g_iastG C 11 0 (LWg_11 K a _) rfl (LWs_11 K a _ _) dX1_tryWalk_18 ?_
    refine g_state (fun u2 => ?_)
    refine g_aload_n C 0 dX1_tryWalk_19 rfl rfl ?_
    refine g_get C (fun _ h => List.mem_cons_of_mem _ (List.mem_append_right _ h)) 9 (LWg_9 K a _) rfl 3 (by decide) (List.mem_of_getElem? (i := 2) rfl) rfl rfl dX1_tryWalk_20 ?_
    refine g_iload_n C 1 dX1_tryWalk_23 rfl rfl ?_
    refine g_iload_n C 2 dX1_tryWalk_24 rfl rfl ?_
    refine g_iastG C 12 0 (LWg_12 K a _) rfl (LWs_12 K a _ _) dX1_tryWalk_25 ?_
    refine g_state (fun u3 => ?_)
    refine g_aload_n C 0 dX1_tryWalk_26 rfl rfl ?_
    refine g_get C (fun _ h => List.mem_cons_of_mem _ (List.mem_append_right _ h)) 9 (LWg_9 K a _) rfl 4 (by decide) (List.mem_of_getElem? (i := 3) rfl) rfl rfl dX1_tryWalk_27 ?_
    refine g_iload_n C 1 dX1_tryWalk_30 rfl rfl ?_
    refine g_iload_n C 3 dX1_tryWalk_31 rfl rfl ?_
    refine g_if_eq C 40 dX1_tryWalk_32 (by decide) (fun _ => ?_) (fun _ => ?_)
    · refine g_iconst C (v := (3 : Int32)) dX1_tryWalk_40 ic_3 ?_
      refine g_iastG C 13 0 (LWg_13 K a _) rfl (LWs_13 K a _ _) dX1_tryWalk_41 ?_
      refine g_state (fun u4 => ?_)
      refine g_aload_n C 0 dX1_tryWalk_42 rfl rfl ?_
      refine g_get C (fun _ h => List.mem_cons_of_mem _ (List.mem_append_right _ h)) 9 (LWg_9 K a _) rfl 5 (by decide) (List.mem_of_getElem? (i := 4) rfl) rfl rfl dX1_tryWalk_43 ?_
      refine g_iload_n C 1 dX1_tryWalk_46 rfl rfl ?_
      refine g_iload_n C 3 dX1_tryWalk_47 rfl rfl ?_
      refine g_bool C (fun b5 => ?_)
      refine g_zastG C 14 1 (LWg_14 K a _) rfl b5 (LWs_14 K a _ _) dX1_tryWalk_48 ?_
      refine g_state (fun u6 => ?_)
      refine g_iconst C (v := (1 : Int32)) dX1_tryWalk_49 ic_1 ?_
      exact g_ret C ⟨dX1_tryWalk_50, rfl, rfl, Or.inr rfl⟩
    · refine g_bipush C (v := (-3 : Int32)) dX1_tryWalk_35 (by decide) ?_
      refine g_goto C 41 dX1_tryWalk_37 (by decide) ?_
      refine g_iastG C 13 0 (LWg_13 K a _) rfl (LWs_13 K a _ _) dX1_tryWalk_41 ?_
      refine g_state (fun u7 => ?_)
      refine g_aload_n C 0 dX1_tryWalk_42 rfl rfl ?_
      refine g_get C (fun _ h => List.mem_cons_of_mem _ (List.mem_append_right _ h)) 9 (LWg_9 K a _) rfl 5 (by decide) (List.mem_of_getElem? (i := 4) rfl) rfl rfl dX1_tryWalk_43 ?_
      refine g_iload_n C 1 dX1_tryWalk_46 rfl rfl ?_
      refine g_iload_n C 3 dX1_tryWalk_47 rfl rfl ?_
      refine g_bool C (fun b8 => ?_)
      refine g_zastG C 14 1 (LWg_14 K a _) rfl b8 (LWs_14 K a _ _) dX1_tryWalk_48 ?_
      refine g_state (fun u9 => ?_)
      refine g_iconst C (v := (1 : Int32)) dX1_tryWalk_49 ic_1 ?_
      exact g_ret C ⟨dX1_tryWalk_50, rfl, rfl, Or.inr rfl⟩
set_option maxHeartbeats 4000000 in
set_option maxRecDepth 100000 in
theorem mX1_tryWalkEitherWay (l : Launch) (D : va_G) (K : Nat → ClassId) (a : Nat → Nat) (σ : gS) (p1 : Int32) (p2 : Int32) (r : (Int32 × gS)) (hf : fX1_tryWalkEitherWay σ p1 p2 = some r) : gMi l yX1_tryWalkEitherWay wsX1_tryWalkEitherWay { frames := 3, cells := 0, slots := 0, locals := 66 } D (gT K) (LW K a) [.ref (a 9), .int p1, .int p2] σ r := by
  refine mk_z (nL := 3) (cc := cX1_tryWalkEitherWay) (by decide) rfl (Nat.le_of_ble_eq_true rfl) rfl rfl hf (fun g C => ?_)
  refine g_sub C (lv' := [(0, .ref (a 9)), (1, .int p1), (2, .int p2)]) [0, 1, 2] rfl ?_
  unfold fX1_tryWalkEitherWay
  have h_24 : ∀ (σ : gS) (s1 : Int32) (s2 : Int32) (s3 : Int32), g (fX1_tryWalkEitherWay_L24 σ s1 s2 s3) 24 [] [.int s3, .int s2, .int s1, .ref (a 9)] σ := by
    intro σ s1 s2 s3
    unfold fX1_tryWalkEitherWay_L24
    refine g_callVi C (n := 3) (As := [.int s1, .int s2, .int s3]) (rest := []) (fun r h => mX1_tryWalk l D K a _ _ _ _ r h) gE.same gX1_tryWalkEitherWay_X1_tryWalk rfl (by decide +kernel) ⟨Nat.le_of_ble_eq_true rfl, Nat.le_of_ble_eq_true rfl, rfl, rfl⟩ 9 (LWg_9 K a _) rfl rfl rfl (Nat.le_of_ble_eq_true rfl) dX1_tryWalkEitherWay_24 (fun r1 _ => ?_)
    refine g_if_eq C 34 dX1_tryWalkEitherWay_27 (by decide) (fun _ => ?_) (fun _ => ?_)
    · refine g_iconst C (v := (0 : Int32)) dX1_tryWalkEitherWay_34 ic_0 ?_
      exact g_ret C ⟨dX1_tryWalkEitherWay_35, rfl, rfl, Or.inl rfl⟩
    · refine g_iconst C (v := (1 : Int32)) dX1_tryWalkEitherWay_30 ic_1 ?_
      refine g_goto C 35 dX1_tryWalkEitherWay_31 (by decide) ?_
      exact g_ret C ⟨dX1_tryWalkEitherWay_35, rfl, rfl, Or.inr rfl⟩
  refine g_iload_n C 1 dX1_tryWalkEitherWay_0 rfl rfl ?_
  refine g_callNi C (n := 1) (As := [.int p1]) (rest := []) (fun r h => mX3_isVisitor l D K _ r h) gE.nil (τ := ()) gX1_tryWalkEitherWay_X3_isVisitor_n83 (List.mem_of_getElem? (i := 7) rfl) (List.mem_of_getElem? (i := 3) rfl) (List.mem_of_getElem? (i := 2) rfl) rfl (by decide +kernel) ⟨Nat.le_of_ble_eq_true rfl, Nat.le_of_ble_eq_true rfl, rfl, rfl⟩ rfl rfl (Nat.le_of_ble_eq_true rfl) dX1_tryWalkEitherWay_1 (fun r2 _ => ?_)
  refine g_if_eq C 34 dX1_tryWalkEitherWay_4 (by decide) (fun _ => ?_) (fun _ => ?_)
  · refine g_iconst C (v := (0 : Int32)) dX1_tryWalkEitherWay_34 ic_0 ?_
    exact g_ret C ⟨dX1_tryWalkEitherWay_35, rfl, rfl, Or.inl rfl⟩
  · refine g_aload_n C 0 dX1_tryWalkEitherWay_7 rfl rfl ?_
    refine g_iload_n C 1 dX1_tryWalkEitherWay_8 rfl rfl ?_
    refine g_iload_n C 2 dX1_tryWalkEitherWay_9 rfl rfl ?_
    refine g_aload_n C 0 dX1_tryWalkEitherWay_10 rfl rfl ?_
    refine g_get C (fun _ h => List.mem_cons_of_mem _ (List.mem_append_right _ h)) 9 (LWg_9 K a _) rfl 2 (by decide) (List.mem_of_getElem? (i := 1) rfl) rfl rfl dX1_tryWalkEitherWay_11 ?_
    refine g_iload_n C 1 dX1_tryWalkEitherWay_14 rfl rfl ?_
    refine g_ialdG C 11 0 (LWg_11 K a _) rfl dX1_tryWalkEitherWay_15 ?_
    refine g_if_ne C 23 dX1_tryWalkEitherWay_16 (by decide) (fun _ => ?_) (fun _ => ?_)
    · refine g_iconst C (v := (1 : Int32)) dX1_tryWalkEitherWay_19 ic_1 ?_
      refine g_goto C 24 dX1_tryWalkEitherWay_20 (by decide) ?_
      refine g_sub C (lv' := []) [] rfl ?_
      exact h_24 σ p1 p2 (1 : Int32)
    · refine g_iconst C (v := (0 : Int32)) dX1_tryWalkEitherWay_23 ic_0 ?_
      refine g_sub C (lv' := []) [] rfl ?_
      exact h_24 σ p1 p2 (0 : Int32)
set_option maxHeartbeats 4000000 in
set_option maxRecDepth 100000 in
theorem mX1_tryTurn (l : Launch) (D : va_G) (K : Nat → ClassId) (a : Nat → Nat) (σ : gS) (p1 : Int32) (r : (Int32 × gS)) (hf : fX1_tryTurn σ p1 = some r) : gMi l yX1_tryTurn wsX1_tryTurn { frames := 2, cells := 0, slots := 0, locals := 41 } D (gT K) (LW K a) [.ref (a 9), .int p1] σ r := by
  refine mk_z (nL := 2) (cc := cX1_tryTurn) (by decide) rfl (Nat.le_of_ble_eq_true rfl) rfl rfl hf (fun g C => ?_)
  refine g_sub C (lv' := [(0, .ref (a 9)), (1, .int p1)]) [0, 1] rfl ?_
  unfold fX1_tryTurn
  refine g_aload_n C 0 dX1_tryTurn_0 rfl rfl ?_
  refine g_iload_n C 1 dX1_tryTurn_1 rfl rfl ?_
  refine g_callVi C (n := 1) (As := [.int p1]) (rest := []) (fun r h => mX1_canTurn l D K a _ _ r h) gE.same gX1_tryTurn_X1_canTurn rfl (by decide +kernel) ⟨Nat.le_of_ble_eq_true rfl, Nat.le_of_ble_eq_true rfl, rfl, rfl⟩ 9 (LWg_9 K a _) rfl rfl rfl (Nat.le_of_ble_eq_true rfl) dX1_tryTurn_2 (fun r1 _ => ?_)
  refine g_if_ne C 10 dX1_tryTurn_5 (by decide) (fun _ => ?_) (fun _ => ?_)
  · refine g_iconst C (v := (0 : Int32)) dX1_tryTurn_8 ic_0 ?_
    exact g_ret C ⟨dX1_tryTurn_9, rfl, rfl, Or.inl rfl⟩
  · refine g_aload_n C 0 dX1_tryTurn_10 rfl rfl ?_
    refine g_get C (fun _ h => List.mem_cons_of_mem _ (List.mem_append_right _ h)) 9 (LWg_9 K a _) rfl 5 (by decide) (List.mem_of_getElem? (i := 1) rfl) rfl rfl dX1_tryTurn_11 ?_
    refine g_iload_n C 1 dX1_tryTurn_14 rfl rfl ?_
    refine g_aload_n C 0 dX1_tryTurn_15 rfl rfl ?_
    refine g_get C (fun _ h => List.mem_cons_of_mem _ (List.mem_append_right _ h)) 9 (LWg_9 K a _) rfl 5 (by decide) (List.mem_of_getElem? (i := 1) rfl) rfl rfl dX1_tryTurn_16 ?_
    refine g_iload_n C 1 dX1_tryTurn_19 rfl rfl ?_
    refine g_zaldG C 14 1 (LWg_14 K a _) rfl dX1_tryTurn_20 ?_
    refine g_if_ne C 28 dX1_tryTurn_21 (by decide) (fun _ => ?_) (fun _ => ?_)
    · refine g_iconst C (v := (1 : Int32)) dX1_tryTurn_24 ic_1 ?_
      refine g_goto C 29 dX1_tryTurn_25 (by decide) ?_
      refine g_zastG C 14 1 (LWg_14 K a _) rfl (Or.inr rfl) (LWs_14 K a _ _) dX1_tryTurn_29 ?_
      refine g_state (fun u2 => ?_)
      refine g_iconst C (v := (1 : Int32)) dX1_tryTurn_30 ic_1 ?_
      exact g_ret C ⟨dX1_tryTurn_31, rfl, rfl, Or.inr rfl⟩
    · refine g_iconst C (v := (0 : Int32)) dX1_tryTurn_28 ic_0 ?_
      refine g_zastG C 14 1 (LWg_14 K a _) rfl (Or.inl rfl) (LWs_14 K a _ _) dX1_tryTurn_29 ?_
      refine g_state (fun u3 => ?_)
      refine g_iconst C (v := (1 : Int32)) dX1_tryTurn_30 ic_1 ?_
      exact g_ret C ⟨dX1_tryTurn_31, rfl, rfl, Or.inr rfl⟩
set_option maxHeartbeats 4000000 in
set_option maxRecDepth 100000 in
theorem mX1_change (l : Launch) (D : va_G) (K : Nat → ClassId) (a : Nat → Nat) (σ : gS) (p1 : Int32) (p2 : Int32) (r : (Int32 × gS)) (hf : fX1_change σ p1 p2 = some r) : gMi l yX1_change wsX1_change { frames := 1, cells := 0, slots := 0, locals := 20 } D (gT K) (LW K a) [.ref (a 9), .int p1, .int p2] σ r := by
  refine mk_i (nL := 4) (cc := cX1_change) (by decide) rfl (Nat.le_of_ble_eq_true rfl) rfl rfl hf (fun g C => ?_)
  refine g_sub C (lv' := [(0, .ref (a 9)), (1, .int p1), (2, .int p2)]) [0, 1, 2] rfl ?_
  unfold fX1_change
  refine g_iload_n C 1 dX1_change_0 rfl rfl ?_
  refine g_callNi C (n := 1) (As := [.int p1]) (rest := []) (fun r h => mX3_isGate l D K _ r h) gE.nil (τ := ()) gX1_change_X3_isGate_n102 (List.mem_of_getElem? (i := 9) rfl) (List.mem_of_getElem? (i := 6) rfl) (List.mem_of_getElem? (i := 5) rfl) rfl (by decide +kernel) ⟨Nat.le_of_ble_eq_true rfl, Nat.le_of_ble_eq_true rfl, rfl, rfl⟩ rfl rfl (Nat.le_of_ble_eq_true rfl) dX1_change_1 (fun r1 _ => ?_)
  refine g_if_eq C 30 dX1_change_4 (by decide) (fun _ => ?_) (fun _ => ?_)
  · refine g_iload_n C 1 dX1_change_30 rfl rfl ?_
    refine g_iconst C (v := (3 : Int32)) dX1_change_31 ic_3 ?_
    refine g_icmp_ne C 48 dX1_change_32 (by decide) (fun _ => ?_) (fun _ => ?_)
    · refine g_aload_n C 0 dX1_change_35 rfl rfl ?_
      refine g_get C (fun _ h => List.mem_cons_of_mem _ (List.mem_append_left _ (List.mem_append_right _ h))) 9 (LWg_9 K a _) rfl 10 (by decide) (List.mem_of_getElem? (i := 3) rfl) rfl rfl dX1_change_36 ?_
      refine g_topi (fun t2 => ?_)
      refine g_istore_n C (lv' := [(3, .int t2), (0, .ref (a 9)), (1, .int p1), (2, .int p2)]) dX1_change_39 rfl (by decide) rfl ?_
      refine g_aload_n C 1 dX1_change_40 rfl rfl ?_
      refine g_iload_n C 3 dX1_change_41 rfl rfl ?_
      refine g_put C (ty := .int) (fun _ h => List.mem_cons_of_mem _ (List.mem_append_left _ (List.mem_append_right _ h))) tyX1 tyX1_ok nmX1 9 (LWg_9 K a _) rfl 10 (by decide) (List.mem_of_getElem? (i := 3) rfl) rfl rfl (by decide +kernel) rfl rfl (Nat.le_of_ble_eq_true rfl) (LWp_9_10 K a _ _) dX1_change_42 ?_
      refine g_state (fun u3 => ?_)
      refine g_goto C 64 dX1_change_45 (by decide) ?_
      refine g_iload_n C 0 dX1_change_64 rfl rfl ?_
      exact g_ret C ⟨dX1_change_65, rfl, rfl⟩
    · refine g_aload_n C 0 dX1_change_48 rfl rfl ?_
      refine g_get C (fun _ h => List.mem_cons_of_mem _ (List.mem_append_left _ (List.mem_append_right _ h))) 9 (LWg_9 K a _) rfl 0 (by decide) (List.mem_of_getElem? (i := 1) rfl) rfl rfl dX1_change_49 ?_
      refine g_get C (fun _ h => List.mem_cons_of_mem _ (List.mem_append_right _ h)) 0 (LWg_0 K a _) rfl 8 (by decide) (List.mem_of_getElem? (i := 4) rfl) rfl rfl dX1_change_52 ?_
      refine g_topi (fun t4 => ?_)
      refine g_istore_n C (lv' := [(3, .int t4), (0, .ref (a 9)), (1, .int p1), (2, .int p2)]) dX1_change_55 rfl (by decide) rfl ?_
      refine g_aload_n C 1 dX1_change_56 rfl rfl ?_
      refine g_get C (fun _ h => List.mem_cons_of_mem _ (List.mem_append_left _ (List.mem_append_right _ h))) 9 (LWg_9 K a _) rfl 0 (by decide) (List.mem_of_getElem? (i := 1) rfl) rfl rfl dX1_change_57 ?_
      refine g_iload_n C 3 dX1_change_60 rfl rfl ?_
      refine g_put C (ty := .int) (fun _ h => List.mem_cons_of_mem _ (List.mem_append_right _ h)) tyX0 tyX0_ok nmX0 0 (LWg_0 K a _) rfl 8 (by decide) (List.mem_of_getElem? (i := 4) rfl) rfl rfl (by decide +kernel) rfl rfl (Nat.le_of_ble_eq_true rfl) (LWp_0_8 K a _ _) dX1_change_61 ?_
      refine g_state (fun u5 => ?_)
      refine g_iload_n C 0 dX1_change_64 rfl rfl ?_
      exact g_ret C ⟨dX1_change_65, rfl, rfl⟩
  · refine g_aload_n C 0 dX1_change_7 rfl rfl ?_
    refine g_get C (fun _ h => List.mem_cons_of_mem _ (List.mem_append_left _ (List.mem_append_right _ h))) 9 (LWg_9 K a _) rfl 0 (by decide) (List.mem_of_getElem? (i := 1) rfl) rfl rfl dX1_change_8 ?_
    refine g_get C (fun _ h => List.mem_cons_of_mem _ (List.mem_append_right _ h)) 0 (LWg_0 K a _) rfl 0 (by decide) (List.mem_of_getElem? (i := 2) rfl) rfl rfl dX1_change_11 ?_
    refine g_iload_n C 1 dX1_change_14 rfl rfl ?_
    refine g_ialdG C 1 0 (LWg_1 K a _) rfl dX1_change_15 ?_
    refine g_topi (fun t6 => ?_)
    refine g_istore_n C (lv' := [(3, .int t6), (0, .ref (a 9)), (1, .int p1), (2, .int p2)]) dX1_change_16 rfl (by decide) rfl ?_
    refine g_aload_n C 1 dX1_change_17 rfl rfl ?_
    refine g_get C (fun _ h => List.mem_cons_of_mem _ (List.mem_append_left _ (List.mem_append_right _ h))) 9 (LWg_9 K a _) rfl 0 (by decide) (List.mem_of_getElem? (i := 1) rfl) rfl rfl dX1_change_18 ?_
    refine g_get C (fun _ h => List.mem_cons_of_mem _ (List.mem_append_right _ h)) 0 (LWg_0 K a _) rfl 0 (by decide) (List.mem_of_getElem? (i := 2) rfl) rfl rfl dX1_change_21 ?_
    refine g_iload_n C 2 dX1_change_24 rfl rfl ?_
    refine g_iload_n C 3 dX1_change_25 rfl rfl ?_
    refine g_iastG C 1 0 (LWg_1 K a _) rfl (LWs_1 K a _ _) dX1_change_26 ?_
    refine g_state (fun u7 => ?_)
    refine g_goto C 64 dX1_change_27 (by decide) ?_
    refine g_iload_n C 0 dX1_change_64 rfl rfl ?_
    exact g_ret C ⟨dX1_change_65, rfl, rfl⟩
set_option maxHeartbeats 4000000 in
set_option maxRecDepth 100000 in
theorem mX1_reaches (l : Launch) (D : va_G) (K : Nat → ClassId) (a : Nat → Nat) (σ : gS) (p1 : Int32) (p2 : Int32) (r : (Int32 × gS)) (hf : fX1_reaches σ p1 p2 = some r) : gMi l yX1_reaches wsX1_reaches { frames := 1, cells := 0, slots := 0, locals := 21 } D (gT K) (LW K a) [.ref (a 9), .int p1, .int p2] σ r := by
  refine mk_z (nL := 4) (cc := cX1_reaches) (by decide) rfl (Nat.le_of_ble_eq_true rfl) rfl rfl hf (fun g C => ?_)
  refine g_sub C (lv' := [(0, .ref (a 9)), (1, .int p1), (2, .int p2)]) [0, 1, 2] rfl ?_
  unfold fX1_reaches
  refine g_iconst C (v := (2 : Int32)) dX1_reaches_0 ic_2 ?_
  refine g_aload_n C 0 dX1_reaches_1 rfl rfl ?_
  refine g_get C (fun _ h => List.mem_cons_of_mem _ (List.mem_append_left _ (List.mem_append_right _ h))) 9 (LWg_9 K a _) rfl 4 (by decide) (List.mem_of_getElem? (i := 1) rfl) rfl rfl dX1_reaches_2 ?_
  refine g_iload_n C 2 dX1_reaches_5 rfl rfl ?_
  refine g_ialdG C 13 0 (LWg_13 K a _) rfl dX1_reaches_6 ?_
  refine g_mabs C (List.mem_of_getElem? (i := 2) rfl) (List.mem_of_getElem? (i := 3) rfl) (List.mem_of_getElem? (i := 4) rfl) (List.mem_of_getElem? (i := 5) rfl) (Nat.le_of_ble_eq_true rfl) (Nat.le_of_ble_eq_true rfl) dX1_reaches_7 ?_
  refine g_topi (fun t1 => ?_)
  refine g_imul C dX1_reaches_10 ?_
  refine g_aload_n C 0 dX1_reaches_11 rfl rfl ?_
  refine g_get C (fun _ h => List.mem_cons_of_mem _ (List.mem_append_left _ (List.mem_append_right _ h))) 9 (LWg_9 K a _) rfl 1 (by decide) (List.mem_of_getElem? (i := 6) rfl) rfl rfl dX1_reaches_12 ?_
  refine g_iload_n C 2 dX1_reaches_15 rfl rfl ?_
  refine g_ialdG C 10 0 (LWg_10 K a _) rfl dX1_reaches_16 ?_
  refine g_callSi C (n := 1) (As := [.int (σ 10 p2.toNatClampNeg)]) (rest := [.int ((2 : Int32) * t1)]) (fun r h => mJ6_bitCount_0f7a4 l D K _ r h) gE.nil (τ := ()) gX1_reaches_J6_bitCount_0f7a4 rfl (by decide +kernel) ⟨Nat.le_of_ble_eq_true rfl, Nat.le_of_ble_eq_true rfl, rfl, rfl⟩ rfl rfl (Nat.le_of_ble_eq_true rfl) dX1_reaches_17 (fun r2 _ => ?_)
  refine g_iadd C dX1_reaches_20 ?_
  refine g_topi (fun t3 => ?_)
  refine g_istore_n C (lv' := [(3, .int t3), (0, .ref (a 9)), (1, .int p1), (2, .int p2)]) dX1_reaches_21 rfl (by decide) rfl ?_
  refine g_aload_n C 1 dX1_reaches_22 rfl rfl ?_
  refine g_get C (fun _ h => List.mem_cons_of_mem _ (List.mem_append_left _ (List.mem_append_right _ h))) 9 (LWg_9 K a _) rfl 3 (by decide) (List.mem_of_getElem? (i := 7) rfl) rfl rfl dX1_reaches_23 ?_
  refine g_iload_n C 3 dX1_reaches_26 rfl rfl ?_
  refine g_ialdG C 12 0 (LWg_12 K a _) rfl dX1_reaches_27 ?_
  refine g_iload_n C 2 dX1_reaches_28 rfl rfl ?_
  refine g_isub C dX1_reaches_29 ?_
  refine g_mabs C (List.mem_of_getElem? (i := 2) rfl) (List.mem_of_getElem? (i := 3) rfl) (List.mem_of_getElem? (i := 4) rfl) (List.mem_of_getElem? (i := 5) rfl) (Nat.le_of_ble_eq_true rfl) (Nat.le_of_ble_eq_true rfl) dX1_reaches_30 ?_
  refine g_topi (fun t4 => ?_)
  refine g_lcase C (off := 27) 60 (0 : Int32) dX1_reaches_33 (by decide) (by decide) (by decide) (fun _ => ?_) (fun h5 => ?_)
  · refine g_aload_n C 1 dX1_reaches_60 rfl rfl ?_
    refine g_get C (fun _ h => List.mem_cons_of_mem _ (List.mem_append_left _ (List.mem_append_right _ h))) 9 (LWg_9 K a _) rfl 0 (by decide) (List.mem_of_getElem? (i := 8) rfl) rfl rfl dX1_reaches_61 ?_
    refine g_get C (fun _ h => List.mem_cons_of_mem _ (List.mem_append_right _ h)) 0 (LWg_0 K a _) rfl 0 (by decide) (List.mem_of_getElem? (i := 9) rfl) rfl rfl dX1_reaches_64 ?_
    refine g_iload_n C 2 dX1_reaches_67 rfl rfl ?_
    refine g_ialdG C 1 0 (LWg_1 K a _) rfl dX1_reaches_68 ?_
    refine g_iload_n C 0 dX1_reaches_69 rfl rfl ?_
    refine g_icmp_lt C 77 dX1_reaches_70 (by decide) (fun _ => ?_) (fun _ => ?_)
    · refine g_iconst C (v := (0 : Int32)) dX1_reaches_77 ic_0 ?_
      exact g_ret C ⟨dX1_reaches_78, rfl, rfl, Or.inl rfl⟩
    · refine g_iconst C (v := (1 : Int32)) dX1_reaches_73 ic_1 ?_
      refine g_goto C 78 dX1_reaches_74 (by decide) ?_
      exact g_ret C ⟨dX1_reaches_78, rfl, rfl, Or.inr rfl⟩
  refine g_lcase C (off := 46) 79 (1 : Int32) dX1_reaches_33 (by decide) (by decide) (by decide) (fun _ => ?_) (fun h6 => ?_)
  · refine g_aload_n C 1 dX1_reaches_79 rfl rfl ?_
    refine g_get C (fun _ h => List.mem_cons_of_mem _ (List.mem_append_left _ (List.mem_append_right _ h))) 9 (LWg_9 K a _) rfl 0 (by decide) (List.mem_of_getElem? (i := 8) rfl) rfl rfl dX1_reaches_80 ?_
    refine g_get C (fun _ h => List.mem_cons_of_mem _ (List.mem_append_right _ h)) 0 (LWg_0 K a _) rfl 0 (by decide) (List.mem_of_getElem? (i := 9) rfl) rfl rfl dX1_reaches_83 ?_
    refine g_iload_n C 2 dX1_reaches_86 rfl rfl ?_
    refine g_ialdG C 1 0 (LWg_1 K a _) rfl dX1_reaches_87 ?_
    refine g_iconst C (v := (2 : Int32)) dX1_reaches_88 ic_2 ?_
    refine g_idiv C dX1_reaches_89 (by decide) ?_
    refine g_iload_n C 0 dX1_reaches_90 rfl rfl ?_
    refine g_icmp_lt C 98 dX1_reaches_91 (by decide) (fun _ => ?_) (fun _ => ?_)
    · refine g_iconst C (v := (0 : Int32)) dX1_reaches_98 ic_0 ?_
      exact g_ret C ⟨dX1_reaches_99, rfl, rfl, Or.inl rfl⟩
    · refine g_iconst C (v := (1 : Int32)) dX1_reaches_94 ic_1 ?_
      refine g_goto C 99 dX1_reaches_95 (by decide) ?_
      exact g_ret C ⟨dX1_reaches_99, rfl, rfl, Or.inr rfl⟩
  refine g_ldef2 C 100 [0, 1] dX1_reaches_33 (by decide) (by decide) (List.forall_mem_cons.mpr ⟨i32nz h5 (by decide), (List.forall_mem_cons.mpr ⟨i32nz h6 (by decide), (fun _ h9 => absurd h9 List.not_mem_nil)⟩)⟩) (by decide) ?_
  refine g_iconst C (v := (0 : Int32)) dX1_reaches_100 ic_0 ?_
  exact g_ret C ⟨dX1_reaches_101, rfl, rfl, Or.inl rfl⟩
set_option maxHeartbeats 4000000 in
set_option maxRecDepth 100000 in
theorem mX1_booksRead (l : Launch) (D : va_G) (K : Nat → ClassId) (a : Nat → Nat) (σ : gS) (p1 : Int32) (p2 : Int32) (r : (Int32 × gS)) (hf : fX1_booksRead σ p1 p2 = some r) : gMi l yX1_booksRead wsX1_booksRead { frames := 2, cells := 0, slots := 0, locals := 44 } D (gT K) (LW K a) [.ref (a 9), .int p1, .int p2] σ r := by
  refine mk_i (nL := 5) (cc := cX1_booksRead) (by decide) rfl (Nat.le_of_ble_eq_true rfl) rfl rfl hf (fun g C => ?_)
  refine g_sub C (lv' := [(0, .ref (a 9)), (1, .int p1), (2, .int p2)]) [0, 1, 2] rfl ?_
  unfold fX1_booksRead
  have h_5 : ∀ (n : Nat) (σ : gS) (v1 : Int32) (v2 : Int32) (v3 : Int32) (v4 : Int32), g (fX1_booksRead_L5 n σ v1 v2 v3 v4) 5 [(0, .ref (a 9)), (1, .int v1), (2, .int v2), (3, .int v3), (4, .int v4)] [] σ := by
    intro n
    induction n with
    | zero =>
      intro σ v1 v2 v3 v4
      exact g_none C
    | succ n5 ih_5 =>
      have h_37 : ∀ (σ : gS) (v1 : Int32) (v2 : Int32) (v3 : Int32) (v4 : Int32), g (fX1_booksRead_L37 (fX1_booksRead_L5 n5) σ v1 v2 v3 v4) 37 [(0, .ref (a 9)), (1, .int v1), (2, .int v2), (3, .int v3), (4, .int v4)] [] σ := by
        intro σ v1 v2 v3 v4
        unfold fX1_booksRead_L37
        refine g_aload_n C 0 dX1_booksRead_37 rfl rfl ?_
        refine g_iload_n C 1 dX1_booksRead_38 rfl rfl ?_
        refine g_iload C 4 dX1_booksRead_39 rfl ?_
        refine g_callVi C (n := 2) (As := [.int v1, .int v4]) (rest := []) (fun r h => mX1_reaches l D K a _ _ _ r h) gE.same gX1_booksRead_X1_reaches rfl (by decide +kernel) ⟨Nat.le_of_ble_eq_true rfl, Nat.le_of_ble_eq_true rfl, rfl, rfl⟩ 9 (LWg_9 K a _) rfl rfl rfl (Nat.le_of_ble_eq_true rfl) dX1_booksRead_41 (fun r1 _ => ?_)
        refine g_if_eq C 57 dX1_booksRead_44 (by decide) (fun _ => ?_) (fun _ => ?_)
        · refine g_iinc C (w := (1 : Int32)) (lv' := [(4, .int (v4 + (1 : Int32))), (0, .ref (a 9)), (1, .int v1), (2, .int v2), (3, .int v3)]) 4 dX1_booksRead_57 rfl ic_1 (by decide) rfl ?_
          refine g_goto C 5 dX1_booksRead_60 (by decide) ?_
          refine g_sub C (lv' := [(0, .ref (a 9)), (1, .int v1), (2, .int v2), (3, .int v3), (4, .int (v4 + (1 : Int32)))]) [1, 2, 3, 4, 0] rfl ?_
          exact ih_5 r1.2 v1 v2 v3 (v4 + (1 : Int32))
        · refine g_iload_n C 3 dX1_booksRead_47 rfl rfl ?_
          refine g_aload_n C 0 dX1_booksRead_48 rfl rfl ?_
          refine g_get C (fun _ h => List.mem_cons_of_mem _ (List.mem_append_left _ (List.mem_append_right _ h))) 9 (LWg_9 K a _) rfl 1 (by decide) (List.mem_of_getElem? (i := 3) rfl) rfl rfl dX1_booksRead_49 ?_
          refine g_iload C 4 dX1_booksRead_52 rfl ?_
          refine g_ialdG C 10 0 (LWg_10 K a _) rfl dX1_booksRead_54 ?_
          refine g_ior C dX1_booksRead_55 ?_
          refine g_topi (fun t2 => ?_)
          refine g_istore_n C (lv' := [(3, .int t2), (0, .ref (a 9)), (1, .int v1), (2, .int v2), (4, .int v4)]) dX1_booksRead_56 rfl (by decide) rfl ?_
          refine g_iinc C (w := (1 : Int32)) (lv' := [(4, .int (v4 + (1 : Int32))), (3, .int t2), (0, .ref (a 9)), (1, .int v1), (2, .int v2)]) 4 dX1_booksRead_57 rfl ic_1 (by decide) rfl ?_
          refine g_goto C 5 dX1_booksRead_60 (by decide) ?_
          refine g_sub C (lv' := [(0, .ref (a 9)), (1, .int v1), (2, .int v2), (3, .int t2), (4, .int (v4 + (1 : Int32)))]) [2, 3, 4, 1, 0] rfl ?_
          exact ih_5 r1.2 v1 v2 t2 (v4 + (1 : Int32))
      intro σ v1 v2 v3 v4
      unfold fX1_booksRead_L5
      refine g_iload C 4 dX1_booksRead_5 rfl ?_
      refine g_bipush C (v := (6 : Int32)) dX1_booksRead_7 (by decide) ?_
      refine g_icmp_ge C 63 dX1_booksRead_9 (by decide) (fun _ => ?_) (fun _ => ?_)
      · refine g_iload_n C 3 dX1_booksRead_63 rfl rfl ?_
        exact g_ret C ⟨dX1_booksRead_64, rfl, rfl⟩
      · refine g_aload_n C 0 dX1_booksRead_12 rfl rfl ?_
        refine g_get C (fun _ h => List.mem_cons_of_mem _ (List.mem_append_left _ (List.mem_append_right _ h))) 9 (LWg_9 K a _) rfl 2 (by decide) (List.mem_of_getElem? (i := 1) rfl) rfl rfl dX1_booksRead_13 ?_
        refine g_iload C 4 dX1_booksRead_16 rfl ?_
        refine g_ialdG C 11 0 (LWg_11 K a _) rfl dX1_booksRead_18 ?_
        refine g_iconst C (v := (1 : Int32)) dX1_booksRead_19 ic_1 ?_
        refine g_icmp_ne C 57 dX1_booksRead_20 (by decide) (fun _ => ?_) (fun _ => ?_)
        · refine g_aload_n C 0 dX1_booksRead_23 rfl rfl ?_
          refine g_get C (fun _ h => List.mem_cons_of_mem _ (List.mem_append_left _ (List.mem_append_right _ h))) 9 (LWg_9 K a _) rfl 5 (by decide) (List.mem_of_getElem? (i := 2) rfl) rfl rfl dX1_booksRead_24 ?_
          refine g_iload C 4 dX1_booksRead_27 rfl ?_
          refine g_zaldG C 14 1 (LWg_14 K a _) rfl dX1_booksRead_29 ?_
          refine g_if_ne C 37 dX1_booksRead_30 (by decide) (fun _ => ?_) (fun _ => ?_)
          · refine g_iload_n C 2 dX1_booksRead_33 rfl rfl ?_
            refine g_if_ne C 57 dX1_booksRead_34 (by decide) (fun _ => ?_) (fun _ => ?_)
            · exact h_37 σ v1 v2 v3 v4
            · refine g_iinc C (w := (1 : Int32)) (lv' := [(4, .int (v4 + (1 : Int32))), (0, .ref (a 9)), (1, .int v1), (2, .int v2), (3, .int v3)]) 4 dX1_booksRead_57 rfl ic_1 (by decide) rfl ?_
              refine g_goto C 5 dX1_booksRead_60 (by decide) ?_
              refine g_sub C (lv' := [(0, .ref (a 9)), (1, .int v1), (2, .int v2), (3, .int v3), (4, .int (v4 + (1 : Int32)))]) [1, 2, 3, 4, 0] rfl ?_
              exact ih_5 σ v1 v2 v3 (v4 + (1 : Int32))
          · exact h_37 σ v1 v2 v3 v4
        · refine g_iinc C (w := (1 : Int32)) (lv' := [(4, .int (v4 + (1 : Int32))), (0, .ref (a 9)), (1, .int v1), (2, .int v2), (3, .int v3)]) 4 dX1_booksRead_57 rfl ic_1 (by decide) rfl ?_
          refine g_goto C 5 dX1_booksRead_60 (by decide) ?_
          refine g_sub C (lv' := [(0, .ref (a 9)), (1, .int v1), (2, .int v2), (3, .int v3), (4, .int (v4 + (1 : Int32)))]) [1, 2, 3, 4, 0] rfl ?_
          exact ih_5 σ v1 v2 v3 (v4 + (1 : Int32))
  refine g_iconst C (v := (0 : Int32)) dX1_booksRead_0 ic_0 ?_
  refine g_istore_n C (lv' := [(3, .int (0 : Int32)), (0, .ref (a 9)), (1, .int p1), (2, .int p2)]) dX1_booksRead_1 rfl (by decide) rfl ?_
  refine g_iconst C (v := (0 : Int32)) dX1_booksRead_2 ic_0 ?_
  refine g_istore C (lv' := [(4, .int (0 : Int32)), (3, .int (0 : Int32)), (0, .ref (a 9)), (1, .int p1), (2, .int p2)]) dX1_booksRead_3 (by decide) rfl ?_
  refine g_sub C (lv' := [(0, .ref (a 9)), (1, .int p1), (2, .int p2), (3, .int (0 : Int32)), (4, .int (0 : Int32))]) [2, 3, 4, 1, 0] rfl ?_
  exact h_5 gFuel σ p1 p2 (0 : Int32) (0 : Int32)
set_option maxHeartbeats 4000000 in
set_option maxRecDepth 100000 in
theorem mX1_countOutside (l : Launch) (D : va_G) (K : Nat → ClassId) (a : Nat → Nat) (σ : gS) (p1 : Int32) (r : gS) (hf : fX1_countOutside σ p1 = some r) : gMv l yX1_countOutside wsX1_countOutside { frames := 1, cells := 0, slots := 0, locals := 20 } D (gT K) (LW K a) [.ref (a 9), .int p1] σ r := by
  refine mk_v (nL := 2) (cc := cX1_countOutside) (by decide) rfl (Nat.le_of_ble_eq_true rfl) rfl rfl hf (fun g C => ?_)
  refine g_sub C (lv' := [(0, .ref (a 9)), (1, .int p1)]) [0, 1] rfl ?_
  unfold fX1_countOutside
  refine g_aload_n C 0 dX1_countOutside_0 rfl rfl ?_
  refine g_dup C dX1_countOutside_1 rfl ?_
  refine g_get C (fun _ h => List.mem_cons_of_mem _ (List.mem_append_right _ h)) 9 (LWg_9 K a _) rfl 12 (by decide) (List.mem_of_getElem? (i := 1) rfl) rfl rfl dX1_countOutside_2 ?_
  refine g_iload_n C 1 dX1_countOutside_5 rfl rfl ?_
  refine g_aload_n C 0 dX1_countOutside_6 rfl rfl ?_
  refine g_get C (fun _ h => List.mem_cons_of_mem _ (List.mem_append_right _ h)) 9 (LWg_9 K a _) rfl 9 (by decide) (List.mem_of_getElem? (i := 2) rfl) rfl rfl dX1_countOutside_7 ?_
  refine g_iand C dX1_countOutside_10 ?_
  refine g_callSi C (n := 1) (As := [.int (p1 &&& (σ 9 9))]) (rest := [.int (σ 9 12), .ref (a 9)]) (fun r h => mJ6_bitCount_0f7a4 l D K _ r h) gE.nil (τ := ()) gX1_countOutside_J6_bitCount_0f7a4 rfl (by decide +kernel) ⟨Nat.le_of_ble_eq_true rfl, Nat.le_of_ble_eq_true rfl, rfl, rfl⟩ rfl rfl (Nat.le_of_ble_eq_true rfl) dX1_countOutside_11 (fun r1 _ => ?_)
  refine g_iadd C dX1_countOutside_14 ?_
  refine g_topi (fun t2 => ?_)
  refine g_put C (ty := .int) (fun _ h => List.mem_cons_of_mem _ (List.mem_append_right _ h)) tyX1 tyX1_ok nmX1 9 (LWg_9 K a _) rfl 12 (by decide) (List.mem_of_getElem? (i := 1) rfl) rfl rfl (by decide +kernel) rfl rfl (Nat.le_of_ble_eq_true rfl) (LWp_9_12 K a _ _) dX1_countOutside_15 ?_
  refine g_state (fun u3 => ?_)
  refine g_aload_n C 0 dX1_countOutside_18 rfl rfl ?_
  refine g_dup C dX1_countOutside_19 rfl ?_
  refine g_get C (fun _ h => List.mem_cons_of_mem _ (List.mem_append_right _ h)) 9 (LWg_9 K a _) rfl 13 (by decide) (List.mem_of_getElem? (i := 3) rfl) rfl rfl dX1_countOutside_20 ?_
  refine g_iload_n C 1 dX1_countOutside_23 rfl rfl ?_
  refine g_aload_n C 0 dX1_countOutside_24 rfl rfl ?_
  refine g_get C (fun _ h => List.mem_cons_of_mem _ (List.mem_append_right _ h)) 9 (LWg_9 K a _) rfl 9 (by decide) (List.mem_of_getElem? (i := 2) rfl) rfl rfl dX1_countOutside_25 ?_
  refine g_iconst C (v := (-1 : Int32)) dX1_countOutside_28 ic_m1 ?_
  refine g_ixor C dX1_countOutside_29 ?_
  refine g_iand C dX1_countOutside_30 ?_
  refine g_callSi C (n := 1) (As := [.int (p1 &&& ((u3 9 9) ^^^ (-1 : Int32)))]) (rest := [.int (u3 9 13), .ref (a 9)]) (fun r h => mJ6_bitCount_0f7a4 l D K _ r h) gE.nil (τ := ()) gX1_countOutside_J6_bitCount_0f7a4 rfl (by decide +kernel) ⟨Nat.le_of_ble_eq_true rfl, Nat.le_of_ble_eq_true rfl, rfl, rfl⟩ rfl rfl (Nat.le_of_ble_eq_true rfl) dX1_countOutside_31 (fun r4 _ => ?_)
  refine g_iadd C dX1_countOutside_34 ?_
  refine g_topi (fun t5 => ?_)
  refine g_put C (ty := .int) (fun _ h => List.mem_cons_of_mem _ (List.mem_append_right _ h)) tyX1 tyX1_ok nmX1 9 (LWg_9 K a _) rfl 13 (by decide) (List.mem_of_getElem? (i := 3) rfl) rfl rfl (by decide +kernel) rfl rfl (Nat.le_of_ble_eq_true rfl) (LWp_9_13 K a _ _) dX1_countOutside_35 ?_
  refine g_state (fun u6 => ?_)
  refine g_aload_n C 0 dX1_countOutside_38 rfl rfl ?_
  refine g_dup C dX1_countOutside_39 rfl ?_
  refine g_get C (fun _ h => List.mem_cons_of_mem _ (List.mem_append_right _ h)) 9 (LWg_9 K a _) rfl 14 (by decide) (List.mem_of_getElem? (i := 4) rfl) rfl rfl dX1_countOutside_40 ?_
  refine g_iload_n C 1 dX1_countOutside_43 rfl rfl ?_
  refine g_aload_n C 0 dX1_countOutside_44 rfl rfl ?_
  refine g_get C (fun _ h => List.mem_cons_of_mem _ (List.mem_append_right _ h)) 9 (LWg_9 K a _) rfl 9 (by decide) (List.mem_of_getElem? (i := 2) rfl) rfl rfl dX1_countOutside_45 ?_
  refine g_iconst C (v := (-1 : Int32)) dX1_countOutside_48 ic_m1 ?_
  refine g_ixor C dX1_countOutside_49 ?_
  refine g_iand C dX1_countOutside_50 ?_
  refine g_ior C dX1_countOutside_51 ?_
  refine g_topi (fun t7 => ?_)
  refine g_put C (ty := .int) (fun _ h => List.mem_cons_of_mem _ (List.mem_append_right _ h)) tyX1 tyX1_ok nmX1 9 (LWg_9 K a _) rfl 14 (by decide) (List.mem_of_getElem? (i := 4) rfl) rfl rfl (by decide +kernel) rfl rfl (Nat.le_of_ble_eq_true rfl) (LWp_9_14 K a _ _) dX1_countOutside_52 ?_
  refine g_state (fun u8 => ?_)
  exact g_ret C ⟨dX1_countOutside_55, rfl, rfl⟩
set_option maxHeartbeats 4000000 in
set_option maxRecDepth 100000 in
theorem mX1_goOn (l : Launch) (D : va_G) (K : Nat → ClassId) (a : Nat → Nat) (σ : gS) (p1 : Int32) (r : (Int32 × gS)) (hf : fX1_goOn σ p1 = some r) : gMi l yX1_goOn wsX1_goOn { frames := 2, cells := 0, slots := 0, locals := 41 } D (gT K) (LW K a) [.ref (a 9), .int p1] σ r := by
  refine mk_i (nL := 2) (cc := cX1_goOn) (by decide) rfl (Nat.le_of_ble_eq_true rfl) rfl rfl hf (fun g C => ?_)
  refine g_sub C (lv' := [(0, .ref (a 9)), (1, .int p1)]) [0, 1] rfl ?_
  unfold fX1_goOn
  have h_21 : ∀ (σ : gS) (v1 : Int32) (s1 : Int32) (s2 : Int32) (s3 : Int32), g (fX1_goOn_L21 σ v1 s1 s2 s3) 21 [(0, .ref (a 9)), (1, .int v1)] [.int s3, .int s2, .int s1, .ref (a 13)] σ := by
    intro σ v1 s1 s2 s3
    unfold fX1_goOn_L21
    refine g_iadd C dX1_goOn_21 ?_
    refine g_topi (fun t1 => ?_)
    refine g_iastG C 13 0 (LWg_13 K a _) rfl (LWs_13 K a _ _) dX1_goOn_22 ?_
    refine g_state (fun u2 => ?_)
    refine g_aload_n C 0 dX1_goOn_23 rfl rfl ?_
    refine g_get C (fun _ h => List.mem_cons_of_mem _ (List.mem_append_right _ h)) 9 (LWg_9 K a _) rfl 4 (by decide) (List.mem_of_getElem? (i := 1) rfl) rfl rfl dX1_goOn_24 ?_
    refine g_iload_n C 1 dX1_goOn_27 rfl rfl ?_
    refine g_ialdG C 13 0 (LWg_13 K a _) rfl dX1_goOn_28 ?_
    refine g_iconst C (v := (3 : Int32)) dX1_goOn_29 ic_3 ?_
    refine g_icmp_le C 59 dX1_goOn_30 (by decide) (fun _ => ?_) (fun _ => ?_)
    · refine g_aload_n C 0 dX1_goOn_59 rfl rfl ?_
      refine g_get C (fun _ h => List.mem_cons_of_mem _ (List.mem_append_right _ h)) 9 (LWg_9 K a _) rfl 4 (by decide) (List.mem_of_getElem? (i := 1) rfl) rfl rfl dX1_goOn_60 ?_
      refine g_iload_n C 1 dX1_goOn_63 rfl rfl ?_
      refine g_ialdG C 13 0 (LWg_13 K a _) rfl dX1_goOn_64 ?_
      refine g_bipush C (v := (-3 : Int32)) dX1_goOn_65 (by decide) ?_
      refine g_icmp_ge C 84 dX1_goOn_67 (by decide) (fun _ => ?_) (fun _ => ?_)
      · refine g_iconst C (v := (0 : Int32)) dX1_goOn_84 ic_0 ?_
        exact g_ret C ⟨dX1_goOn_85, rfl, rfl⟩
      · refine g_aload_n C 0 dX1_goOn_70 rfl rfl ?_
        refine g_get C (fun _ h => List.mem_cons_of_mem _ (List.mem_append_right _ h)) 9 (LWg_9 K a _) rfl 2 (by decide) (List.mem_of_getElem? (i := 3) rfl) rfl rfl dX1_goOn_71 ?_
        refine g_iload_n C 1 dX1_goOn_74 rfl rfl ?_
        refine g_iconst C (v := (0 : Int32)) dX1_goOn_75 ic_0 ?_
        refine g_iastG C 11 0 (LWg_11 K a _) rfl (LWs_11 K a _ _) dX1_goOn_76 ?_
        refine g_state (fun u3 => ?_)
        refine g_aload_n C 0 dX1_goOn_77 rfl rfl ?_
        refine g_get C (fun _ h => List.mem_cons_of_mem _ (List.mem_append_right _ h)) 9 (LWg_9 K a _) rfl 1 (by decide) (List.mem_of_getElem? (i := 4) rfl) rfl rfl dX1_goOn_78 ?_
        refine g_iload_n C 1 dX1_goOn_81 rfl rfl ?_
        refine g_ialdG C 10 0 (LWg_10 K a _) rfl dX1_goOn_82 ?_
        exact g_ret C ⟨dX1_goOn_83, rfl, rfl⟩
    · refine g_aload_n C 0 dX1_goOn_33 rfl rfl ?_
      refine g_get C (fun _ h => List.mem_cons_of_mem _ (List.mem_append_right _ h)) 9 (LWg_9 K a _) rfl 2 (by decide) (List.mem_of_getElem? (i := 3) rfl) rfl rfl dX1_goOn_34 ?_
      refine g_iload_n C 1 dX1_goOn_37 rfl rfl ?_
      refine g_iconst C (v := (2 : Int32)) dX1_goOn_38 ic_2 ?_
      refine g_iastG C 11 0 (LWg_11 K a _) rfl (LWs_11 K a _ _) dX1_goOn_39 ?_
      refine g_state (fun u4 => ?_)
      refine g_aload_n C 0 dX1_goOn_40 rfl rfl ?_
      refine g_aload_n C 0 dX1_goOn_41 rfl rfl ?_
      refine g_get C (fun _ h => List.mem_cons_of_mem _ (List.mem_append_right _ h)) 9 (LWg_9 K a _) rfl 1 (by decide) (List.mem_of_getElem? (i := 4) rfl) rfl rfl dX1_goOn_42 ?_
      refine g_iload_n C 1 dX1_goOn_45 rfl rfl ?_
      refine g_ialdG C 10 0 (LWg_10 K a _) rfl dX1_goOn_46 ?_
      refine g_aload_n C 0 dX1_goOn_47 rfl rfl ?_
      refine g_get C (fun _ h => List.mem_cons_of_mem _ (List.mem_append_right _ h)) 9 (LWg_9 K a _) rfl 8 (by decide) (List.mem_of_getElem? (i := 5) rfl) rfl rfl dX1_goOn_48 ?_
      refine g_iconst C (v := (-1 : Int32)) dX1_goOn_51 ic_m1 ?_
      refine g_ixor C dX1_goOn_52 ?_
      refine g_iand C dX1_goOn_53 ?_
      refine g_callVv C (n := 1) (As := [.int ((u4 10 v1.toNatClampNeg) &&& ((u4 9 8) ^^^ (-1 : Int32)))]) (rest := []) (fun r h => mX1_countOutside l D K a _ _ r h) gE.same gX1_goOn_X1_countOutside rfl (by decide +kernel) ⟨Nat.le_of_ble_eq_true rfl, Nat.le_of_ble_eq_true rfl, rfl, rfl⟩ 9 (LWg_9 K a _) rfl rfl rfl (Nat.le_of_ble_eq_true rfl) dX1_goOn_54 (fun r5 _ => ?_)
      refine g_iconst C (v := (0 : Int32)) dX1_goOn_57 ic_0 ?_
      exact g_ret C ⟨dX1_goOn_58, rfl, rfl⟩
  refine g_aload_n C 0 dX1_goOn_0 rfl rfl ?_
  refine g_get C (fun _ h => List.mem_cons_of_mem _ (List.mem_append_right _ h)) 9 (LWg_9 K a _) rfl 4 (by decide) (List.mem_of_getElem? (i := 1) rfl) rfl rfl dX1_goOn_1 ?_
  refine g_iload_n C 1 dX1_goOn_4 rfl rfl ?_
  refine g_dup2 C dX1_goOn_5 rfl rfl ?_
  refine g_ialdG C 13 0 (LWg_13 K a _) rfl dX1_goOn_6 ?_
  refine g_aload_n C 0 dX1_goOn_7 rfl rfl ?_
  refine g_get C (fun _ h => List.mem_cons_of_mem _ (List.mem_append_right _ h)) 9 (LWg_9 K a _) rfl 5 (by decide) (List.mem_of_getElem? (i := 2) rfl) rfl rfl dX1_goOn_8 ?_
  refine g_iload_n C 1 dX1_goOn_11 rfl rfl ?_
  refine g_zaldG C 14 1 (LWg_14 K a _) rfl dX1_goOn_12 ?_
  refine g_if_eq C 20 dX1_goOn_13 (by decide) (fun _ => ?_) (fun _ => ?_)
  · refine g_iconst C (v := (-1 : Int32)) dX1_goOn_20 ic_m1 ?_
    exact h_21 σ p1 p1 (σ 13 p1.toNatClampNeg) (-1 : Int32)
  · refine g_iconst C (v := (1 : Int32)) dX1_goOn_16 ic_1 ?_
    refine g_goto C 21 dX1_goOn_17 (by decide) ?_
    exact h_21 σ p1 p1 (σ 13 p1.toNatClampNeg) (1 : Int32)
set_option maxHeartbeats 4000000 in
set_option maxRecDepth 100000 in
theorem mX1_forgetReading (l : Launch) (D : va_G) (K : Nat → ClassId) (a : Nat → Nat) (σ : gS) (p1 : Int32) (r : gS) (hf : fX1_forgetReading σ p1 = some r) : gMv l yX1_forgetReading wsX1_forgetReading { frames := 2, cells := 0, slots := 0, locals := 46 } D (gT K) (LW K a) [.ref (a 9), .int p1] σ r := by
  refine mk_v (nL := 3) (cc := cX1_forgetReading) (by decide) rfl (Nat.le_of_ble_eq_true rfl) rfl rfl hf (fun g C => ?_)
  refine g_sub C (lv' := [(0, .ref (a 9)), (1, .int p1)]) [0, 1] rfl ?_
  unfold fX1_forgetReading
  have h_7 : ∀ (n : Nat) (σ : gS) (v1 : Int32) (v2 : Int32), g (fX1_forgetReading_L7 n σ v1 v2) 7 [(0, .ref (a 9)), (1, .int v1), (2, .int v2)] [] σ := by
    intro n
    induction n with
    | zero =>
      intro σ v1 v2
      exact g_none C
    | succ n7 ih_7 =>
      intro σ v1 v2
      unfold fX1_forgetReading_L7
      refine g_iload_n C 2 dX1_forgetReading_7 rfl rfl ?_
      refine g_bipush C (v := (20 : Int32)) dX1_forgetReading_8 (by decide) ?_
      refine g_icmp_ge C 34 dX1_forgetReading_10 (by decide) (fun _ => ?_) (fun _ => ?_)
      · refine g_aload_n C 0 dX1_forgetReading_34 rfl rfl ?_
        refine g_dup C dX1_forgetReading_35 rfl ?_
        refine g_get C (fun _ h => List.mem_cons_of_mem _ (List.mem_append_left _ (List.mem_append_right _ h))) 9 (LWg_9 K a _) rfl 9 (by decide) (List.mem_of_getElem? (i := 2) rfl) rfl rfl dX1_forgetReading_36 ?_
        refine g_iload_n C 1 dX1_forgetReading_39 rfl rfl ?_
        refine g_iconst C (v := (-1 : Int32)) dX1_forgetReading_40 ic_m1 ?_
        refine g_ixor C dX1_forgetReading_41 ?_
        refine g_iand C dX1_forgetReading_42 ?_
        refine g_topi (fun t1 => ?_)
        refine g_put C (ty := .int) (fun _ h => List.mem_cons_of_mem _ (List.mem_append_left _ (List.mem_append_right _ h))) tyX1 tyX1_ok nmX1 9 (LWg_9 K a _) rfl 9 (by decide) (List.mem_of_getElem? (i := 2) rfl) rfl rfl (by decide +kernel) rfl rfl (Nat.le_of_ble_eq_true rfl) (LWp_9_9 K a _ _) dX1_forgetReading_43 ?_
        refine g_state (fun u2 => ?_)
        refine g_aload_n C 0 dX1_forgetReading_46 rfl rfl ?_
        refine g_get C (fun _ h => List.mem_cons_of_mem _ (List.mem_append_left _ (List.mem_append_right _ h))) 9 (LWg_9 K a _) rfl 0 (by decide) (List.mem_of_getElem? (i := 3) rfl) rfl rfl dX1_forgetReading_47 ?_
        refine g_iload_n C 1 dX1_forgetReading_50 rfl rfl ?_
        refine g_callVv C (n := 1) (As := [.int v1]) (rest := []) (fun r h => mX0_forget l D K a _ _ r h) gE.same gX1_forgetReading_X0_forget rfl (by decide +kernel) ⟨Nat.le_of_ble_eq_true rfl, Nat.le_of_ble_eq_true rfl, rfl, rfl⟩ 0 (LWg_0 K a _) rfl rfl rfl (Nat.le_of_ble_eq_true rfl) dX1_forgetReading_51 (fun r3 _ => ?_)
        exact g_ret C ⟨dX1_forgetReading_54, rfl, rfl⟩
      · refine g_iload_n C 1 dX1_forgetReading_13 rfl rfl ?_
        refine g_iload_n C 2 dX1_forgetReading_14 rfl rfl ?_
        refine g_callNi C (n := 2) (As := [.int v1, .int v2]) (rest := []) (fun r h => mX3_has l D K _ _ r h) gE.nil (τ := ()) gX1_forgetReading_X3_has_n75 (List.mem_of_getElem? (i := 5) rfl) (List.mem_of_getElem? (i := 5) rfl) (List.mem_of_getElem? (i := 4) rfl) rfl (by decide +kernel) ⟨Nat.le_of_ble_eq_true rfl, Nat.le_of_ble_eq_true rfl, rfl, rfl⟩ rfl rfl (Nat.le_of_ble_eq_true rfl) dX1_forgetReading_15 (fun r4 _ => ?_)
        refine g_if_eq C 28 dX1_forgetReading_18 (by decide) (fun _ => ?_) (fun _ => ?_)
        · refine g_iinc C (w := (1 : Int32)) (lv' := [(2, .int (v2 + (1 : Int32))), (0, .ref (a 9)), (1, .int v1)]) 2 dX1_forgetReading_28 rfl ic_1 (by decide) rfl ?_
          refine g_goto C 7 dX1_forgetReading_31 (by decide) ?_
          refine g_sub C (lv' := [(0, .ref (a 9)), (1, .int v1), (2, .int (v2 + (1 : Int32)))]) [1, 2, 0] rfl ?_
          exact ih_7 σ v1 (v2 + (1 : Int32))
        · refine g_aload_n C 0 dX1_forgetReading_21 rfl rfl ?_
          refine g_get C (fun _ h => List.mem_cons_of_mem _ (List.mem_append_left _ (List.mem_append_right _ h))) 9 (LWg_9 K a _) rfl 6 (by decide) (List.mem_of_getElem? (i := 1) rfl) rfl rfl dX1_forgetReading_22 ?_
          refine g_iload_n C 2 dX1_forgetReading_25 rfl rfl ?_
          refine g_iconst C (v := (0 : Int32)) dX1_forgetReading_26 ic_0 ?_
          refine g_iastG C 15 0 (LWg_15 K a _) rfl (LWs_15 K a _ _) dX1_forgetReading_27 ?_
          refine g_state (fun u5 => ?_)
          refine g_iinc C (w := (1 : Int32)) (lv' := [(2, .int (v2 + (1 : Int32))), (0, .ref (a 9)), (1, .int v1)]) 2 dX1_forgetReading_28 rfl ic_1 (by decide) rfl ?_
          refine g_goto C 7 dX1_forgetReading_31 (by decide) ?_
          refine g_sub C (lv' := [(0, .ref (a 9)), (1, .int v1), (2, .int (v2 + (1 : Int32)))]) [1, 2, 0] rfl ?_
          exact ih_7 u5 v1 (v2 + (1 : Int32))
  refine g_iload_n C 1 dX1_forgetReading_0 rfl rfl ?_
  refine g_if_ne C 5 dX1_forgetReading_1 (by decide) (fun _ => ?_) (fun _ => ?_)
  · exact g_ret C ⟨dX1_forgetReading_4, rfl, rfl⟩
  · refine g_iconst C (v := (0 : Int32)) dX1_forgetReading_5 ic_0 ?_
    refine g_istore_n C (lv' := [(2, .int (0 : Int32)), (0, .ref (a 9)), (1, .int p1)]) dX1_forgetReading_6 rfl (by decide) rfl ?_
    refine g_sub C (lv' := [(0, .ref (a 9)), (1, .int p1), (2, .int (0 : Int32))]) [1, 2, 0] rfl ?_
    exact h_7 gFuel σ p1 (0 : Int32)
set_option maxHeartbeats 4000000 in
set_option maxRecDepth 100000 in
theorem mX1_readBooks (l : Launch) (D : va_G) (K : Nat → ClassId) (a : Nat → Nat) (σ : gS) (p1 : Int32) (r : gS) (hf : fX1_readBooks σ p1 = some r) : gMv l yX1_readBooks wsX1_readBooks { frames := 3, cells := 0, slots := 0, locals := 68 } D (gT K) (LW K a) [.ref (a 9), .int p1] σ r := by
  refine mk_v (nL := 4) (cc := cX1_readBooks) (by decide) rfl (Nat.le_of_ble_eq_true rfl) rfl rfl hf (fun g C => ?_)
  refine g_sub C (lv' := [(0, .ref (a 9)), (1, .int p1)]) [0, 1] rfl ?_
  unfold fX1_readBooks
  have h_23 : ∀ (n : Nat) (σ : gS) (v1 : Int32) (v2 : Int32) (v3 : Int32), g (fX1_readBooks_L23 n σ v1 v2 v3) 23 [(0, .ref (a 9)), (1, .int v1), (2, .int v2), (3, .int v3)] [] σ := by
    intro n
    induction n with
    | zero =>
      intro σ v1 v2 v3
      exact g_none C
    | succ n23 ih_23 =>
      intro σ v1 v2 v3
      unfold fX1_readBooks_L23
      refine g_iload_n C 3 dX1_readBooks_23 rfl rfl ?_
      refine g_bipush C (v := (20 : Int32)) dX1_readBooks_24 (by decide) ?_
      refine g_icmp_ge C 92 dX1_readBooks_26 (by decide) (fun _ => ?_) (fun _ => ?_)
      · exact g_ret C ⟨dX1_readBooks_92, rfl, rfl⟩
      · refine g_iload_n C 2 dX1_readBooks_29 rfl rfl ?_
        refine g_if_eq C 92 dX1_readBooks_30 (by decide) (fun _ => ?_) (fun _ => ?_)
        · exact g_ret C ⟨dX1_readBooks_92, rfl, rfl⟩
        · refine g_iload_n C 2 dX1_readBooks_33 rfl rfl ?_
          refine g_iload_n C 3 dX1_readBooks_34 rfl rfl ?_
          refine g_callNi C (n := 2) (As := [.int v2, .int v3]) (rest := []) (fun r h => mX3_has l D K _ _ r h) gE.nil (τ := ()) gX1_readBooks_X3_has_n75 (List.mem_of_getElem? (i := 5) rfl) (List.mem_of_getElem? (i := 33) rfl) (List.mem_of_getElem? (i := 32) rfl) rfl (by decide +kernel) ⟨Nat.le_of_ble_eq_true rfl, Nat.le_of_ble_eq_true rfl, rfl, rfl⟩ rfl rfl (Nat.le_of_ble_eq_true rfl) dX1_readBooks_35 (fun r1 _ => ?_)
          refine g_if_eq C 86 dX1_readBooks_38 (by decide) (fun _ => ?_) (fun _ => ?_)
          · refine g_iinc C (w := (1 : Int32)) (lv' := [(3, .int (v3 + (1 : Int32))), (0, .ref (a 9)), (1, .int v1), (2, .int v2)]) 3 dX1_readBooks_86 rfl ic_1 (by decide) rfl ?_
            refine g_goto C 23 dX1_readBooks_89 (by decide) ?_
            refine g_sub C (lv' := [(0, .ref (a 9)), (1, .int v1), (2, .int v2), (3, .int (v3 + (1 : Int32)))]) [1, 2, 3, 0] rfl ?_
            exact ih_23 σ v1 v2 (v3 + (1 : Int32))
          · refine g_aload_n C 0 dX1_readBooks_41 rfl rfl ?_
            refine g_get C (fun _ h => List.mem_cons_of_mem _ (List.mem_append_left _ (List.mem_append_right _ h))) 9 (LWg_9 K a _) rfl 6 (by decide) (List.mem_of_getElem? (i := 3) rfl) rfl rfl dX1_readBooks_42 ?_
            refine g_iload_n C 3 dX1_readBooks_45 rfl rfl ?_
            refine g_dup2 C dX1_readBooks_46 rfl rfl ?_
            refine g_ialdG C 15 0 (LWg_15 K a _) rfl dX1_readBooks_47 ?_
            refine g_iconst C (v := (1 : Int32)) dX1_readBooks_48 ic_1 ?_
            refine g_iadd C dX1_readBooks_49 ?_
            refine g_topi (fun t2 => ?_)
            refine g_iastG C 15 0 (LWg_15 K a _) rfl (LWs_15 K a _ _) dX1_readBooks_50 ?_
            refine g_state (fun u3 => ?_)
            refine g_aload_n C 0 dX1_readBooks_51 rfl rfl ?_
            refine g_get C (fun _ h => List.mem_cons_of_mem _ (List.mem_append_left _ (List.mem_append_right _ h))) 9 (LWg_9 K a _) rfl 6 (by decide) (List.mem_of_getElem? (i := 3) rfl) rfl rfl dX1_readBooks_52 ?_
            refine g_iload_n C 3 dX1_readBooks_55 rfl rfl ?_
            refine g_ialdG C 15 0 (LWg_15 K a _) rfl dX1_readBooks_56 ?_
            refine g_aload_n C 0 dX1_readBooks_57 rfl rfl ?_
            refine g_get C (fun _ h => List.mem_cons_of_mem _ (List.mem_append_left _ (List.mem_append_right _ h))) 9 (LWg_9 K a _) rfl 10 (by decide) (List.mem_of_getElem? (i := 4) rfl) rfl rfl dX1_readBooks_58 ?_
            refine g_icmp_lt C 86 dX1_readBooks_61 (by decide) (fun _ => ?_) (fun _ => ?_)
            · refine g_iinc C (w := (1 : Int32)) (lv' := [(3, .int (v3 + (1 : Int32))), (0, .ref (a 9)), (1, .int v1), (2, .int v2)]) 3 dX1_readBooks_86 rfl ic_1 (by decide) rfl ?_
              refine g_goto C 23 dX1_readBooks_89 (by decide) ?_
              refine g_sub C (lv' := [(0, .ref (a 9)), (1, .int v1), (2, .int v2), (3, .int (v3 + (1 : Int32)))]) [1, 2, 3, 0] rfl ?_
              exact ih_23 u3 v1 v2 (v3 + (1 : Int32))
            · refine g_aload_n C 0 dX1_readBooks_64 rfl rfl ?_
              refine g_dup C dX1_readBooks_65 rfl ?_
              refine g_get C (fun _ h => List.mem_cons_of_mem _ (List.mem_append_left _ (List.mem_append_right _ h))) 9 (LWg_9 K a _) rfl 9 (by decide) (List.mem_of_getElem? (i := 2) rfl) rfl rfl dX1_readBooks_66 ?_
              refine g_iload_n C 3 dX1_readBooks_69 rfl rfl ?_
              refine g_callNi C (n := 1) (As := [.int v3]) (rest := [.int (u3 9 9), .ref (a 9)]) (fun r h => mX3_bit l D K _ r h) gE.nil (τ := ()) gX1_readBooks_X3_bit_n108 (List.mem_of_getElem? (i := 10) rfl) (List.mem_of_getElem? (i := 33) rfl) (List.mem_of_getElem? (i := 35) rfl) rfl (by decide +kernel) ⟨Nat.le_of_ble_eq_true rfl, Nat.le_of_ble_eq_true rfl, rfl, rfl⟩ rfl rfl (Nat.le_of_ble_eq_true rfl) dX1_readBooks_70 (fun r4 _ => ?_)
              refine g_ior C dX1_readBooks_73 ?_
              refine g_topi (fun t5 => ?_)
              refine g_put C (ty := .int) (fun _ h => List.mem_cons_of_mem _ (List.mem_append_left _ (List.mem_append_right _ h))) tyX1 tyX1_ok nmX1 9 (LWg_9 K a _) rfl 9 (by decide) (List.mem_of_getElem? (i := 2) rfl) rfl rfl (by decide +kernel) rfl rfl (Nat.le_of_ble_eq_true rfl) (LWp_9_9 K a _ _) dX1_readBooks_74 ?_
              refine g_state (fun u6 => ?_)
              refine g_aload_n C 0 dX1_readBooks_77 rfl rfl ?_
              refine g_get C (fun _ h => List.mem_cons_of_mem _ (List.mem_append_left _ (List.mem_append_right _ h))) 9 (LWg_9 K a _) rfl 0 (by decide) (List.mem_of_getElem? (i := 5) rfl) rfl rfl dX1_readBooks_78 ?_
              refine g_iload_n C 1 dX1_readBooks_81 rfl rfl ?_
              refine g_iload_n C 3 dX1_readBooks_82 rfl rfl ?_
              refine g_callVv C (n := 2) (As := [.int v1, .int v3]) (rest := []) (fun r h => mX0_putAtEnd l D K a _ _ _ r h) gE.same gX1_readBooks_X0_putAtEnd rfl (by decide +kernel) ⟨Nat.le_of_ble_eq_true rfl, Nat.le_of_ble_eq_true rfl, rfl, rfl⟩ 0 (LWg_0 K a _) rfl rfl rfl (Nat.le_of_ble_eq_true rfl) dX1_readBooks_83 (fun r7 _ => ?_)
              refine g_iinc C (w := (1 : Int32)) (lv' := [(3, .int (v3 + (1 : Int32))), (0, .ref (a 9)), (1, .int v1), (2, .int v2)]) 3 dX1_readBooks_86 rfl ic_1 (by decide) rfl ?_
              refine g_goto C 23 dX1_readBooks_89 (by decide) ?_
              refine g_sub C (lv' := [(0, .ref (a 9)), (1, .int v1), (2, .int v2), (3, .int (v3 + (1 : Int32)))]) [1, 2, 3, 0] rfl ?_
              exact ih_23 r7 v1 v2 (v3 + (1 : Int32))
  refine g_aload_n C 0 dX1_readBooks_0 rfl rfl ?_
  refine g_iload_n C 1 dX1_readBooks_1 rfl rfl ?_
  refine g_iconst C (v := (1 : Int32)) dX1_readBooks_2 ic_1 ?_
  refine g_callVi C (n := 2) (As := [.int p1, .int (1 : Int32)]) (rest := []) (fun r h => mX1_booksRead l D K a _ _ _ r h) gE.same gX1_readBooks_X1_booksRead rfl (by decide +kernel) ⟨Nat.le_of_ble_eq_true rfl, Nat.le_of_ble_eq_true rfl, rfl, rfl⟩ 9 (LWg_9 K a _) rfl rfl rfl (Nat.le_of_ble_eq_true rfl) dX1_readBooks_3 (fun r8 _ => ?_)
  refine g_aload_n C 0 dX1_readBooks_6 rfl rfl ?_
  refine g_get C (fun _ h => List.mem_cons_of_mem _ (List.mem_append_left _ (List.mem_append_right _ h))) 9 (LWg_9 K a _) rfl 8 (by decide) (List.mem_of_getElem? (i := 1) rfl) rfl rfl dX1_readBooks_7 ?_
  refine g_iconst C (v := (-1 : Int32)) dX1_readBooks_10 ic_m1 ?_
  refine g_ixor C dX1_readBooks_11 ?_
  refine g_iand C dX1_readBooks_12 ?_
  refine g_aload_n C 0 dX1_readBooks_13 rfl rfl ?_
  refine g_get C (fun _ h => List.mem_cons_of_mem _ (List.mem_append_left _ (List.mem_append_right _ h))) 9 (LWg_9 K a _) rfl 9 (by decide) (List.mem_of_getElem? (i := 2) rfl) rfl rfl dX1_readBooks_14 ?_
  refine g_iconst C (v := (-1 : Int32)) dX1_readBooks_17 ic_m1 ?_
  refine g_ixor C dX1_readBooks_18 ?_
  refine g_iand C dX1_readBooks_19 ?_
  refine g_topi (fun t9 => ?_)
  refine g_istore_n C (lv' := [(2, .int t9), (0, .ref (a 9)), (1, .int p1)]) dX1_readBooks_20 rfl (by decide) rfl ?_
  refine g_iconst C (v := (0 : Int32)) dX1_readBooks_21 ic_0 ?_
  refine g_istore_n C (lv' := [(3, .int (0 : Int32)), (2, .int t9), (0, .ref (a 9)), (1, .int p1)]) dX1_readBooks_22 rfl (by decide) rfl ?_
  refine g_sub C (lv' := [(0, .ref (a 9)), (1, .int p1), (2, .int t9), (3, .int (0 : Int32))]) [2, 3, 1, 0] rfl ?_
  exact h_23 gFuel r8.2 p1 t9 (0 : Int32)
set_option maxHeartbeats 4000000 in
set_option maxRecDepth 100000 in
theorem mX1_passTick (l : Launch) (D : va_G) (K : Nat → ClassId) (a : Nat → Nat) (σ : gS) (r : gS) (hf : fX1_passTick σ  = some r) : gMv l yX1_passTick wsX1_passTick { frames := 4, cells := 0, slots := 0, locals := 91 } D (gT K) (LW K a) [.ref (a 9)] σ r := by
  refine mk_v (nL := 3) (cc := cX1_passTick) (by decide) rfl (Nat.le_of_ble_eq_true rfl) rfl rfl hf (fun g C => ?_)
  refine g_sub C (lv' := [(0, .ref (a 9))]) [0] rfl ?_
  unfold fX1_passTick
  have h_12 : ∀ (n : Nat) (σ : gS) (v1 : Int32), g (fX1_passTick_L12 n σ v1) 12 [(0, .ref (a 9)), (1, .int v1)] [] σ := by
    intro n
    induction n with
    | zero =>
      intro σ v1
      exact g_none C
    | succ n12 ih_12 =>
      have h_45 : ∀ (n : Nat) (σ : gS) (v1 : Int32), g (fX1_passTick_L45 n σ v1) 45 [(0, .ref (a 9)), (1, .int v1)] [] σ := by
        intro n
        induction n with
        | zero =>
          intro σ v1
          exact g_none C
        | succ n45 ih_45 =>
          have h_63 : ∀ (n : Nat) (σ : gS) (v1 : Int32), g (fX1_passTick_L63 n σ v1) 63 [(0, .ref (a 9)), (1, .int v1)] [] σ := by
            intro n
            induction n with
            | zero =>
              intro σ v1
              exact g_none C
            | succ n63 ih_63 =>
              intro σ v1
              unfold fX1_passTick_L63
              refine g_iload_n C 1 dX1_passTick_63 rfl rfl ?_
              refine g_iconst C (v := (3 : Int32)) dX1_passTick_64 ic_3 ?_
              refine g_icmp_ge C 104 dX1_passTick_65 (by decide) (fun _ => ?_) (fun _ => ?_)
              · exact g_ret C ⟨dX1_passTick_104, rfl, rfl⟩
              · refine g_aload_n C 0 dX1_passTick_68 rfl rfl ?_
                refine g_get C (fun _ h => List.mem_cons_of_mem _ (List.mem_append_left _ (List.mem_append_right _ h))) 9 (LWg_9 K a _) rfl 0 (by decide) (List.mem_of_getElem? (i := 3) rfl) rfl rfl dX1_passTick_69 ?_
                refine g_iload_n C 1 dX1_passTick_72 rfl rfl ?_
                refine g_aload_n C 0 dX1_passTick_73 rfl rfl ?_
                refine g_get C (fun _ h => List.mem_cons_of_mem _ (List.mem_append_left _ (List.mem_append_right _ h))) 9 (LWg_9 K a _) rfl 11 (by decide) (List.mem_of_getElem? (i := 1) rfl) rfl rfl dX1_passTick_74 ?_
                refine g_callVi C (n := 2) (As := [.int v1, .int (σ 9 11)]) (rest := []) (fun r h => mX0_passTick l D K a _ _ _ r h) gE.same gX1_passTick_X0_passTick rfl (by decide +kernel) ⟨Nat.le_of_ble_eq_true rfl, Nat.le_of_ble_eq_true rfl, rfl, rfl⟩ 0 (LWg_0 K a _) rfl rfl rfl (Nat.le_of_ble_eq_true rfl) dX1_passTick_77 (fun r1 _ => ?_)
                refine g_istore_n C (lv' := [(2, .int r1.1), (0, .ref (a 9)), (1, .int v1)]) dX1_passTick_80 rfl (by decide) rfl ?_
                refine g_iload_n C 0 dX1_passTick_81 rfl rfl ?_
                refine g_callNi C (n := 1) (As := [.int r1.1]) (rest := []) (fun r h => mX3_isBook l D K _ r h) gE.nil (τ := ()) gX1_passTick_X3_isBook_n87 (List.mem_of_getElem? (i := 8) rfl) (List.mem_of_getElem? (i := 35) rfl) (List.mem_of_getElem? (i := 88) rfl) rfl (by decide +kernel) ⟨Nat.le_of_ble_eq_true rfl, Nat.le_of_ble_eq_true rfl, rfl, rfl⟩ rfl rfl (Nat.le_of_ble_eq_true rfl) dX1_passTick_82 (fun r2 _ => ?_)
                refine g_if_eq C 98 dX1_passTick_85 (by decide) (fun _ => ?_) (fun _ => ?_)
                · refine g_iinc C (w := (1 : Int32)) (lv' := [(1, .int (v1 + (1 : Int32))), (2, .int r1.1), (0, .ref (a 9))]) 2 dX1_passTick_98 rfl ic_1 (by decide) rfl ?_
                  refine g_goto C 63 dX1_passTick_101 (by decide) ?_
                  refine g_sub C (lv' := [(0, .ref (a 9)), (1, .int (v1 + (1 : Int32)))]) [2, 0] rfl ?_
                  exact ih_63 r1.2 (v1 + (1 : Int32))
                · refine g_aload_n C 1 dX1_passTick_88 rfl rfl ?_
                  refine g_get C (fun _ h => List.mem_cons_of_mem _ (List.mem_append_left _ (List.mem_append_right _ h))) 9 (LWg_9 K a _) rfl 7 (by decide) (List.mem_of_getElem? (i := 4) rfl) rfl rfl dX1_passTick_89 ?_
                  refine g_iload_n C 0 dX1_passTick_92 rfl rfl ?_
                  refine g_dup2 C dX1_passTick_93 rfl rfl ?_
                  refine g_ialdG C 16 0 (LWg_16 K a _) rfl dX1_passTick_94 ?_
                  refine g_iconst C (v := (1 : Int32)) dX1_passTick_95 ic_1 ?_
                  refine g_iadd C dX1_passTick_96 ?_
                  refine g_topi (fun t3 => ?_)
                  refine g_iastG C 16 0 (LWg_16 K a _) rfl (LWs_16 K a _ _) dX1_passTick_97 ?_
                  refine g_state (fun u4 => ?_)
                  refine g_iinc C (w := (1 : Int32)) (lv' := [(1, .int (v1 + (1 : Int32))), (2, .int r1.1), (0, .ref (a 9))]) 2 dX1_passTick_98 rfl ic_1 (by decide) rfl ?_
                  refine g_goto C 63 dX1_passTick_101 (by decide) ?_
                  refine g_sub C (lv' := [(0, .ref (a 9)), (1, .int (v1 + (1 : Int32)))]) [2, 0] rfl ?_
                  exact ih_63 u4 (v1 + (1 : Int32))
          intro σ v1
          unfold fX1_passTick_L45
          refine g_iload_n C 1 dX1_passTick_45 rfl rfl ?_
          refine g_iconst C (v := (3 : Int32)) dX1_passTick_46 ic_3 ?_
          refine g_icmp_ge C 61 dX1_passTick_47 (by decide) (fun _ => ?_) (fun _ => ?_)
          · refine g_iconst C (v := (0 : Int32)) dX1_passTick_61 ic_0 ?_
            refine g_istore_n C (lv' := [(1, .int (0 : Int32)), (0, .ref (a 9))]) dX1_passTick_62 rfl (by decide) rfl ?_
            refine g_sub C (lv' := [(0, .ref (a 9)), (1, .int (0 : Int32))]) [1, 0] rfl ?_
            exact h_63 gFuel σ (0 : Int32)
          · refine g_aload_n C 0 dX1_passTick_50 rfl rfl ?_
            refine g_iload_n C 1 dX1_passTick_51 rfl rfl ?_
            refine g_callVv C (n := 1) (As := [.int v1]) (rest := []) (fun r h => mX1_readBooks l D K a _ _ r h) gE.same gX1_passTick_X1_readBooks rfl (by decide +kernel) ⟨Nat.le_of_ble_eq_true rfl, Nat.le_of_ble_eq_true rfl, rfl, rfl⟩ 9 (LWg_9 K a _) rfl rfl rfl (Nat.le_of_ble_eq_true rfl) dX1_passTick_52 (fun r5 _ => ?_)
            refine g_iinc C (w := (1 : Int32)) (lv' := [(1, .int (v1 + (1 : Int32))), (0, .ref (a 9))]) 1 dX1_passTick_55 rfl ic_1 (by decide) rfl ?_
            refine g_goto C 45 dX1_passTick_58 (by decide) ?_
            refine g_sub C (lv' := [(0, .ref (a 9)), (1, .int (v1 + (1 : Int32)))]) [1, 0] rfl ?_
            exact ih_45 r5 (v1 + (1 : Int32))
      intro σ v1
      unfold fX1_passTick_L12
      refine g_iload_n C 1 dX1_passTick_12 rfl rfl ?_
      refine g_bipush C (v := (6 : Int32)) dX1_passTick_13 (by decide) ?_
      refine g_icmp_ge C 43 dX1_passTick_15 (by decide) (fun _ => ?_) (fun _ => ?_)
      · refine g_iconst C (v := (0 : Int32)) dX1_passTick_43 ic_0 ?_
        refine g_istore_n C (lv' := [(1, .int (0 : Int32)), (0, .ref (a 9))]) dX1_passTick_44 rfl (by decide) rfl ?_
        refine g_sub C (lv' := [(0, .ref (a 9)), (1, .int (0 : Int32))]) [1, 0] rfl ?_
        exact h_45 gFuel σ (0 : Int32)
      · refine g_aload_n C 0 dX1_passTick_18 rfl rfl ?_
        refine g_get C (fun _ h => List.mem_cons_of_mem _ (List.mem_append_left _ (List.mem_append_right _ h))) 9 (LWg_9 K a _) rfl 2 (by decide) (List.mem_of_getElem? (i := 2) rfl) rfl rfl dX1_passTick_19 ?_
        refine g_iload_n C 1 dX1_passTick_22 rfl rfl ?_
        refine g_ialdG C 11 0 (LWg_11 K a _) rfl dX1_passTick_23 ?_
        refine g_iconst C (v := (1 : Int32)) dX1_passTick_24 ic_1 ?_
        refine g_icmp_ne C 37 dX1_passTick_25 (by decide) (fun _ => ?_) (fun _ => ?_)
        · refine g_aload_n C 0 dX1_passTick_28 rfl rfl ?_
          refine g_aload_n C 0 dX1_passTick_29 rfl rfl ?_
          refine g_iload_n C 1 dX1_passTick_30 rfl rfl ?_
          refine g_callVi C (n := 1) (As := [.int v1]) (rest := [.ref (a 9)]) (fun r h => mX1_goOn l D K a _ _ r h) gE.same gX1_passTick_X1_goOn rfl (by decide +kernel) ⟨Nat.le_of_ble_eq_true rfl, Nat.le_of_ble_eq_true rfl, rfl, rfl⟩ 9 (LWg_9 K a _) rfl rfl rfl (Nat.le_of_ble_eq_true rfl) dX1_passTick_31 (fun r6 _ => ?_)
          refine g_callVv C (n := 1) (As := [.int r6.1]) (rest := []) (fun r h => mX1_forgetReading l D K a _ _ r h) gE.same gX1_passTick_X1_forgetReading rfl (by decide +kernel) ⟨Nat.le_of_ble_eq_true rfl, Nat.le_of_ble_eq_true rfl, rfl, rfl⟩ 9 (LWg_9 K a _) rfl rfl rfl (Nat.le_of_ble_eq_true rfl) dX1_passTick_34 (fun r7 _ => ?_)
          refine g_iinc C (w := (1 : Int32)) (lv' := [(1, .int (v1 + (1 : Int32))), (0, .ref (a 9))]) 1 dX1_passTick_37 rfl ic_1 (by decide) rfl ?_
          refine g_goto C 12 dX1_passTick_40 (by decide) ?_
          refine g_sub C (lv' := [(0, .ref (a 9)), (1, .int (v1 + (1 : Int32)))]) [1, 0] rfl ?_
          exact ih_12 r7 (v1 + (1 : Int32))
        · refine g_iinc C (w := (1 : Int32)) (lv' := [(1, .int (v1 + (1 : Int32))), (0, .ref (a 9))]) 1 dX1_passTick_37 rfl ic_1 (by decide) rfl ?_
          refine g_goto C 12 dX1_passTick_40 (by decide) ?_
          refine g_sub C (lv' := [(0, .ref (a 9)), (1, .int (v1 + (1 : Int32)))]) [1, 0] rfl ?_
          exact ih_12 σ (v1 + (1 : Int32))
  refine g_aload_n C 0 dX1_passTick_0 rfl rfl ?_
  refine g_dup C dX1_passTick_1 rfl ?_
  refine g_get C (fun _ h => List.mem_cons_of_mem _ (List.mem_append_left _ (List.mem_append_right _ h))) 9 (LWg_9 K a _) rfl 11 (by decide) (List.mem_of_getElem? (i := 1) rfl) rfl rfl dX1_passTick_2 ?_
  refine g_iconst C (v := (1 : Int32)) dX1_passTick_5 ic_1 ?_
  refine g_iadd C dX1_passTick_6 ?_
  refine g_topi (fun t8 => ?_)
  refine g_put C (ty := .int) (fun _ h => List.mem_cons_of_mem _ (List.mem_append_left _ (List.mem_append_right _ h))) tyX1 tyX1_ok nmX1 9 (LWg_9 K a _) rfl 11 (by decide) (List.mem_of_getElem? (i := 1) rfl) rfl rfl (by decide +kernel) rfl rfl (Nat.le_of_ble_eq_true rfl) (LWp_9_11 K a _ _) dX1_passTick_7 ?_
  refine g_state (fun u9 => ?_)
  refine g_iconst C (v := (0 : Int32)) dX1_passTick_10 ic_0 ?_
  refine g_istore_n C (lv' := [(1, .int (0 : Int32)), (0, .ref (a 9))]) dX1_passTick_11 rfl (by decide) rfl ?_
  refine g_sub C (lv' := [(0, .ref (a 9)), (1, .int (0 : Int32))]) [1, 0] rfl ?_
  exact h_12 gFuel u9 (0 : Int32)
set_option maxHeartbeats 4000000 in
set_option maxRecDepth 100000 in
theorem mX1_passTicks (l : Launch) (D : va_G) (K : Nat → ClassId) (a : Nat → Nat) (σ : gS) (p1 : Int32) (r : (Int32 × gS)) (hf : fX1_passTicks σ p1 = some r) : gMi l yX1_passTicks wsX1_passTicks { frames := 5, cells := 0, slots := 0, locals := 113 } D (gT K) (LW K a) [.ref (a 9), .int p1] σ r := by
  refine mk_i (nL := 4) (cc := cX1_passTicks) (by decide) rfl (Nat.le_of_ble_eq_true rfl) rfl rfl hf (fun g C => ?_)
  refine g_sub C (lv' := [(0, .ref (a 9)), (1, .int p1)]) [0, 1] rfl ?_
  unfold fX1_passTicks
  have h_10 : ∀ (n : Nat) (σ : gS) (v1 : Int32) (v2 : Int32) (v3 : Int32), g (fX1_passTicks_L10 n σ v1 v2 v3) 10 [(0, .ref (a 9)), (1, .int v1), (2, .int v2), (3, .int v3)] [] σ := by
    intro n
    induction n with
    | zero =>
      intro σ v1 v2 v3
      exact g_none C
    | succ n10 ih_10 =>
      intro σ v1 v2 v3
      unfold fX1_passTicks_L10
      refine g_iload_n C 3 dX1_passTicks_10 rfl rfl ?_
      refine g_iload_n C 1 dX1_passTicks_11 rfl rfl ?_
      refine g_icmp_ge C 25 dX1_passTicks_12 (by decide) (fun _ => ?_) (fun _ => ?_)
      · refine g_aload_n C 0 dX1_passTicks_25 rfl rfl ?_
        refine g_get C (fun _ h => List.mem_cons_of_mem _ (List.mem_append_left _ (List.mem_append_right _ h))) 9 (LWg_9 K a _) rfl 0 (by decide) (List.mem_of_getElem? (i := 1) rfl) rfl rfl dX1_passTicks_26 ?_
        refine g_callVi C (n := 0) (As := []) (rest := []) (fun r h => mX0_shoutCount l D K a _ r h) gE.same gX1_passTicks_X0_shoutCount rfl (by decide +kernel) ⟨Nat.le_of_ble_eq_true rfl, Nat.le_of_ble_eq_true rfl, rfl, rfl⟩ 0 (LWg_0 K a _) rfl rfl rfl (Nat.le_of_ble_eq_true rfl) dX1_passTicks_29 (fun r1 _ => ?_)
        refine g_iload_n C 2 dX1_passTicks_32 rfl rfl ?_
        refine g_isub C dX1_passTicks_33 ?_
        exact g_ret C ⟨dX1_passTicks_34, rfl, rfl⟩
      · refine g_aload_n C 0 dX1_passTicks_15 rfl rfl ?_
        refine g_callVv C (n := 0) (As := []) (rest := []) (fun r h => mX1_passTick l D K a _ r h) gE.same gX1_passTicks_X1_passTick rfl (by decide +kernel) ⟨Nat.le_of_ble_eq_true rfl, Nat.le_of_ble_eq_true rfl, rfl, rfl⟩ 9 (LWg_9 K a _) rfl rfl rfl (Nat.le_of_ble_eq_true rfl) dX1_passTicks_16 (fun r2 _ => ?_)
        refine g_iinc C (w := (1 : Int32)) (lv' := [(3, .int (v3 + (1 : Int32))), (0, .ref (a 9)), (1, .int v1), (2, .int v2)]) 3 dX1_passTicks_19 rfl ic_1 (by decide) rfl ?_
        refine g_goto C 10 dX1_passTicks_22 (by decide) ?_
        refine g_sub C (lv' := [(0, .ref (a 9)), (1, .int v1), (2, .int v2), (3, .int (v3 + (1 : Int32)))]) [1, 2, 3, 0] rfl ?_
        exact ih_10 r2 v1 v2 (v3 + (1 : Int32))
  refine g_aload_n C 0 dX1_passTicks_0 rfl rfl ?_
  refine g_get C (fun _ h => List.mem_cons_of_mem _ (List.mem_append_left _ (List.mem_append_right _ h))) 9 (LWg_9 K a _) rfl 0 (by decide) (List.mem_of_getElem? (i := 1) rfl) rfl rfl dX1_passTicks_1 ?_
  refine g_callVi C (n := 0) (As := []) (rest := []) (fun r h => mX0_shoutCount l D K a _ r h) gE.same gX1_passTicks_X0_shoutCount rfl (by decide +kernel) ⟨Nat.le_of_ble_eq_true rfl, Nat.le_of_ble_eq_true rfl, rfl, rfl⟩ 0 (LWg_0 K a _) rfl rfl rfl (Nat.le_of_ble_eq_true rfl) dX1_passTicks_4 (fun r3 _ => ?_)
  refine g_istore_n C (lv' := [(2, .int r3.1), (0, .ref (a 9)), (1, .int p1)]) dX1_passTicks_7 rfl (by decide) rfl ?_
  refine g_iconst C (v := (0 : Int32)) dX1_passTicks_8 ic_0 ?_
  refine g_istore_n C (lv' := [(3, .int (0 : Int32)), (2, .int r3.1), (0, .ref (a 9)), (1, .int p1)]) dX1_passTicks_9 rfl (by decide) rfl ?_
  refine g_sub C (lv' := [(0, .ref (a 9)), (1, .int p1), (2, .int r3.1), (3, .int (0 : Int32))]) [2, 3, 1, 0] rfl ?_
  exact h_10 gFuel r3.2 p1 r3.1 (0 : Int32)
set_option maxHeartbeats 4000000 in
set_option maxRecDepth 100000 in
theorem mX1_slipsOfCrossings (l : Launch) (D : va_G) (K : Nat → ClassId) (a : Nat → Nat) (σ : gS) (r : (Int32 × gS)) (hf : fX1_slipsOfCrossings σ  = some r) : gMi l yX1_slipsOfCrossings wsX1_slipsOfCrossings { frames := 6, cells := 0, slots := 0, locals := 136 } D (gT K) (LW K a) [.ref (a 9)] σ r := by
  refine mk_i (nL := 1) (cc := cX1_slipsOfCrossings) (by decide) rfl (Nat.le_of_ble_eq_true rfl) rfl rfl hf (fun g C => ?_)
  refine g_sub C (lv' := [(0, .ref (a 9))]) [0] rfl ?_
  unfold fX1_slipsOfCrossings
  refine g_aload_n C 0 dX1_slipsOfCrossings_0 rfl rfl ?_
  refine g_iconst C (v := (0 : Int32)) dX1_slipsOfCrossings_1 ic_0 ?_
  refine g_put C (ty := .int) (fun _ h => List.mem_cons_of_mem _ (List.mem_append_left _ (List.mem_append_right _ h))) tyX1 tyX1_ok nmX1 9 (LWg_9 K a _) rfl 14 (by decide) (List.mem_of_getElem? (i := 1) rfl) rfl rfl (by decide +kernel) rfl rfl (Nat.le_of_ble_eq_true rfl) (LWp_9_14 K a _ _) dX1_slipsOfCrossings_2 ?_
  refine g_state (fun u1 => ?_)
  refine g_aload_n C 0 dX1_slipsOfCrossings_5 rfl rfl ?_
  refine g_bipush C (v := (7 : Int32)) dX1_slipsOfCrossings_6 (by decide) ?_
  refine g_callVi C (n := 1) (As := [.int (7 : Int32)]) (rest := []) (fun r h => mX1_passTicks l D K a _ _ r h) gE.same gX1_slipsOfCrossings_X1_passTicks rfl (by decide +kernel) ⟨Nat.le_of_ble_eq_true rfl, Nat.le_of_ble_eq_true rfl, rfl, rfl⟩ 9 (LWg_9 K a _) rfl rfl rfl (Nat.le_of_ble_eq_true rfl) dX1_slipsOfCrossings_8 (fun r2 _ => ?_)
  refine g_pop C dX1_slipsOfCrossings_11 rfl ?_
  refine g_aload_n C 0 dX1_slipsOfCrossings_12 rfl rfl ?_
  refine g_get C (fun _ h => List.mem_cons_of_mem _ (List.mem_append_left _ (List.mem_append_right _ h))) 9 (LWg_9 K a _) rfl 14 (by decide) (List.mem_of_getElem? (i := 1) rfl) rfl rfl dX1_slipsOfCrossings_13 ?_
  exact g_ret C ⟨dX1_slipsOfCrossings_16, rfl, rfl⟩
