set_option maxHeartbeats 4000000 in
set_option maxRecDepth 100000 in
theorem mX2_isFull (l : Launch) (D : va_G) (K : Nat → ClassId) (a : Nat → Nat) (σ : gS) (r : (Int32 × gS)) (hf : fX2_isFull σ  = some r) : gMi l yX2_isFull wsX2_isFull { frames := 0, cells := 0, slots := 0, locals := 0 } D (gT K) (TW K a) [.ref (a 0)] σ r := by
  refine mk_z (nL := 1) (cc := cX2_isFull) (by decide) rfl (Nat.le_of_ble_eq_true rfl) rfl rfl hf (fun g C => ?_)
  refine g_sub C (lv' := [(0, .ref (a 0))]) [0] rfl ?_
  unfold fX2_isFull
  refine g_aload_n C 0 dX2_isFull_0 rfl rfl ?_
  refine g_get C (fun _ h => List.mem_cons_of_mem _ (List.mem_append_right _ h)) 0 (TWg_0 K a _) rfl 1 (by decide) (List.mem_of_getElem? (i := 1) rfl) rfl rfl dX2_isFull_1 ?_
  refine g_bipush C (v := (120 : Int32)) dX2_isFull_4 (by decide) ?_
  refine g_icmp_lt C 13 dX2_isFull_6 (by decide) (fun _ => ?_) (fun _ => ?_)
  · refine g_iconst C (v := (0 : Int32)) dX2_isFull_13 ic_0 ?_
    exact g_ret C ⟨dX2_isFull_14, rfl, rfl, Or.inl rfl⟩
  · refine g_iconst C (v := (1 : Int32)) dX2_isFull_9 ic_1 ?_
    refine g_goto C 14 dX2_isFull_10 (by decide) ?_
    exact g_ret C ⟨dX2_isFull_14, rfl, rfl, Or.inr rfl⟩
set_option maxHeartbeats 4000000 in
set_option maxRecDepth 100000 in
theorem mX2_add (l : Launch) (D : va_G) (K : Nat → ClassId) (a : Nat → Nat) (σ : gS) (p1 : Int32) (r : (Int32 × gS)) (hf : fX2_add σ p1 = some r) : gMi l yX2_add wsX2_add { frames := 0, cells := 0, slots := 0, locals := 0 } D (gT K) (TW K a) [.ref (a 0), .int p1] σ r := by
  refine mk_i (nL := 2) (cc := cX2_add) (by decide) rfl (Nat.le_of_ble_eq_true rfl) rfl rfl hf (fun g C => ?_)
  refine g_sub C (lv' := [(0, .ref (a 0)), (1, .int p1)]) [0, 1] rfl ?_
  unfold fX2_add
  refine g_aload_n C 0 dX2_add_0 rfl rfl ?_
  refine g_get C (fun _ h => List.mem_cons_of_mem _ (List.mem_append_right _ h)) 0 (TWg_0 K a _) rfl 1 (by decide) (List.mem_of_getElem? (i := 1) rfl) rfl rfl dX2_add_1 ?_
  refine g_if_lt C 36 dX2_add_4 (by decide) (fun _ => ?_) (fun _ => ?_)
  · refine g_aload_n C 0 dX2_add_36 rfl rfl ?_
    refine g_get C (fun _ h => List.mem_cons_of_mem _ (List.mem_append_right _ h)) 0 (TWg_0 K a _) rfl 1 (by decide) (List.mem_of_getElem? (i := 1) rfl) rfl rfl dX2_add_37 ?_
    exact g_ret C ⟨dX2_add_40, rfl, rfl⟩
  · refine g_aload_n C 0 dX2_add_7 rfl rfl ?_
    refine g_get C (fun _ h => List.mem_cons_of_mem _ (List.mem_append_right _ h)) 0 (TWg_0 K a _) rfl 1 (by decide) (List.mem_of_getElem? (i := 1) rfl) rfl rfl dX2_add_8 ?_
    refine g_bipush C (v := (120 : Int32)) dX2_add_11 (by decide) ?_
    refine g_icmp_ge C 36 dX2_add_13 (by decide) (fun _ => ?_) (fun _ => ?_)
    · refine g_aload_n C 0 dX2_add_36 rfl rfl ?_
      refine g_get C (fun _ h => List.mem_cons_of_mem _ (List.mem_append_right _ h)) 0 (TWg_0 K a _) rfl 1 (by decide) (List.mem_of_getElem? (i := 1) rfl) rfl rfl dX2_add_37 ?_
      exact g_ret C ⟨dX2_add_40, rfl, rfl⟩
    · refine g_aload_n C 0 dX2_add_16 rfl rfl ?_
      refine g_get C (fun _ h => List.mem_cons_of_mem _ (List.mem_append_right _ h)) 0 (TWg_0 K a _) rfl 0 (by decide) (List.mem_of_getElem? (i := 2) rfl) rfl rfl dX2_add_17 ?_
      refine g_aload_n C 0 dX2_add_20 rfl rfl ?_
      refine g_get C (fun _ h => List.mem_cons_of_mem _ (List.mem_append_right _ h)) 0 (TWg_0 K a _) rfl 1 (by decide) (List.mem_of_getElem? (i := 1) rfl) rfl rfl dX2_add_21 ?_
      refine g_iload_n C 1 dX2_add_24 rfl rfl ?_
      refine g_bool C (fun b1 => ?_)
      refine g_castG C 1 2 (TWg_1 K a _) rfl (chr_ok b1) (TWs_1 K a _ _) dX2_add_25 ?_
      refine g_state (fun u2 => ?_)
      refine g_aload_n C 0 dX2_add_26 rfl rfl ?_
      refine g_dup C dX2_add_27 rfl ?_
      refine g_get C (fun _ h => List.mem_cons_of_mem _ (List.mem_append_right _ h)) 0 (TWg_0 K a _) rfl 1 (by decide) (List.mem_of_getElem? (i := 1) rfl) rfl rfl dX2_add_28 ?_
      refine g_iconst C (v := (1 : Int32)) dX2_add_31 ic_1 ?_
      refine g_iadd C dX2_add_32 ?_
      refine g_topi (fun t3 => ?_)
      refine g_put C (ty := .int) (fun _ h => List.mem_cons_of_mem _ (List.mem_append_right _ h)) tyX2 tyX2_ok nmX2 0 (TWg_0 K a _) rfl 1 (by decide) (List.mem_of_getElem? (i := 1) rfl) rfl rfl (by decide +kernel) rfl rfl (Nat.le_of_ble_eq_true rfl) (TWp_0_1 K a _ _) dX2_add_33 ?_
      refine g_state (fun u4 => ?_)
      refine g_aload_n C 0 dX2_add_36 rfl rfl ?_
      refine g_get C (fun _ h => List.mem_cons_of_mem _ (List.mem_append_right _ h)) 0 (TWg_0 K a _) rfl 1 (by decide) (List.mem_of_getElem? (i := 1) rfl) rfl rfl dX2_add_37 ?_
      exact g_ret C ⟨dX2_add_40, rfl, rfl⟩
set_option maxHeartbeats 4000000 in
set_option maxRecDepth 100000 in
theorem mX2_empty (l : Launch) (D : va_G) (K : Nat → ClassId) (a : Nat → Nat) (σ : gS) (r : (Int32 × gS)) (hf : fX2_empty σ  = some r) : gMi l yX2_empty wsX2_empty { frames := 0, cells := 0, slots := 0, locals := 0 } D (gT K) (TW K a) [.ref (a 0)] σ r := by
  refine mk_i (nL := 2) (cc := cX2_empty) (by decide) rfl (Nat.le_of_ble_eq_true rfl) rfl rfl hf (fun g C => ?_)
  refine g_sub C (lv' := [(0, .ref (a 0))]) [0] rfl ?_
  unfold fX2_empty
  refine g_aload_n C 0 dX2_empty_0 rfl rfl ?_
  refine g_get C (fun _ h => List.mem_cons_of_mem _ (List.mem_append_right _ h)) 0 (TWg_0 K a _) rfl 1 (by decide) (List.mem_of_getElem? (i := 1) rfl) rfl rfl dX2_empty_1 ?_
  refine g_topi (fun t1 => ?_)
  refine g_istore_n C (lv' := [(1, .int t1), (0, .ref (a 0))]) dX2_empty_4 rfl (by decide) rfl ?_
  refine g_aload_n C 1 dX2_empty_5 rfl rfl ?_
  refine g_iconst C (v := (0 : Int32)) dX2_empty_6 ic_0 ?_
  refine g_put C (ty := .int) (fun _ h => List.mem_cons_of_mem _ (List.mem_append_right _ h)) tyX2 tyX2_ok nmX2 0 (TWg_0 K a _) rfl 1 (by decide) (List.mem_of_getElem? (i := 1) rfl) rfl rfl (by decide +kernel) rfl rfl (Nat.le_of_ble_eq_true rfl) (TWp_0_1 K a _ _) dX2_empty_7 ?_
  refine g_state (fun u2 => ?_)
  refine g_iload_n C 0 dX2_empty_10 rfl rfl ?_
  exact g_ret C ⟨dX2_empty_11, rfl, rfl⟩
set_option maxHeartbeats 4000000 in
set_option maxRecDepth 100000 in
theorem mX2_startReading (l : Launch) (D : va_G) (K : Nat → ClassId) (a : Nat → Nat) (σ : gS) (r : gS) (hf : fX2_startReading σ  = some r) : gMv l yX2_startReading wsX2_startReading { frames := 0, cells := 0, slots := 0, locals := 0 } D (gT K) (TW K a) [.ref (a 0)] σ r := by
  refine mk_v (nL := 1) (cc := cX2_startReading) (by decide) rfl (Nat.le_of_ble_eq_true rfl) rfl rfl hf (fun g C => ?_)
  refine g_sub C (lv' := [(0, .ref (a 0))]) [0] rfl ?_
  unfold fX2_startReading
  refine g_aload_n C 0 dX2_startReading_0 rfl rfl ?_
  refine g_iconst C (v := (0 : Int32)) dX2_startReading_1 ic_0 ?_
  refine g_put C (ty := .int) (fun _ h => List.mem_cons_of_mem _ (List.mem_append_right _ h)) tyX2 tyX2_ok nmX2 0 (TWg_0 K a _) rfl 2 (by decide) (List.mem_of_getElem? (i := 1) rfl) rfl rfl (by decide +kernel) rfl rfl (Nat.le_of_ble_eq_true rfl) (TWp_0_2 K a _ _) dX2_startReading_2 ?_
  refine g_state (fun u1 => ?_)
  exact g_ret C ⟨dX2_startReading_5, rfl, rfl⟩
set_option maxHeartbeats 4000000 in
set_option maxRecDepth 100000 in
theorem mX2_readSign (l : Launch) (D : va_G) (K : Nat → ClassId) (a : Nat → Nat) (σ : gS) (p1 : Int32) (p2 : Int32) (r : (Int32 × gS)) (hf : fX2_readSign σ p1 p2 = some r) : gMi l yX2_readSign wsX2_readSign { frames := 0, cells := 0, slots := 0, locals := 0 } D (gT K) (TW K a) [.ref (a 0), .int p1, .int p2] σ r := by
  refine mk_z (nL := 4) (cc := cX2_readSign) (by decide) rfl (Nat.le_of_ble_eq_true rfl) rfl rfl hf (fun g C => ?_)
  refine g_sub C (lv' := [(0, .ref (a 0)), (1, .int p1), (2, .int p2)]) [0, 1, 2] rfl ?_
  unfold fX2_readSign
  refine g_aload_n C 0 dX2_readSign_0 rfl rfl ?_
  refine g_get C (fun _ h => List.mem_cons_of_mem _ (List.mem_append_right _ h)) 0 (TWg_0 K a _) rfl 2 (by decide) (List.mem_of_getElem? (i := 1) rfl) rfl rfl dX2_readSign_1 ?_
  refine g_if_lt C 18 dX2_readSign_4 (by decide) (fun _ => ?_) (fun _ => ?_)
  · refine g_iconst C (v := (0 : Int32)) dX2_readSign_18 ic_0 ?_
    exact g_ret C ⟨dX2_readSign_19, rfl, rfl, Or.inl rfl⟩
  · refine g_aload_n C 0 dX2_readSign_7 rfl rfl ?_
    refine g_get C (fun _ h => List.mem_cons_of_mem _ (List.mem_append_right _ h)) 0 (TWg_0 K a _) rfl 2 (by decide) (List.mem_of_getElem? (i := 1) rfl) rfl rfl dX2_readSign_8 ?_
    refine g_aload_n C 0 dX2_readSign_11 rfl rfl ?_
    refine g_get C (fun _ h => List.mem_cons_of_mem _ (List.mem_append_right _ h)) 0 (TWg_0 K a _) rfl 1 (by decide) (List.mem_of_getElem? (i := 2) rfl) rfl rfl dX2_readSign_12 ?_
    refine g_icmp_lt C 20 dX2_readSign_15 (by decide) (fun _ => ?_) (fun _ => ?_)
    · refine g_aload_n C 0 dX2_readSign_20 rfl rfl ?_
      refine g_get C (fun _ h => List.mem_cons_of_mem _ (List.mem_append_right _ h)) 0 (TWg_0 K a _) rfl 0 (by decide) (List.mem_of_getElem? (i := 3) rfl) rfl rfl dX2_readSign_21 ?_
      refine g_aload_n C 0 dX2_readSign_24 rfl rfl ?_
      refine g_get C (fun _ h => List.mem_cons_of_mem _ (List.mem_append_right _ h)) 0 (TWg_0 K a _) rfl 2 (by decide) (List.mem_of_getElem? (i := 1) rfl) rfl rfl dX2_readSign_25 ?_
      refine g_caldG C 1 2 (TWg_1 K a _) rfl dX2_readSign_28 ?_
      refine g_topi (fun t1 => ?_)
      refine g_istore_n C (lv' := [(3, .int t1), (0, .ref (a 0)), (1, .int p1), (2, .int p2)]) dX2_readSign_29 rfl (by decide) rfl ?_
      refine g_iload_n C 0 dX2_readSign_30 rfl rfl ?_
      refine g_iload_n C 2 dX2_readSign_31 rfl rfl ?_
      refine g_icmp_lt C 40 dX2_readSign_32 (by decide) (fun _ => ?_) (fun _ => ?_)
      · refine g_iconst C (v := (0 : Int32)) dX2_readSign_40 ic_0 ?_
        exact g_ret C ⟨dX2_readSign_41, rfl, rfl, Or.inl rfl⟩
      · refine g_iload_n C 0 dX2_readSign_35 rfl rfl ?_
        refine g_iload_n C 3 dX2_readSign_36 rfl rfl ?_
        refine g_icmp_le C 42 dX2_readSign_37 (by decide) (fun _ => ?_) (fun _ => ?_)
        · refine g_aload_n C 1 dX2_readSign_42 rfl rfl ?_
          refine g_iload_n C 0 dX2_readSign_43 rfl rfl ?_
          refine g_put C (ty := .int) (fun _ h => List.mem_cons_of_mem _ (List.mem_append_right _ h)) tyX2 tyX2_ok nmX2 0 (TWg_0 K a _) rfl 7 (by decide) (List.mem_of_getElem? (i := 4) rfl) rfl rfl (by decide +kernel) rfl rfl (Nat.le_of_ble_eq_true rfl) (TWp_0_7 K a _ _) dX2_readSign_44 ?_
          refine g_state (fun u2 => ?_)
          refine g_aload_n C 1 dX2_readSign_47 rfl rfl ?_
          refine g_dup C dX2_readSign_48 rfl ?_
          refine g_get C (fun _ h => List.mem_cons_of_mem _ (List.mem_append_right _ h)) 0 (TWg_0 K a _) rfl 2 (by decide) (List.mem_of_getElem? (i := 1) rfl) rfl rfl dX2_readSign_49 ?_
          refine g_iconst C (v := (1 : Int32)) dX2_readSign_52 ic_1 ?_
          refine g_iadd C dX2_readSign_53 ?_
          refine g_topi (fun t3 => ?_)
          refine g_put C (ty := .int) (fun _ h => List.mem_cons_of_mem _ (List.mem_append_right _ h)) tyX2 tyX2_ok nmX2 0 (TWg_0 K a _) rfl 2 (by decide) (List.mem_of_getElem? (i := 1) rfl) rfl rfl (by decide +kernel) rfl rfl (Nat.le_of_ble_eq_true rfl) (TWp_0_2 K a _ _) dX2_readSign_54 ?_
          refine g_state (fun u4 => ?_)
          refine g_iconst C (v := (1 : Int32)) dX2_readSign_57 ic_1 ?_
          exact g_ret C ⟨dX2_readSign_58, rfl, rfl, Or.inr rfl⟩
        · refine g_iconst C (v := (0 : Int32)) dX2_readSign_40 ic_0 ?_
          exact g_ret C ⟨dX2_readSign_41, rfl, rfl, Or.inl rfl⟩
    · refine g_iconst C (v := (0 : Int32)) dX2_readSign_18 ic_0 ?_
      exact g_ret C ⟨dX2_readSign_19, rfl, rfl, Or.inl rfl⟩
set_option maxHeartbeats 4000000 in
set_option maxRecDepth 100000 in
theorem mX2_readDigit (l : Launch) (D : va_G) (K : Nat → ClassId) (a : Nat → Nat) (σ : gS) (p1 : Int32) (p2 : Int32) (r : (Int32 × gS)) (hf : fX2_readDigit σ p1 p2 = some r) : gMi l yX2_readDigit wsX2_readDigit { frames := 0, cells := 0, slots := 0, locals := 0 } D (gT K) (TW K a) [.ref (a 0), .int p1, .int p2] σ r := by
  refine mk_z (nL := 4) (cc := cX2_readDigit) (by decide) rfl (Nat.le_of_ble_eq_true rfl) rfl rfl hf (fun g C => ?_)
  refine g_sub C (lv' := [(0, .ref (a 0)), (1, .int p1), (2, .int p2)]) [0, 1, 2] rfl ?_
  unfold fX2_readDigit
  refine g_aload_n C 0 dX2_readDigit_0 rfl rfl ?_
  refine g_get C (fun _ h => List.mem_cons_of_mem _ (List.mem_append_right _ h)) 0 (TWg_0 K a _) rfl 2 (by decide) (List.mem_of_getElem? (i := 1) rfl) rfl rfl dX2_readDigit_1 ?_
  refine g_if_lt C 18 dX2_readDigit_4 (by decide) (fun _ => ?_) (fun _ => ?_)
  · refine g_iconst C (v := (0 : Int32)) dX2_readDigit_18 ic_0 ?_
    exact g_ret C ⟨dX2_readDigit_19, rfl, rfl, Or.inl rfl⟩
  · refine g_aload_n C 0 dX2_readDigit_7 rfl rfl ?_
    refine g_get C (fun _ h => List.mem_cons_of_mem _ (List.mem_append_right _ h)) 0 (TWg_0 K a _) rfl 2 (by decide) (List.mem_of_getElem? (i := 1) rfl) rfl rfl dX2_readDigit_8 ?_
    refine g_aload_n C 0 dX2_readDigit_11 rfl rfl ?_
    refine g_get C (fun _ h => List.mem_cons_of_mem _ (List.mem_append_right _ h)) 0 (TWg_0 K a _) rfl 1 (by decide) (List.mem_of_getElem? (i := 2) rfl) rfl rfl dX2_readDigit_12 ?_
    refine g_icmp_lt C 20 dX2_readDigit_15 (by decide) (fun _ => ?_) (fun _ => ?_)
    · refine g_aload_n C 0 dX2_readDigit_20 rfl rfl ?_
      refine g_get C (fun _ h => List.mem_cons_of_mem _ (List.mem_append_right _ h)) 0 (TWg_0 K a _) rfl 0 (by decide) (List.mem_of_getElem? (i := 3) rfl) rfl rfl dX2_readDigit_21 ?_
      refine g_aload_n C 0 dX2_readDigit_24 rfl rfl ?_
      refine g_get C (fun _ h => List.mem_cons_of_mem _ (List.mem_append_right _ h)) 0 (TWg_0 K a _) rfl 2 (by decide) (List.mem_of_getElem? (i := 1) rfl) rfl rfl dX2_readDigit_25 ?_
      refine g_caldG C 1 2 (TWg_1 K a _) rfl dX2_readDigit_28 ?_
      refine g_bipush C (v := (48 : Int32)) dX2_readDigit_29 (by decide) ?_
      refine g_isub C dX2_readDigit_31 ?_
      refine g_topi (fun t1 => ?_)
      refine g_istore_n C (lv' := [(3, .int t1), (0, .ref (a 0)), (1, .int p1), (2, .int p2)]) dX2_readDigit_32 rfl (by decide) rfl ?_
      refine g_iload_n C 0 dX2_readDigit_33 rfl rfl ?_
      refine g_iload_n C 2 dX2_readDigit_34 rfl rfl ?_
      refine g_icmp_lt C 43 dX2_readDigit_35 (by decide) (fun _ => ?_) (fun _ => ?_)
      · refine g_iconst C (v := (0 : Int32)) dX2_readDigit_43 ic_0 ?_
        exact g_ret C ⟨dX2_readDigit_44, rfl, rfl, Or.inl rfl⟩
      · refine g_iload_n C 0 dX2_readDigit_38 rfl rfl ?_
        refine g_iload_n C 3 dX2_readDigit_39 rfl rfl ?_
        refine g_icmp_le C 45 dX2_readDigit_40 (by decide) (fun _ => ?_) (fun _ => ?_)
        · refine g_aload_n C 1 dX2_readDigit_45 rfl rfl ?_
          refine g_iload_n C 0 dX2_readDigit_46 rfl rfl ?_
          refine g_put C (ty := .int) (fun _ h => List.mem_cons_of_mem _ (List.mem_append_right _ h)) tyX2 tyX2_ok nmX2 0 (TWg_0 K a _) rfl 3 (by decide) (List.mem_of_getElem? (i := 4) rfl) rfl rfl (by decide +kernel) rfl rfl (Nat.le_of_ble_eq_true rfl) (TWp_0_3 K a _ _) dX2_readDigit_47 ?_
          refine g_state (fun u2 => ?_)
          refine g_aload_n C 1 dX2_readDigit_50 rfl rfl ?_
          refine g_dup C dX2_readDigit_51 rfl ?_
          refine g_get C (fun _ h => List.mem_cons_of_mem _ (List.mem_append_right _ h)) 0 (TWg_0 K a _) rfl 2 (by decide) (List.mem_of_getElem? (i := 1) rfl) rfl rfl dX2_readDigit_52 ?_
          refine g_iconst C (v := (1 : Int32)) dX2_readDigit_55 ic_1 ?_
          refine g_iadd C dX2_readDigit_56 ?_
          refine g_topi (fun t3 => ?_)
          refine g_put C (ty := .int) (fun _ h => List.mem_cons_of_mem _ (List.mem_append_right _ h)) tyX2 tyX2_ok nmX2 0 (TWg_0 K a _) rfl 2 (by decide) (List.mem_of_getElem? (i := 1) rfl) rfl rfl (by decide +kernel) rfl rfl (Nat.le_of_ble_eq_true rfl) (TWp_0_2 K a _ _) dX2_readDigit_57 ?_
          refine g_state (fun u4 => ?_)
          refine g_iconst C (v := (1 : Int32)) dX2_readDigit_60 ic_1 ?_
          exact g_ret C ⟨dX2_readDigit_61, rfl, rfl, Or.inr rfl⟩
        · refine g_iconst C (v := (0 : Int32)) dX2_readDigit_43 ic_0 ?_
          exact g_ret C ⟨dX2_readDigit_44, rfl, rfl, Or.inl rfl⟩
    · refine g_iconst C (v := (0 : Int32)) dX2_readDigit_18 ic_0 ?_
      exact g_ret C ⟨dX2_readDigit_19, rfl, rfl, Or.inl rfl⟩
set_option maxHeartbeats 4000000 in
set_option maxRecDepth 100000 in
theorem mX2_readTwoDigits (l : Launch) (D : va_G) (K : Nat → ClassId) (a : Nat → Nat) (σ : gS) (p1 : Int32) (r : (Int32 × gS)) (hf : fX2_readTwoDigits σ p1 = some r) : gMi l yX2_readTwoDigits wsX2_readTwoDigits { frames := 1, cells := 0, slots := 0, locals := 23 } D (gT K) (TW K a) [.ref (a 0), .int p1] σ r := by
  refine mk_z (nL := 3) (cc := cX2_readTwoDigits) (by decide) rfl (Nat.le_of_ble_eq_true rfl) rfl rfl hf (fun g C => ?_)
  refine g_sub C (lv' := [(0, .ref (a 0)), (1, .int p1)]) [0, 1] rfl ?_
  unfold fX2_readTwoDigits
  have h_38 : ∀ (σ : gS) (v2 : Int32) (s1 : Int32) (s2 : Int32), g (fX2_readTwoDigits_L38 σ v2 s1 s2) 38 [(0, .ref (a 0)), (2, .int v2)] [.int s2, .int s1, .ref (a 0)] σ := by
    intro σ v2 s1 s2
    unfold fX2_readTwoDigits_L38
    refine g_callVi C (n := 2) (As := [.int s1, .int s2]) (rest := []) (fun r h => mX2_readDigit l D K a _ _ _ r h) gE.same gX2_readTwoDigits_X2_readDigit rfl (by decide +kernel) ⟨Nat.le_of_ble_eq_true rfl, Nat.le_of_ble_eq_true rfl, rfl, rfl⟩ 0 (TWg_0 K a _) rfl rfl rfl (Nat.le_of_ble_eq_true rfl) dX2_readTwoDigits_38 (fun r1 _ => ?_)
    refine g_if_ne C 46 dX2_readTwoDigits_41 (by decide) (fun _ => ?_) (fun _ => ?_)
    · refine g_iconst C (v := (0 : Int32)) dX2_readTwoDigits_44 ic_0 ?_
      exact g_ret C ⟨dX2_readTwoDigits_45, rfl, rfl, Or.inl rfl⟩
    · refine g_aload_n C 0 dX2_readTwoDigits_46 rfl rfl ?_
      refine g_bipush C (v := (10 : Int32)) dX2_readTwoDigits_47 (by decide) ?_
      refine g_iload_n C 1 dX2_readTwoDigits_49 rfl rfl ?_
      refine g_imul C dX2_readTwoDigits_50 ?_
      refine g_aload_n C 0 dX2_readTwoDigits_51 rfl rfl ?_
      refine g_get C (fun _ h => List.mem_cons_of_mem _ (List.mem_append_right _ h)) 0 (TWg_0 K a _) rfl 3 (by decide) (List.mem_of_getElem? (i := 1) rfl) rfl rfl dX2_readTwoDigits_52 ?_
      refine g_iadd C dX2_readTwoDigits_55 ?_
      refine g_topi (fun t2 => ?_)
      refine g_put C (ty := .int) (fun _ h => List.mem_cons_of_mem _ (List.mem_append_right _ h)) tyX2 tyX2_ok nmX2 0 (TWg_0 K a _) rfl 3 (by decide) (List.mem_of_getElem? (i := 1) rfl) rfl rfl (by decide +kernel) rfl rfl (Nat.le_of_ble_eq_true rfl) (TWp_0_3 K a _ _) dX2_readTwoDigits_56 ?_
      refine g_state (fun u3 => ?_)
      refine g_iconst C (v := (1 : Int32)) dX2_readTwoDigits_59 ic_1 ?_
      exact g_ret C ⟨dX2_readTwoDigits_60, rfl, rfl, Or.inr rfl⟩
  refine g_aload_n C 0 dX2_readTwoDigits_0 rfl rfl ?_
  refine g_iconst C (v := (0 : Int32)) dX2_readTwoDigits_1 ic_0 ?_
  refine g_iload_n C 1 dX2_readTwoDigits_2 rfl rfl ?_
  refine g_bipush C (v := (10 : Int32)) dX2_readTwoDigits_3 (by decide) ?_
  refine g_idiv C dX2_readTwoDigits_5 (by decide) ?_
  refine g_callVi C (n := 2) (As := [.int (0 : Int32), .int (p1 / (10 : Int32))]) (rest := []) (fun r h => mX2_readDigit l D K a _ _ _ r h) gE.same gX2_readTwoDigits_X2_readDigit rfl (by decide +kernel) ⟨Nat.le_of_ble_eq_true rfl, Nat.le_of_ble_eq_true rfl, rfl, rfl⟩ 0 (TWg_0 K a _) rfl rfl rfl (Nat.le_of_ble_eq_true rfl) dX2_readTwoDigits_6 (fun r4 _ => ?_)
  refine g_if_ne C 14 dX2_readTwoDigits_9 (by decide) (fun _ => ?_) (fun _ => ?_)
  · refine g_iconst C (v := (0 : Int32)) dX2_readTwoDigits_12 ic_0 ?_
    exact g_ret C ⟨dX2_readTwoDigits_13, rfl, rfl, Or.inl rfl⟩
  · refine g_aload_n C 0 dX2_readTwoDigits_14 rfl rfl ?_
    refine g_get C (fun _ h => List.mem_cons_of_mem _ (List.mem_append_right _ h)) 0 (TWg_0 K a _) rfl 3 (by decide) (List.mem_of_getElem? (i := 1) rfl) rfl rfl dX2_readTwoDigits_15 ?_
    refine g_topi (fun t5 => ?_)
    refine g_istore_n C (lv' := [(2, .int t5), (0, .ref (a 0)), (1, .int p1)]) dX2_readTwoDigits_18 rfl (by decide) rfl ?_
    refine g_aload_n C 1 dX2_readTwoDigits_19 rfl rfl ?_
    refine g_iconst C (v := (0 : Int32)) dX2_readTwoDigits_20 ic_0 ?_
    refine g_iload_n C 0 dX2_readTwoDigits_21 rfl rfl ?_
    refine g_iload_n C 2 dX2_readTwoDigits_22 rfl rfl ?_
    refine g_bipush C (v := (10 : Int32)) dX2_readTwoDigits_23 (by decide) ?_
    refine g_idiv C dX2_readTwoDigits_25 (by decide) ?_
    refine g_icmp_ge C 34 dX2_readTwoDigits_26 (by decide) (fun _ => ?_) (fun _ => ?_)
    · refine g_iload_n C 2 dX2_readTwoDigits_34 rfl rfl ?_
      refine g_bipush C (v := (10 : Int32)) dX2_readTwoDigits_35 (by decide) ?_
      refine g_irem C dX2_readTwoDigits_37 (by decide) ?_
      refine g_topi (fun t6 => ?_)
      refine g_sub C (lv' := [(0, .ref (a 0)), (2, .int t5)]) [1, 0] rfl ?_
      exact h_38 r4.2 t5 (0 : Int32) t6
    · refine g_bipush C (v := (9 : Int32)) dX2_readTwoDigits_29 (by decide) ?_
      refine g_goto C 38 dX2_readTwoDigits_31 (by decide) ?_
      refine g_sub C (lv' := [(0, .ref (a 0)), (2, .int t5)]) [1, 0] rfl ?_
      exact h_38 r4.2 t5 (0 : Int32) (9 : Int32)
set_option maxHeartbeats 4000000 in
set_option maxRecDepth 100000 in
theorem mX2_readHeader (l : Launch) (D : va_G) (K : Nat → ClassId) (a : Nat → Nat) (σ : gS) (r : (Int32 × gS)) (hf : fX2_readHeader σ  = some r) : gMi l yX2_readHeader wsX2_readHeader { frames := 2, cells := 0, slots := 0, locals := 45 } D (gT K) (TW K a) [.ref (a 0)] σ r := by
  refine mk_z (nL := 2) (cc := cX2_readHeader) (by decide) rfl (Nat.le_of_ble_eq_true rfl) rfl rfl hf (fun g C => ?_)
  refine g_sub C (lv' := [(0, .ref (a 0))]) [0] rfl ?_
  unfold fX2_readHeader
  have h_15 : ∀ (n : Nat) (σ : gS) (v1 : Int32), g (fX2_readHeader_L15 n σ v1) 15 [(0, .ref (a 0)), (1, .int v1)] [] σ := by
    intro n
    induction n with
    | zero =>
      intro σ v1
      exact g_none C
    | succ n15 ih_15 =>
      intro σ v1
      unfold fX2_readHeader_L15
      refine g_iload_n C 1 dX2_readHeader_15 rfl rfl ?_
      refine g_iconst C (v := (3 : Int32)) dX2_readHeader_16 ic_3 ?_
      refine g_icmp_ge C 47 dX2_readHeader_17 (by decide) (fun _ => ?_) (fun _ => ?_)
      · refine g_aload_n C 0 dX2_readHeader_47 rfl rfl ?_
        refine g_iconst C (v := (1 : Int32)) dX2_readHeader_48 ic_1 ?_
        refine g_iconst C (v := (3 : Int32)) dX2_readHeader_49 ic_3 ?_
        refine g_callVi C (n := 2) (As := [.int (1 : Int32), .int (3 : Int32)]) (rest := []) (fun r h => mX2_readDigit l D K a _ _ _ r h) gE.same gX2_readHeader_X2_readDigit rfl (by decide +kernel) ⟨Nat.le_of_ble_eq_true rfl, Nat.le_of_ble_eq_true rfl, rfl, rfl⟩ 0 (TWg_0 K a _) rfl rfl rfl (Nat.le_of_ble_eq_true rfl) dX2_readHeader_50 (fun r1 _ => ?_)
        refine g_if_ne C 58 dX2_readHeader_53 (by decide) (fun _ => ?_) (fun _ => ?_)
        · refine g_iconst C (v := (0 : Int32)) dX2_readHeader_56 ic_0 ?_
          exact g_ret C ⟨dX2_readHeader_57, rfl, rfl, Or.inl rfl⟩
        · refine g_aload_n C 0 dX2_readHeader_58 rfl rfl ?_
          refine g_aload_n C 0 dX2_readHeader_59 rfl rfl ?_
          refine g_get C (fun _ h => List.mem_cons_of_mem _ (List.mem_append_right _ h)) 0 (TWg_0 K a _) rfl 3 (by decide) (List.mem_of_getElem? (i := 2) rfl) rfl rfl dX2_readHeader_60 ?_
          refine g_topi (fun t2 => ?_)
          refine g_put C (ty := .int) (fun _ h => List.mem_cons_of_mem _ (List.mem_append_right _ h)) tyX2 tyX2_ok nmX2 0 (TWg_0 K a _) rfl 5 (by decide) (List.mem_of_getElem? (i := 3) rfl) rfl rfl (by decide +kernel) rfl rfl (Nat.le_of_ble_eq_true rfl) (TWp_0_5 K a _ _) dX2_readHeader_63 ?_
          refine g_state (fun u3 => ?_)
          refine g_aload_n C 0 dX2_readHeader_66 rfl rfl ?_
          refine g_iconst C (v := (0 : Int32)) dX2_readHeader_67 ic_0 ?_
          refine g_bipush C (v := (9 : Int32)) dX2_readHeader_68 (by decide) ?_
          refine g_callVi C (n := 2) (As := [.int (0 : Int32), .int (9 : Int32)]) (rest := []) (fun r h => mX2_readDigit l D K a _ _ _ r h) gE.same gX2_readHeader_X2_readDigit rfl (by decide +kernel) ⟨Nat.le_of_ble_eq_true rfl, Nat.le_of_ble_eq_true rfl, rfl, rfl⟩ 0 (TWg_0 K a _) rfl rfl rfl (Nat.le_of_ble_eq_true rfl) dX2_readHeader_70 (fun r4 _ => ?_)
          refine g_if_ne C 78 dX2_readHeader_73 (by decide) (fun _ => ?_) (fun _ => ?_)
          · refine g_iconst C (v := (0 : Int32)) dX2_readHeader_76 ic_0 ?_
            exact g_ret C ⟨dX2_readHeader_77, rfl, rfl, Or.inl rfl⟩
          · refine g_aload_n C 0 dX2_readHeader_78 rfl rfl ?_
            refine g_aload_n C 0 dX2_readHeader_79 rfl rfl ?_
            refine g_get C (fun _ h => List.mem_cons_of_mem _ (List.mem_append_right _ h)) 0 (TWg_0 K a _) rfl 3 (by decide) (List.mem_of_getElem? (i := 2) rfl) rfl rfl dX2_readHeader_80 ?_
            refine g_topi (fun t5 => ?_)
            refine g_put C (ty := .int) (fun _ h => List.mem_cons_of_mem _ (List.mem_append_right _ h)) tyX2 tyX2_ok nmX2 0 (TWg_0 K a _) rfl 6 (by decide) (List.mem_of_getElem? (i := 4) rfl) rfl rfl (by decide +kernel) rfl rfl (Nat.le_of_ble_eq_true rfl) (TWp_0_6 K a _ _) dX2_readHeader_83 ?_
            refine g_state (fun u6 => ?_)
            refine g_iconst C (v := (1 : Int32)) dX2_readHeader_86 ic_1 ?_
            exact g_ret C ⟨dX2_readHeader_87, rfl, rfl, Or.inr rfl⟩
      · refine g_aload_n C 0 dX2_readHeader_20 rfl rfl ?_
        refine g_bipush C (v := (15 : Int32)) dX2_readHeader_21 (by decide) ?_
        refine g_callVi C (n := 1) (As := [.int (15 : Int32)]) (rest := []) (fun r h => mX2_readTwoDigits l D K a _ _ r h) gE.same gX2_readHeader_X2_readTwoDigits rfl (by decide +kernel) ⟨Nat.le_of_ble_eq_true rfl, Nat.le_of_ble_eq_true rfl, rfl, rfl⟩ 0 (TWg_0 K a _) rfl rfl rfl (Nat.le_of_ble_eq_true rfl) dX2_readHeader_23 (fun r7 _ => ?_)
        refine g_if_ne C 31 dX2_readHeader_26 (by decide) (fun _ => ?_) (fun _ => ?_)
        · refine g_iconst C (v := (0 : Int32)) dX2_readHeader_29 ic_0 ?_
          exact g_ret C ⟨dX2_readHeader_30, rfl, rfl, Or.inl rfl⟩
        · refine g_aload_n C 0 dX2_readHeader_31 rfl rfl ?_
          refine g_get C (fun _ h => List.mem_cons_of_mem _ (List.mem_append_right _ h)) 0 (TWg_0 K a _) rfl 4 (by decide) (List.mem_of_getElem? (i := 1) rfl) rfl rfl dX2_readHeader_32 ?_
          refine g_iload_n C 1 dX2_readHeader_35 rfl rfl ?_
          refine g_aload_n C 0 dX2_readHeader_36 rfl rfl ?_
          refine g_get C (fun _ h => List.mem_cons_of_mem _ (List.mem_append_right _ h)) 0 (TWg_0 K a _) rfl 3 (by decide) (List.mem_of_getElem? (i := 2) rfl) rfl rfl dX2_readHeader_37 ?_
          refine g_topi (fun t8 => ?_)
          refine g_iastG C 2 0 (TWg_2 K a _) rfl (TWs_2 K a _ _) dX2_readHeader_40 ?_
          refine g_state (fun u9 => ?_)
          refine g_iinc C (w := (1 : Int32)) (lv' := [(1, .int (v1 + (1 : Int32))), (0, .ref (a 0))]) 1 dX2_readHeader_41 rfl ic_1 (by decide) rfl ?_
          refine g_goto C 15 dX2_readHeader_44 (by decide) ?_
          refine g_sub C (lv' := [(0, .ref (a 0)), (1, .int (v1 + (1 : Int32)))]) [1, 0] rfl ?_
          exact ih_15 u9 (v1 + (1 : Int32))
  refine g_aload_n C 0 dX2_readHeader_0 rfl rfl ?_
  refine g_bipush C (v := (76 : Int32)) dX2_readHeader_1 (by decide) ?_
  refine g_bipush C (v := (76 : Int32)) dX2_readHeader_3 (by decide) ?_
  refine g_callVi C (n := 2) (As := [.int (76 : Int32), .int (76 : Int32)]) (rest := []) (fun r h => mX2_readSign l D K a _ _ _ r h) gE.same gX2_readHeader_X2_readSign rfl (by decide +kernel) ⟨Nat.le_of_ble_eq_true rfl, Nat.le_of_ble_eq_true rfl, rfl, rfl⟩ 0 (TWg_0 K a _) rfl rfl rfl (Nat.le_of_ble_eq_true rfl) dX2_readHeader_5 (fun r10 _ => ?_)
  refine g_if_ne C 13 dX2_readHeader_8 (by decide) (fun _ => ?_) (fun _ => ?_)
  · refine g_iconst C (v := (0 : Int32)) dX2_readHeader_11 ic_0 ?_
    exact g_ret C ⟨dX2_readHeader_12, rfl, rfl, Or.inl rfl⟩
  · refine g_iconst C (v := (0 : Int32)) dX2_readHeader_13 ic_0 ?_
    refine g_istore_n C (lv' := [(1, .int (0 : Int32)), (0, .ref (a 0))]) dX2_readHeader_14 rfl (by decide) rfl ?_
    refine g_sub C (lv' := [(0, .ref (a 0)), (1, .int (0 : Int32))]) [1, 0] rfl ?_
    exact h_15 gFuel r10.2 (0 : Int32)
set_option maxHeartbeats 4000000 in
set_option maxRecDepth 100000 in
theorem mX2_readVisitor (l : Launch) (D : va_G) (K : Nat → ClassId) (a : Nat → Nat) (σ : gS) (r : (Int32 × gS)) (hf : fX2_readVisitor σ  = some r) : gMi l yX2_readVisitor wsX2_readVisitor { frames := 1, cells := 0, slots := 0, locals := 23 } D (gT K) (TW K a) [.ref (a 0)] σ r := by
  refine mk_z (nL := 2) (cc := cX2_readVisitor) (by decide) rfl (Nat.le_of_ble_eq_true rfl) rfl rfl hf (fun g C => ?_)
  refine g_sub C (lv' := [(0, .ref (a 0))]) [0] rfl ?_
  unfold fX2_readVisitor
  refine g_aload_n C 0 dX2_readVisitor_0 rfl rfl ?_
  refine g_iconst C (v := (0 : Int32)) dX2_readVisitor_1 ic_0 ?_
  refine g_iconst C (v := (5 : Int32)) dX2_readVisitor_2 ic_5 ?_
  refine g_callVi C (n := 2) (As := [.int (0 : Int32), .int (5 : Int32)]) (rest := []) (fun r h => mX2_readDigit l D K a _ _ _ r h) gE.same gX2_readVisitor_X2_readDigit rfl (by decide +kernel) ⟨Nat.le_of_ble_eq_true rfl, Nat.le_of_ble_eq_true rfl, rfl, rfl⟩ 0 (TWg_0 K a _) rfl rfl rfl (Nat.le_of_ble_eq_true rfl) dX2_readVisitor_3 (fun r1 _ => ?_)
  refine g_istore_n C (lv' := [(1, .int r1.1), (0, .ref (a 0))]) dX2_readVisitor_6 rfl (by decide) rfl ?_
  refine g_aload_n C 1 dX2_readVisitor_7 rfl rfl ?_
  refine g_aload_n C 1 dX2_readVisitor_8 rfl rfl ?_
  refine g_get C (fun _ h => List.mem_cons_of_mem _ (List.mem_append_right _ h)) 0 (TWg_0 K a _) rfl 3 (by decide) (List.mem_of_getElem? (i := 1) rfl) rfl rfl dX2_readVisitor_9 ?_
  refine g_topi (fun t2 => ?_)
  refine g_put C (ty := .int) (fun _ h => List.mem_cons_of_mem _ (List.mem_append_right _ h)) tyX2 tyX2_ok nmX2 0 (TWg_0 K a _) rfl 8 (by decide) (List.mem_of_getElem? (i := 2) rfl) rfl rfl (by decide +kernel) rfl rfl (Nat.le_of_ble_eq_true rfl) (TWp_0_8 K a _ _) dX2_readVisitor_12 ?_
  refine g_state (fun u3 => ?_)
  refine g_iload_n C 0 dX2_readVisitor_15 rfl rfl ?_
  refine g_bool C (fun h9 => ?_)
  exact g_ret C ⟨dX2_readVisitor_16, rfl, rfl, h9⟩
set_option maxHeartbeats 4000000 in
set_option maxRecDepth 100000 in
theorem mX2_readBook (l : Launch) (D : va_G) (K : Nat → ClassId) (a : Nat → Nat) (σ : gS) (r : (Int32 × gS)) (hf : fX2_readBook σ  = some r) : gMi l yX2_readBook wsX2_readBook { frames := 2, cells := 0, slots := 0, locals := 45 } D (gT K) (TW K a) [.ref (a 0)] σ r := by
  refine mk_z (nL := 2) (cc := cX2_readBook) (by decide) rfl (Nat.le_of_ble_eq_true rfl) rfl rfl hf (fun g C => ?_)
  refine g_sub C (lv' := [(0, .ref (a 0))]) [0] rfl ?_
  unfold fX2_readBook
  refine g_aload_n C 0 dX2_readBook_0 rfl rfl ?_
  refine g_bipush C (v := (19 : Int32)) dX2_readBook_1 (by decide) ?_
  refine g_callVi C (n := 1) (As := [.int (19 : Int32)]) (rest := []) (fun r h => mX2_readTwoDigits l D K a _ _ r h) gE.same gX2_readBook_X2_readTwoDigits rfl (by decide +kernel) ⟨Nat.le_of_ble_eq_true rfl, Nat.le_of_ble_eq_true rfl, rfl, rfl⟩ 0 (TWg_0 K a _) rfl rfl rfl (Nat.le_of_ble_eq_true rfl) dX2_readBook_3 (fun r1 _ => ?_)
  refine g_istore_n C (lv' := [(1, .int r1.1), (0, .ref (a 0))]) dX2_readBook_6 rfl (by decide) rfl ?_
  refine g_aload_n C 1 dX2_readBook_7 rfl rfl ?_
  refine g_aload_n C 1 dX2_readBook_8 rfl rfl ?_
  refine g_get C (fun _ h => List.mem_cons_of_mem _ (List.mem_append_right _ h)) 0 (TWg_0 K a _) rfl 3 (by decide) (List.mem_of_getElem? (i := 1) rfl) rfl rfl dX2_readBook_9 ?_
  refine g_topi (fun t2 => ?_)
  refine g_put C (ty := .int) (fun _ h => List.mem_cons_of_mem _ (List.mem_append_right _ h)) tyX2 tyX2_ok nmX2 0 (TWg_0 K a _) rfl 9 (by decide) (List.mem_of_getElem? (i := 2) rfl) rfl rfl (by decide +kernel) rfl rfl (Nat.le_of_ble_eq_true rfl) (TWp_0_9 K a _ _) dX2_readBook_12 ?_
  refine g_state (fun u3 => ?_)
  refine g_iload_n C 0 dX2_readBook_15 rfl rfl ?_
  refine g_bool C (fun h9 => ?_)
  exact g_ret C ⟨dX2_readBook_16, rfl, rfl, h9⟩
set_option maxHeartbeats 4000000 in
set_option maxRecDepth 100000 in
theorem mX2_readGate (l : Launch) (D : va_G) (K : Nat → ClassId) (a : Nat → Nat) (σ : gS) (r : (Int32 × gS)) (hf : fX2_readGate σ  = some r) : gMi l yX2_readGate wsX2_readGate { frames := 1, cells := 0, slots := 0, locals := 23 } D (gT K) (TW K a) [.ref (a 0)] σ r := by
  refine mk_z (nL := 2) (cc := cX2_readGate) (by decide) rfl (Nat.le_of_ble_eq_true rfl) rfl rfl hf (fun g C => ?_)
  refine g_sub C (lv' := [(0, .ref (a 0))]) [0] rfl ?_
  unfold fX2_readGate
  refine g_aload_n C 0 dX2_readGate_0 rfl rfl ?_
  refine g_iconst C (v := (0 : Int32)) dX2_readGate_1 ic_0 ?_
  refine g_iconst C (v := (2 : Int32)) dX2_readGate_2 ic_2 ?_
  refine g_callVi C (n := 2) (As := [.int (0 : Int32), .int (2 : Int32)]) (rest := []) (fun r h => mX2_readDigit l D K a _ _ _ r h) gE.same gX2_readGate_X2_readDigit rfl (by decide +kernel) ⟨Nat.le_of_ble_eq_true rfl, Nat.le_of_ble_eq_true rfl, rfl, rfl⟩ 0 (TWg_0 K a _) rfl rfl rfl (Nat.le_of_ble_eq_true rfl) dX2_readGate_3 (fun r1 _ => ?_)
  refine g_istore_n C (lv' := [(1, .int r1.1), (0, .ref (a 0))]) dX2_readGate_6 rfl (by decide) rfl ?_
  refine g_aload_n C 1 dX2_readGate_7 rfl rfl ?_
  refine g_aload_n C 1 dX2_readGate_8 rfl rfl ?_
  refine g_get C (fun _ h => List.mem_cons_of_mem _ (List.mem_append_right _ h)) 0 (TWg_0 K a _) rfl 3 (by decide) (List.mem_of_getElem? (i := 1) rfl) rfl rfl dX2_readGate_9 ?_
  refine g_topi (fun t2 => ?_)
  refine g_put C (ty := .int) (fun _ h => List.mem_cons_of_mem _ (List.mem_append_right _ h)) tyX2 tyX2_ok nmX2 0 (TWg_0 K a _) rfl 10 (by decide) (List.mem_of_getElem? (i := 2) rfl) rfl rfl (by decide +kernel) rfl rfl (Nat.le_of_ble_eq_true rfl) (TWp_0_10 K a _ _) dX2_readGate_12 ?_
  refine g_state (fun u3 => ?_)
  refine g_iload_n C 0 dX2_readGate_15 rfl rfl ?_
  refine g_bool C (fun h9 => ?_)
  exact g_ret C ⟨dX2_readGate_16, rfl, rfl, h9⟩
set_option maxHeartbeats 4000000 in
set_option maxRecDepth 100000 in
theorem mX2_readTickCount (l : Launch) (D : va_G) (K : Nat → ClassId) (a : Nat → Nat) (σ : gS) (r : (Int32 × gS)) (hf : fX2_readTickCount σ  = some r) : gMi l yX2_readTickCount wsX2_readTickCount { frames := 1, cells := 0, slots := 0, locals := 23 } D (gT K) (TW K a) [.ref (a 0)] σ r := by
  refine mk_z (nL := 2) (cc := cX2_readTickCount) (by decide) rfl (Nat.le_of_ble_eq_true rfl) rfl rfl hf (fun g C => ?_)
  refine g_sub C (lv' := [(0, .ref (a 0))]) [0] rfl ?_
  unfold fX2_readTickCount
  refine g_aload_n C 0 dX2_readTickCount_0 rfl rfl ?_
  refine g_iconst C (v := (1 : Int32)) dX2_readTickCount_1 ic_1 ?_
  refine g_bipush C (v := (9 : Int32)) dX2_readTickCount_2 (by decide) ?_
  refine g_callVi C (n := 2) (As := [.int (1 : Int32), .int (9 : Int32)]) (rest := []) (fun r h => mX2_readDigit l D K a _ _ _ r h) gE.same gX2_readTickCount_X2_readDigit rfl (by decide +kernel) ⟨Nat.le_of_ble_eq_true rfl, Nat.le_of_ble_eq_true rfl, rfl, rfl⟩ 0 (TWg_0 K a _) rfl rfl rfl (Nat.le_of_ble_eq_true rfl) dX2_readTickCount_4 (fun r1 _ => ?_)
  refine g_istore_n C (lv' := [(1, .int r1.1), (0, .ref (a 0))]) dX2_readTickCount_7 rfl (by decide) rfl ?_
  refine g_aload_n C 1 dX2_readTickCount_8 rfl rfl ?_
  refine g_aload_n C 1 dX2_readTickCount_9 rfl rfl ?_
  refine g_get C (fun _ h => List.mem_cons_of_mem _ (List.mem_append_right _ h)) 0 (TWg_0 K a _) rfl 3 (by decide) (List.mem_of_getElem? (i := 1) rfl) rfl rfl dX2_readTickCount_10 ?_
  refine g_topi (fun t2 => ?_)
  refine g_put C (ty := .int) (fun _ h => List.mem_cons_of_mem _ (List.mem_append_right _ h)) tyX2 tyX2_ok nmX2 0 (TWg_0 K a _) rfl 11 (by decide) (List.mem_of_getElem? (i := 2) rfl) rfl rfl (by decide +kernel) rfl rfl (Nat.le_of_ble_eq_true rfl) (TWp_0_11 K a _ _) dX2_readTickCount_13 ?_
  refine g_state (fun u3 => ?_)
  refine g_iload_n C 0 dX2_readTickCount_16 rfl rfl ?_
  refine g_bool C (fun h9 => ?_)
  exact g_ret C ⟨dX2_readTickCount_17, rfl, rfl, h9⟩
set_option maxHeartbeats 4000000 in
set_option maxRecDepth 100000 in
theorem mX2_readCommand (l : Launch) (D : va_G) (K : Nat → ClassId) (a : Nat → Nat) (σ : gS) (r : (Int32 × gS)) (hf : fX2_readCommand σ  = some r) : gMi l yX2_readCommand wsX2_readCommand { frames := 3, cells := 0, slots := 0, locals := 66 } D (gT K) (TW K a) [.ref (a 0)] σ r := by
  refine mk_z (nL := 1) (cc := cX2_readCommand) (by decide) rfl (Nat.le_of_ble_eq_true rfl) rfl rfl hf (fun g C => ?_)
  refine g_sub C (lv' := [(0, .ref (a 0))]) [0] rfl ?_
  unfold fX2_readCommand
  refine g_aload_n C 0 dX2_readCommand_0 rfl rfl ?_
  refine g_bipush C (v := (97 : Int32)) dX2_readCommand_1 (by decide) ?_
  refine g_bipush C (v := (122 : Int32)) dX2_readCommand_3 (by decide) ?_
  refine g_callVi C (n := 2) (As := [.int (97 : Int32), .int (122 : Int32)]) (rest := []) (fun r h => mX2_readSign l D K a _ _ _ r h) gE.same gX2_readCommand_X2_readSign rfl (by decide +kernel) ⟨Nat.le_of_ble_eq_true rfl, Nat.le_of_ble_eq_true rfl, rfl, rfl⟩ 0 (TWg_0 K a _) rfl rfl rfl (Nat.le_of_ble_eq_true rfl) dX2_readCommand_5 (fun r1 _ => ?_)
  refine g_if_ne C 13 dX2_readCommand_8 (by decide) (fun _ => ?_) (fun _ => ?_)
  · refine g_iconst C (v := (0 : Int32)) dX2_readCommand_11 ic_0 ?_
    exact g_ret C ⟨dX2_readCommand_12, rfl, rfl, Or.inl rfl⟩
  · refine g_aload_n C 0 dX2_readCommand_13 rfl rfl ?_
    refine g_get C (fun _ h => List.mem_cons_of_mem _ (List.mem_append_right _ h)) 0 (TWg_0 K a _) rfl 7 (by decide) (List.mem_of_getElem? (i := 1) rfl) rfl rfl dX2_readCommand_14 ?_
    refine g_topi (fun t2 => ?_)
    refine g_tcase C 128 (98 : Int32) dX2_readCommand_17 (by decide) (by decide) rfl (by decide) (fun _ => ?_) (fun h3 => ?_)
    · refine g_aload_n C 0 dX2_readCommand_128 rfl rfl ?_
      refine g_callVi C (n := 0) (As := []) (rest := []) (fun r h => mX2_readBook l D K a _ r h) gE.same gX2_readCommand_X2_readBook rfl (by decide +kernel) ⟨Nat.le_of_ble_eq_true rfl, Nat.le_of_ble_eq_true rfl, rfl, rfl⟩ 0 (TWg_0 K a _) rfl rfl rfl (Nat.le_of_ble_eq_true rfl) dX2_readCommand_129 (fun r4 _ => ?_)
      refine g_bool C (fun h9 => ?_)
      exact g_ret C ⟨dX2_readCommand_132, rfl, rfl, h9⟩
    refine g_tcase C 133 (105 : Int32) dX2_readCommand_17 (by decide) (by decide) rfl (by decide) (fun _ => ?_) (fun h5 => ?_)
    · refine g_aload_n C 0 dX2_readCommand_133 rfl rfl ?_
      refine g_callVi C (n := 0) (As := []) (rest := []) (fun r h => mX2_readVisitor l D K a _ r h) gE.same gX2_readCommand_X2_readVisitor rfl (by decide +kernel) ⟨Nat.le_of_ble_eq_true rfl, Nat.le_of_ble_eq_true rfl, rfl, rfl⟩ 0 (TWg_0 K a _) rfl rfl rfl (Nat.le_of_ble_eq_true rfl) dX2_readCommand_134 (fun r6 _ => ?_)
      refine g_if_eq C 151 dX2_readCommand_137 (by decide) (fun _ => ?_) (fun _ => ?_)
      · refine g_iconst C (v := (0 : Int32)) dX2_readCommand_151 ic_0 ?_
        exact g_ret C ⟨dX2_readCommand_152, rfl, rfl, Or.inl rfl⟩
      · refine g_aload_n C 0 dX2_readCommand_140 rfl rfl ?_
        refine g_callVi C (n := 0) (As := []) (rest := []) (fun r h => mX2_readGate l D K a _ r h) gE.same gX2_readCommand_X2_readGate rfl (by decide +kernel) ⟨Nat.le_of_ble_eq_true rfl, Nat.le_of_ble_eq_true rfl, rfl, rfl⟩ 0 (TWg_0 K a _) rfl rfl rfl (Nat.le_of_ble_eq_true rfl) dX2_readCommand_141 (fun r7 _ => ?_)
        refine g_if_eq C 151 dX2_readCommand_144 (by decide) (fun _ => ?_) (fun _ => ?_)
        · refine g_iconst C (v := (0 : Int32)) dX2_readCommand_151 ic_0 ?_
          exact g_ret C ⟨dX2_readCommand_152, rfl, rfl, Or.inl rfl⟩
        · refine g_iconst C (v := (1 : Int32)) dX2_readCommand_147 ic_1 ?_
          refine g_goto C 152 dX2_readCommand_148 (by decide) ?_
          exact g_ret C ⟨dX2_readCommand_152, rfl, rfl, Or.inr rfl⟩
    refine g_tcase C 158 (110 : Int32) dX2_readCommand_17 (by decide) (by decide) rfl (by decide) (fun _ => ?_) (fun h8 => ?_)
    · refine g_aload_n C 0 dX2_readCommand_158 rfl rfl ?_
      refine g_callVi C (n := 0) (As := []) (rest := []) (fun r h => mX2_readTickCount l D K a _ r h) gE.same gX2_readCommand_X2_readTickCount rfl (by decide +kernel) ⟨Nat.le_of_ble_eq_true rfl, Nat.le_of_ble_eq_true rfl, rfl, rfl⟩ 0 (TWg_0 K a _) rfl rfl rfl (Nat.le_of_ble_eq_true rfl) dX2_readCommand_159 (fun r9 _ => ?_)
      refine g_bool C (fun h9 => ?_)
      exact g_ret C ⟨dX2_readCommand_162, rfl, rfl, h9⟩
    refine g_tcase C 133 (111 : Int32) dX2_readCommand_17 (by decide) (by decide) rfl (by decide) (fun _ => ?_) (fun h10 => ?_)
    · refine g_aload_n C 0 dX2_readCommand_133 rfl rfl ?_
      refine g_callVi C (n := 0) (As := []) (rest := []) (fun r h => mX2_readVisitor l D K a _ r h) gE.same gX2_readCommand_X2_readVisitor rfl (by decide +kernel) ⟨Nat.le_of_ble_eq_true rfl, Nat.le_of_ble_eq_true rfl, rfl, rfl⟩ 0 (TWg_0 K a _) rfl rfl rfl (Nat.le_of_ble_eq_true rfl) dX2_readCommand_134 (fun r11 _ => ?_)
      refine g_if_eq C 151 dX2_readCommand_137 (by decide) (fun _ => ?_) (fun _ => ?_)
      · refine g_iconst C (v := (0 : Int32)) dX2_readCommand_151 ic_0 ?_
        exact g_ret C ⟨dX2_readCommand_152, rfl, rfl, Or.inl rfl⟩
      · refine g_aload_n C 0 dX2_readCommand_140 rfl rfl ?_
        refine g_callVi C (n := 0) (As := []) (rest := []) (fun r h => mX2_readGate l D K a _ r h) gE.same gX2_readCommand_X2_readGate rfl (by decide +kernel) ⟨Nat.le_of_ble_eq_true rfl, Nat.le_of_ble_eq_true rfl, rfl, rfl⟩ 0 (TWg_0 K a _) rfl rfl rfl (Nat.le_of_ble_eq_true rfl) dX2_readCommand_141 (fun r12 _ => ?_)
        refine g_if_eq C 151 dX2_readCommand_144 (by decide) (fun _ => ?_) (fun _ => ?_)
        · refine g_iconst C (v := (0 : Int32)) dX2_readCommand_151 ic_0 ?_
          exact g_ret C ⟨dX2_readCommand_152, rfl, rfl, Or.inl rfl⟩
        · refine g_iconst C (v := (1 : Int32)) dX2_readCommand_147 ic_1 ?_
          refine g_goto C 152 dX2_readCommand_148 (by decide) ?_
          exact g_ret C ⟨dX2_readCommand_152, rfl, rfl, Or.inr rfl⟩
    refine g_tcase C 128 (112 : Int32) dX2_readCommand_17 (by decide) (by decide) rfl (by decide) (fun _ => ?_) (fun h13 => ?_)
    · refine g_aload_n C 0 dX2_readCommand_128 rfl rfl ?_
      refine g_callVi C (n := 0) (As := []) (rest := []) (fun r h => mX2_readBook l D K a _ r h) gE.same gX2_readCommand_X2_readBook rfl (by decide +kernel) ⟨Nat.le_of_ble_eq_true rfl, Nat.le_of_ble_eq_true rfl, rfl, rfl⟩ 0 (TWg_0 K a _) rfl rfl rfl (Nat.le_of_ble_eq_true rfl) dX2_readCommand_129 (fun r14 _ => ?_)
      refine g_bool C (fun h9 => ?_)
      exact g_ret C ⟨dX2_readCommand_132, rfl, rfl, h9⟩
    refine g_tcase C 153 (114 : Int32) dX2_readCommand_17 (by decide) (by decide) rfl (by decide) (fun _ => ?_) (fun h15 => ?_)
    · refine g_aload_n C 0 dX2_readCommand_153 rfl rfl ?_
      refine g_callVi C (n := 0) (As := []) (rest := []) (fun r h => mX2_readVisitor l D K a _ r h) gE.same gX2_readCommand_X2_readVisitor rfl (by decide +kernel) ⟨Nat.le_of_ble_eq_true rfl, Nat.le_of_ble_eq_true rfl, rfl, rfl⟩ 0 (TWg_0 K a _) rfl rfl rfl (Nat.le_of_ble_eq_true rfl) dX2_readCommand_154 (fun r16 _ => ?_)
      refine g_bool C (fun h9 => ?_)
      exact g_ret C ⟨dX2_readCommand_157, rfl, rfl, h9⟩
    refine g_tcase C 108 (116 : Int32) dX2_readCommand_17 (by decide) (by decide) rfl (by decide) (fun _ => ?_) (fun h17 => ?_)
    · refine g_aload_n C 0 dX2_readCommand_108 rfl rfl ?_
      refine g_callVi C (n := 0) (As := []) (rest := []) (fun r h => mX2_readVisitor l D K a _ r h) gE.same gX2_readCommand_X2_readVisitor rfl (by decide +kernel) ⟨Nat.le_of_ble_eq_true rfl, Nat.le_of_ble_eq_true rfl, rfl, rfl⟩ 0 (TWg_0 K a _) rfl rfl rfl (Nat.le_of_ble_eq_true rfl) dX2_readCommand_109 (fun r18 _ => ?_)
      refine g_if_eq C 126 dX2_readCommand_112 (by decide) (fun _ => ?_) (fun _ => ?_)
      · refine g_iconst C (v := (0 : Int32)) dX2_readCommand_126 ic_0 ?_
        exact g_ret C ⟨dX2_readCommand_127, rfl, rfl, Or.inl rfl⟩
      · refine g_aload_n C 0 dX2_readCommand_115 rfl rfl ?_
        refine g_callVi C (n := 0) (As := []) (rest := []) (fun r h => mX2_readBook l D K a _ r h) gE.same gX2_readCommand_X2_readBook rfl (by decide +kernel) ⟨Nat.le_of_ble_eq_true rfl, Nat.le_of_ble_eq_true rfl, rfl, rfl⟩ 0 (TWg_0 K a _) rfl rfl rfl (Nat.le_of_ble_eq_true rfl) dX2_readCommand_116 (fun r19 _ => ?_)
        refine g_if_eq C 126 dX2_readCommand_119 (by decide) (fun _ => ?_) (fun _ => ?_)
        · refine g_iconst C (v := (0 : Int32)) dX2_readCommand_126 ic_0 ?_
          exact g_ret C ⟨dX2_readCommand_127, rfl, rfl, Or.inl rfl⟩
        · refine g_iconst C (v := (1 : Int32)) dX2_readCommand_122 ic_1 ?_
          refine g_goto C 127 dX2_readCommand_123 (by decide) ?_
          exact g_ret C ⟨dX2_readCommand_127, rfl, rfl, Or.inr rfl⟩
    refine g_tdef2 C 163 [98, 105, 110, 111, 112, 114, 116] dX2_readCommand_17 (List.forall_mem_cons.mpr ⟨i32nz h3 (by decide), (List.forall_mem_cons.mpr ⟨i32nz h5 (by decide), (List.forall_mem_cons.mpr ⟨i32nz h8 (by decide), (List.forall_mem_cons.mpr ⟨i32nz h10 (by decide), (List.forall_mem_cons.mpr ⟨i32nz h13 (by decide), (List.forall_mem_cons.mpr ⟨i32nz h15 (by decide), (List.forall_mem_cons.mpr ⟨i32nz h17 (by decide), (fun _ h9 => absurd h9 List.not_mem_nil)⟩)⟩)⟩)⟩)⟩)⟩)⟩) (by decide) (by decide) (by decide) ?_
    refine g_aload_n C 0 dX2_readCommand_163 rfl rfl ?_
    refine g_dup C dX2_readCommand_164 rfl ?_
    refine g_get C (fun _ h => List.mem_cons_of_mem _ (List.mem_append_right _ h)) 0 (TWg_0 K a _) rfl 2 (by decide) (List.mem_of_getElem? (i := 2) rfl) rfl rfl dX2_readCommand_165 ?_
    refine g_iconst C (v := (1 : Int32)) dX2_readCommand_168 ic_1 ?_
    refine g_isub C dX2_readCommand_169 ?_
    refine g_topi (fun t20 => ?_)
    refine g_put C (ty := .int) (fun _ h => List.mem_cons_of_mem _ (List.mem_append_right _ h)) tyX2 tyX2_ok nmX2 0 (TWg_0 K a _) rfl 2 (by decide) (List.mem_of_getElem? (i := 2) rfl) rfl rfl (by decide +kernel) rfl rfl (Nat.le_of_ble_eq_true rfl) (TWp_0_2 K a _ _) dX2_readCommand_170 ?_
    refine g_state (fun u21 => ?_)
    refine g_iconst C (v := (0 : Int32)) dX2_readCommand_173 ic_0 ?_
    exact g_ret C ⟨dX2_readCommand_174, rfl, rfl, Or.inl rfl⟩
set_option maxHeartbeats 4000000 in
set_option maxRecDepth 100000 in
theorem mX2_firstError (l : Launch) (D : va_G) (K : Nat → ClassId) (a : Nat → Nat) (σ : gS) (r : (Int32 × gS)) (hf : fX2_firstError σ  = some r) : gMi l yX2_firstError wsX2_firstError { frames := 4, cells := 0, slots := 0, locals := 86 } D (gT K) (TW K a) [.ref (a 0)] σ r := by
  refine mk_i (nL := 2) (cc := cX2_firstError) (by decide) rfl (Nat.le_of_ble_eq_true rfl) rfl rfl hf (fun g C => ?_)
  refine g_sub C (lv' := [(0, .ref (a 0))]) [0] rfl ?_
  unfold fX2_firstError
  have h_18 : ∀ (n : Nat) (σ : gS) (v1 : Int32), g (fX2_firstError_L18 n σ v1) 18 [(0, .ref (a 0)), (1, .int v1)] [] σ := by
    intro n
    induction n with
    | zero =>
      intro σ v1
      exact g_none C
    | succ n18 ih_18 =>
      intro σ v1
      unfold fX2_firstError_L18
      refine g_iload_n C 1 dX2_firstError_18 rfl rfl ?_
      refine g_bipush C (v := (120 : Int32)) dX2_firstError_19 (by decide) ?_
      refine g_icmp_ge C 53 dX2_firstError_21 (by decide) (fun _ => ?_) (fun _ => ?_)
      · refine g_bipush C (v := (-9 : Int32)) dX2_firstError_53 (by decide) ?_
        exact g_ret C ⟨dX2_firstError_55, rfl, rfl⟩
      · refine g_aload_n C 0 dX2_firstError_24 rfl rfl ?_
        refine g_get C (fun _ h => List.mem_cons_of_mem _ (List.mem_append_right _ h)) 0 (TWg_0 K a _) rfl 2 (by decide) (List.mem_of_getElem? (i := 1) rfl) rfl rfl dX2_firstError_25 ?_
        refine g_aload_n C 0 dX2_firstError_28 rfl rfl ?_
        refine g_get C (fun _ h => List.mem_cons_of_mem _ (List.mem_append_right _ h)) 0 (TWg_0 K a _) rfl 1 (by decide) (List.mem_of_getElem? (i := 2) rfl) rfl rfl dX2_firstError_29 ?_
        refine g_icmp_ge C 53 dX2_firstError_32 (by decide) (fun _ => ?_) (fun _ => ?_)
        · refine g_bipush C (v := (-9 : Int32)) dX2_firstError_53 (by decide) ?_
          exact g_ret C ⟨dX2_firstError_55, rfl, rfl⟩
        · refine g_aload_n C 0 dX2_firstError_35 rfl rfl ?_
          refine g_callVi C (n := 0) (As := []) (rest := []) (fun r h => mX2_readCommand l D K a _ r h) gE.same gX2_firstError_X2_readCommand rfl (by decide +kernel) ⟨Nat.le_of_ble_eq_true rfl, Nat.le_of_ble_eq_true rfl, rfl, rfl⟩ 0 (TWg_0 K a _) rfl rfl rfl (Nat.le_of_ble_eq_true rfl) dX2_firstError_36 (fun r1 _ => ?_)
          refine g_if_ne C 47 dX2_firstError_39 (by decide) (fun _ => ?_) (fun _ => ?_)
          · refine g_aload_n C 0 dX2_firstError_42 rfl rfl ?_
            refine g_get C (fun _ h => List.mem_cons_of_mem _ (List.mem_append_right _ h)) 0 (TWg_0 K a _) rfl 2 (by decide) (List.mem_of_getElem? (i := 1) rfl) rfl rfl dX2_firstError_43 ?_
            exact g_ret C ⟨dX2_firstError_46, rfl, rfl⟩
          · refine g_iinc C (w := (1 : Int32)) (lv' := [(1, .int (v1 + (1 : Int32))), (0, .ref (a 0))]) 1 dX2_firstError_47 rfl ic_1 (by decide) rfl ?_
            refine g_goto C 18 dX2_firstError_50 (by decide) ?_
            refine g_sub C (lv' := [(0, .ref (a 0)), (1, .int (v1 + (1 : Int32)))]) [1, 0] rfl ?_
            exact ih_18 r1.2 (v1 + (1 : Int32))
  refine g_aload_n C 0 dX2_firstError_0 rfl rfl ?_
  refine g_callVv C (n := 0) (As := []) (rest := []) (fun r h => mX2_startReading l D K a _ r h) gE.same gX2_firstError_X2_startReading rfl (by decide +kernel) ⟨Nat.le_of_ble_eq_true rfl, Nat.le_of_ble_eq_true rfl, rfl, rfl⟩ 0 (TWg_0 K a _) rfl rfl rfl (Nat.le_of_ble_eq_true rfl) dX2_firstError_1 (fun r2 _ => ?_)
  refine g_aload_n C 0 dX2_firstError_4 rfl rfl ?_
  refine g_callVi C (n := 0) (As := []) (rest := []) (fun r h => mX2_readHeader l D K a _ r h) gE.same gX2_firstError_X2_readHeader rfl (by decide +kernel) ⟨Nat.le_of_ble_eq_true rfl, Nat.le_of_ble_eq_true rfl, rfl, rfl⟩ 0 (TWg_0 K a _) rfl rfl rfl (Nat.le_of_ble_eq_true rfl) dX2_firstError_5 (fun r3 _ => ?_)
  refine g_if_ne C 16 dX2_firstError_8 (by decide) (fun _ => ?_) (fun _ => ?_)
  · refine g_aload_n C 0 dX2_firstError_11 rfl rfl ?_
    refine g_get C (fun _ h => List.mem_cons_of_mem _ (List.mem_append_right _ h)) 0 (TWg_0 K a _) rfl 2 (by decide) (List.mem_of_getElem? (i := 1) rfl) rfl rfl dX2_firstError_12 ?_
    exact g_ret C ⟨dX2_firstError_15, rfl, rfl⟩
  · refine g_iconst C (v := (0 : Int32)) dX2_firstError_16 ic_0 ?_
    refine g_istore_n C (lv' := [(1, .int (0 : Int32)), (0, .ref (a 0))]) dX2_firstError_17 rfl (by decide) rfl ?_
    refine g_sub C (lv' := [(0, .ref (a 0)), (1, .int (0 : Int32))]) [1, 0] rfl ?_
    exact h_18 gFuel r3.2 (0 : Int32)
