theorem c_places {l : Launch} {rm : Room} {own : String} {cc : ByteArray} {Ts : List Cond} {nL : Nat} {D : va_G} {tys : List (ClassId × FieldType)} {fin : va_W → Prop} {g : va_W → Nat → Nat → Nat → List (Nat × Value) → List Value → Prop} {ws ws' : va_W} {k n pc : Nat} {lv : List (Nat × Value)} {st : List Value} (C : cC l rm own cc Ts nL D tys fin g) (is : List Nat) (hn : va_nd is = true) (hs : is.map (fun i => ws[i]?) = ws'.map some) (kk : g ws' k n pc lv st) : g ws k n pc lv st := by
  have hs2 : is.filterMap (fun i => ws[i]?) = ws' := by
    have h := congrArg (List.filterMap id) hs
    rw [List.filterMap_map, List.filterMap_map] at h
    simpa [Function.comp_def] using h
  obtain ⟨p, e, s, m, args, below, meth, c, A, Q, hx, hb, hml, hown, hts, hK, hA, hin9, hO, rfl, hret⟩ := C
  intro H locs ls hP hD hS hl
  exact kk H locs ls (hP.sub is hs2) (hD.sub is hn hs) hS hl
def zS : gS := fun _ _ => 0
def GW (K : Nat → ClassId) (a : Nat → Nat) (σ : gS) : va_W := (LW K a σ).take 9
def aG (h0 q1 q2 q3 q4 q5 q6 q7 q8 : Nat) : Nat → Nat := fun i => [h0, q1, q2, q3, q4, q5, q6, q7, q8].getD i 0
def aL (a9 : Nat → Nat) (h0 q1 q2 q3 q4 q5 q6 q7 : Nat) : Nat → Nat := fun i => if i < 9 then a9 i else [h0, q1, q2, q3, q4, q5, q6, q7].getD (i - 9) 0
def sL (σG : gS) : gS := fun i => if i < 9 then σG i else fun _ => 0
theorem GWg_0 (K : Nat → ClassId) (a : Nat → Nat) (σ : gS) : (GW K a σ)[0]? = some (a 0, .inr (0, [.ref (a 1), .ref (a 2), .ref (a 3), .ref (a 4), .ref (a 5), .ref (a 6), .ref (a 7), .ref (a 8), .int (σ 0 8)])) := rfl
theorem GWp_0_8 (K : Nat → ClassId) (a : Nat → Nat) (σ : gS) (v : Int32) : (GW K a σ).set 0 (a 0, .inr (0, [.ref (a 1), .ref (a 2), .ref (a 3), .ref (a 4), .ref (a 5), .ref (a 6), .ref (a 7), .ref (a 8), .int (σ 0 8)].set 8 (.int v))) = GW K a (st2 σ 0 8 v) := rfl
theorem GWg_1 (K : Nat → ClassId) (a : Nat → Nat) (σ : gS) : (GW K a σ)[1]? = some (a 1, .inl (K 0, 3, .inl (σ 1))) := rfl
theorem GWs_1 (K : Nat → ClassId) (a : Nat → Nat) (σ : gS) (f : Nat → Int32) : (GW K a σ).set 1 (a 1, .inl (K 0, 3, .inl f)) = GW K a (stf σ 1 f) := rfl
theorem GWg_2 (K : Nat → ClassId) (a : Nat → Nat) (σ : gS) : (GW K a σ)[2]? = some (a 2, .inl (K 0, 3, .inl (σ 2))) := rfl
theorem GWs_2 (K : Nat → ClassId) (a : Nat → Nat) (σ : gS) (f : Nat → Int32) : (GW K a σ).set 2 (a 2, .inl (K 0, 3, .inl f)) = GW K a (stf σ 2 f) := rfl
theorem GWg_3 (K : Nat → ClassId) (a : Nat → Nat) (σ : gS) : (GW K a σ)[3]? = some (a 3, .inl (K 0, 3, .inl (σ 3))) := rfl
theorem GWs_3 (K : Nat → ClassId) (a : Nat → Nat) (σ : gS) (f : Nat → Int32) : (GW K a σ).set 3 (a 3, .inl (K 0, 3, .inl f)) = GW K a (stf σ 3 f) := rfl
theorem GWg_4 (K : Nat → ClassId) (a : Nat → Nat) (σ : gS) : (GW K a σ)[4]? = some (a 4, .inl (K 0, 3, .inl (σ 4))) := rfl
theorem GWs_4 (K : Nat → ClassId) (a : Nat → Nat) (σ : gS) (f : Nat → Int32) : (GW K a σ).set 4 (a 4, .inl (K 0, 3, .inl f)) = GW K a (stf σ 4 f) := rfl
theorem GWg_5 (K : Nat → ClassId) (a : Nat → Nat) (σ : gS) : (GW K a σ)[5]? = some (a 5, .inl (K 0, 60, .inl (σ 5))) := rfl
theorem GWs_5 (K : Nat → ClassId) (a : Nat → Nat) (σ : gS) (f : Nat → Int32) : (GW K a σ).set 5 (a 5, .inl (K 0, 60, .inl f)) = GW K a (stf σ 5 f) := rfl
theorem GWg_6 (K : Nat → ClassId) (a : Nat → Nat) (σ : gS) : (GW K a σ)[6]? = some (a 6, .inl (K 0, 10, .inl (σ 6))) := rfl
theorem GWs_6 (K : Nat → ClassId) (a : Nat → Nat) (σ : gS) (f : Nat → Int32) : (GW K a σ).set 6 (a 6, .inl (K 0, 10, .inl f)) = GW K a (stf σ 6 f) := rfl
theorem GWg_7 (K : Nat → ClassId) (a : Nat → Nat) (σ : gS) : (GW K a σ)[7]? = some (a 7, .inl (K 0, 10, .inl (σ 7))) := rfl
theorem GWs_7 (K : Nat → ClassId) (a : Nat → Nat) (σ : gS) (f : Nat → Int32) : (GW K a σ).set 7 (a 7, .inl (K 0, 10, .inl f)) = GW K a (stf σ 7 f) := rfl
theorem GWg_8 (K : Nat → ClassId) (a : Nat → Nat) (σ : gS) : (GW K a σ)[8]? = some (a 8, .inl (K 0, 10, .inl (σ 8))) := rfl
theorem GWs_8 (K : Nat → ClassId) (a : Nat → Nat) (σ : gS) (f : Nat → Int32) : (GW K a σ).set 8 (a 8, .inl (K 0, 10, .inl f)) = GW K a (stf σ 8 f) := rfl
set_option maxHeartbeats 4000000 in
set_option maxRecDepth 100000 in
theorem mX0_init (l : Launch) (D : va_G) (K : Nat → ClassId) (h0 : Nat) : cM l yX0_init wsX0_init { frames := 1, cells := 8, slots := 102, locals := 64 } D (gT K) [(h0, .inr (0, [.null, .null, .null, .null, .null, .null, .null, .null, .int 0]))] [.ref h0] (fun w1 => ∃ a, a 0 = h0 ∧ w1 = GW K a zS) := by
  refine mk_c (nL := 1) (cc := cX0_init) (by decide) rfl rfl (Nat.le_of_ble_eq_true rfl) (fun g C => ?_)
  refine c_sub C (lv' := [(0, .ref h0)]) [0] rfl ?_
  refine c_aload_n C 0 dX0_init_0 rfl rfl ?_
  refine c_objInit C (List.mem_of_getElem? (i := 1) rfl) (List.mem_of_getElem? (i := 2) rfl) (List.mem_of_getElem? (i := 3) rfl) (Nat.le_of_ble_eq_true rfl) (Nat.le_of_ble_eq_true rfl) dX0_init_1 ?_
  refine c_aload_n C 0 dX0_init_4 rfl rfl ?_
  refine c_iconst C (v := 3) dX0_init_5 ic_3 ?_
  refine c_newa C (ty := .int) (N := 3) 0 (List.mem_of_getElem? (i := 4) rfl) rfl rfl rfl (by decide) (by decide) (Nat.le_of_ble_eq_true rfl) (Nat.le_of_ble_eq_true rfl) (Nat.le_of_ble_eq_true rfl) dX0_init_6 (fun q1 => ?_)
  refine c_putF C (ty := .array .int) (ws' := [(h0, .inr (0, [.ref q1, .null, .null, .null, .null, .null, .null, .null, .int 0])), (q1, .inl (K 0, 3, .inl (fun _ => 0)))]) (fun _ h => List.mem_cons_of_mem _ (List.mem_append_right _ h)) tyX0 tyX0_ok nmX0 0 rfl rfl 0 (by decide) (List.mem_of_getElem? (i := 5) rfl) rfl rfl rfl (by decide +kernel) rfl rfl (Nat.le_of_ble_eq_true rfl) rfl dX0_init_8 ?_
  refine c_aload_n C 0 dX0_init_11 rfl rfl ?_
  refine c_iconst C (v := 3) dX0_init_12 ic_3 ?_
  refine c_newa C (ty := .int) (N := 3) 0 (List.mem_of_getElem? (i := 4) rfl) rfl rfl rfl (by decide) (by decide) (Nat.le_of_ble_eq_true rfl) (Nat.le_of_ble_eq_true rfl) (Nat.le_of_ble_eq_true rfl) dX0_init_13 (fun q2 => ?_)
  refine c_putF C (ty := .array .int) (ws' := [(h0, .inr (0, [.ref q1, .ref q2, .null, .null, .null, .null, .null, .null, .int 0])), (q1, .inl (K 0, 3, .inl (fun _ => 0))), (q2, .inl (K 0, 3, .inl (fun _ => 0)))]) (fun _ h => List.mem_cons_of_mem _ (List.mem_append_right _ h)) tyX0 tyX0_ok nmX0 0 rfl rfl 1 (by decide) (List.mem_of_getElem? (i := 6) rfl) rfl rfl rfl (by decide +kernel) rfl rfl (Nat.le_of_ble_eq_true rfl) rfl dX0_init_15 ?_
  refine c_aload_n C 0 dX0_init_18 rfl rfl ?_
  refine c_iconst C (v := 3) dX0_init_19 ic_3 ?_
  refine c_newa C (ty := .int) (N := 3) 0 (List.mem_of_getElem? (i := 4) rfl) rfl rfl rfl (by decide) (by decide) (Nat.le_of_ble_eq_true rfl) (Nat.le_of_ble_eq_true rfl) (Nat.le_of_ble_eq_true rfl) dX0_init_20 (fun q3 => ?_)
  refine c_putF C (ty := .array .int) (ws' := [(h0, .inr (0, [.ref q1, .ref q2, .ref q3, .null, .null, .null, .null, .null, .int 0])), (q1, .inl (K 0, 3, .inl (fun _ => 0))), (q2, .inl (K 0, 3, .inl (fun _ => 0))), (q3, .inl (K 0, 3, .inl (fun _ => 0)))]) (fun _ h => List.mem_cons_of_mem _ (List.mem_append_right _ h)) tyX0 tyX0_ok nmX0 0 rfl rfl 2 (by decide) (List.mem_of_getElem? (i := 7) rfl) rfl rfl rfl (by decide +kernel) rfl rfl (Nat.le_of_ble_eq_true rfl) rfl dX0_init_22 ?_
  refine c_aload_n C 0 dX0_init_25 rfl rfl ?_
  refine c_iconst C (v := 3) dX0_init_26 ic_3 ?_
  refine c_newa C (ty := .int) (N := 3) 0 (List.mem_of_getElem? (i := 4) rfl) rfl rfl rfl (by decide) (by decide) (Nat.le_of_ble_eq_true rfl) (Nat.le_of_ble_eq_true rfl) (Nat.le_of_ble_eq_true rfl) dX0_init_27 (fun q4 => ?_)
  refine c_putF C (ty := .array .int) (ws' := [(h0, .inr (0, [.ref q1, .ref q2, .ref q3, .ref q4, .null, .null, .null, .null, .int 0])), (q1, .inl (K 0, 3, .inl (fun _ => 0))), (q2, .inl (K 0, 3, .inl (fun _ => 0))), (q3, .inl (K 0, 3, .inl (fun _ => 0))), (q4, .inl (K 0, 3, .inl (fun _ => 0)))]) (fun _ h => List.mem_cons_of_mem _ (List.mem_append_right _ h)) tyX0 tyX0_ok nmX0 0 rfl rfl 3 (by decide) (List.mem_of_getElem? (i := 8) rfl) rfl rfl rfl (by decide +kernel) rfl rfl (Nat.le_of_ble_eq_true rfl) rfl dX0_init_29 ?_
  refine c_aload_n C 0 dX0_init_32 rfl rfl ?_
  refine c_bipush C (v := 60) dX0_init_33 (by decide) ?_
  refine c_newa C (ty := .int) (N := 60) 0 (List.mem_of_getElem? (i := 4) rfl) rfl rfl rfl (by decide) (by decide) (Nat.le_of_ble_eq_true rfl) (Nat.le_of_ble_eq_true rfl) (Nat.le_of_ble_eq_true rfl) dX0_init_35 (fun q5 => ?_)
  refine c_putF C (ty := .array .int) (ws' := [(h0, .inr (0, [.ref q1, .ref q2, .ref q3, .ref q4, .ref q5, .null, .null, .null, .int 0])), (q1, .inl (K 0, 3, .inl (fun _ => 0))), (q2, .inl (K 0, 3, .inl (fun _ => 0))), (q3, .inl (K 0, 3, .inl (fun _ => 0))), (q4, .inl (K 0, 3, .inl (fun _ => 0))), (q5, .inl (K 0, 60, .inl (fun _ => 0)))]) (fun _ h => List.mem_cons_of_mem _ (List.mem_append_right _ h)) tyX0 tyX0_ok nmX0 0 rfl rfl 4 (by decide) (List.mem_of_getElem? (i := 9) rfl) rfl rfl rfl (by decide +kernel) rfl rfl (Nat.le_of_ble_eq_true rfl) rfl dX0_init_37 ?_
  refine c_aload_n C 0 dX0_init_40 rfl rfl ?_
  refine c_bipush C (v := 10) dX0_init_41 (by decide) ?_
  refine c_newa C (ty := .int) (N := 10) 0 (List.mem_of_getElem? (i := 4) rfl) rfl rfl rfl (by decide) (by decide) (Nat.le_of_ble_eq_true rfl) (Nat.le_of_ble_eq_true rfl) (Nat.le_of_ble_eq_true rfl) dX0_init_43 (fun q6 => ?_)
  refine c_putF C (ty := .array .int) (ws' := [(h0, .inr (0, [.ref q1, .ref q2, .ref q3, .ref q4, .ref q5, .ref q6, .null, .null, .int 0])), (q1, .inl (K 0, 3, .inl (fun _ => 0))), (q2, .inl (K 0, 3, .inl (fun _ => 0))), (q3, .inl (K 0, 3, .inl (fun _ => 0))), (q4, .inl (K 0, 3, .inl (fun _ => 0))), (q5, .inl (K 0, 60, .inl (fun _ => 0))), (q6, .inl (K 0, 10, .inl (fun _ => 0)))]) (fun _ h => List.mem_cons_of_mem _ (List.mem_append_right _ h)) tyX0 tyX0_ok nmX0 0 rfl rfl 5 (by decide) (List.mem_of_getElem? (i := 10) rfl) rfl rfl rfl (by decide +kernel) rfl rfl (Nat.le_of_ble_eq_true rfl) rfl dX0_init_45 ?_
  refine c_aload_n C 0 dX0_init_48 rfl rfl ?_
  refine c_bipush C (v := 10) dX0_init_49 (by decide) ?_
  refine c_newa C (ty := .int) (N := 10) 0 (List.mem_of_getElem? (i := 4) rfl) rfl rfl rfl (by decide) (by decide) (Nat.le_of_ble_eq_true rfl) (Nat.le_of_ble_eq_true rfl) (Nat.le_of_ble_eq_true rfl) dX0_init_51 (fun q7 => ?_)
  refine c_putF C (ty := .array .int) (ws' := [(h0, .inr (0, [.ref q1, .ref q2, .ref q3, .ref q4, .ref q5, .ref q6, .ref q7, .null, .int 0])), (q1, .inl (K 0, 3, .inl (fun _ => 0))), (q2, .inl (K 0, 3, .inl (fun _ => 0))), (q3, .inl (K 0, 3, .inl (fun _ => 0))), (q4, .inl (K 0, 3, .inl (fun _ => 0))), (q5, .inl (K 0, 60, .inl (fun _ => 0))), (q6, .inl (K 0, 10, .inl (fun _ => 0))), (q7, .inl (K 0, 10, .inl (fun _ => 0)))]) (fun _ h => List.mem_cons_of_mem _ (List.mem_append_right _ h)) tyX0 tyX0_ok nmX0 0 rfl rfl 6 (by decide) (List.mem_of_getElem? (i := 11) rfl) rfl rfl rfl (by decide +kernel) rfl rfl (Nat.le_of_ble_eq_true rfl) rfl dX0_init_53 ?_
  refine c_aload_n C 0 dX0_init_56 rfl rfl ?_
  refine c_bipush C (v := 10) dX0_init_57 (by decide) ?_
  refine c_newa C (ty := .int) (N := 10) 0 (List.mem_of_getElem? (i := 4) rfl) rfl rfl rfl (by decide) (by decide) (Nat.le_of_ble_eq_true rfl) (Nat.le_of_ble_eq_true rfl) (Nat.le_of_ble_eq_true rfl) dX0_init_59 (fun q8 => ?_)
  refine c_putF C (ty := .array .int) (ws' := [(h0, .inr (0, [.ref q1, .ref q2, .ref q3, .ref q4, .ref q5, .ref q6, .ref q7, .ref q8, .int 0])), (q1, .inl (K 0, 3, .inl (fun _ => 0))), (q2, .inl (K 0, 3, .inl (fun _ => 0))), (q3, .inl (K 0, 3, .inl (fun _ => 0))), (q4, .inl (K 0, 3, .inl (fun _ => 0))), (q5, .inl (K 0, 60, .inl (fun _ => 0))), (q6, .inl (K 0, 10, .inl (fun _ => 0))), (q7, .inl (K 0, 10, .inl (fun _ => 0))), (q8, .inl (K 0, 10, .inl (fun _ => 0)))]) (fun _ h => List.mem_cons_of_mem _ (List.mem_append_right _ h)) tyX0 tyX0_ok nmX0 0 rfl rfl 7 (by decide) (List.mem_of_getElem? (i := 12) rfl) rfl rfl rfl (by decide +kernel) rfl rfl (Nat.le_of_ble_eq_true rfl) rfl dX0_init_61 ?_
  exact c_ret C ⟨aG h0 q1 q2 q3 q4 q5 q6 q7 q8, rfl, rfl⟩ (Nat.le_of_ble_eq_true rfl) (Nat.le_of_ble_eq_true rfl) dX0_init_64
set_option maxHeartbeats 4000000 in
set_option maxRecDepth 100000 in
theorem mX2_init (l : Launch) (D : va_G) (K : Nat → ClassId) (h0 : Nat) : cM l yX2_init wsX2_init { frames := 1, cells := 2, slots := 123, locals := 64 } D (gT K) [(h0, .inr (2, [.null, .int 0, .int 0, .int 0, .null, .int 0, .int 0, .int 0, .int 0, .int 0, .int 0, .int 0]))] [.ref h0] (fun w1 => ∃ a, a 0 = h0 ∧ w1 = TW K a zS) := by
  refine mk_c (nL := 1) (cc := cX2_init) (by decide) rfl rfl (Nat.le_of_ble_eq_true rfl) (fun g C => ?_)
  refine c_sub C (lv' := [(0, .ref h0)]) [0] rfl ?_
  refine c_aload_n C 0 dX2_init_0 rfl rfl ?_
  refine c_objInit C (List.mem_of_getElem? (i := 1) rfl) (List.mem_of_getElem? (i := 2) rfl) (List.mem_of_getElem? (i := 3) rfl) (Nat.le_of_ble_eq_true rfl) (Nat.le_of_ble_eq_true rfl) dX2_init_1 ?_
  refine c_aload_n C 0 dX2_init_4 rfl rfl ?_
  refine c_bipush C (v := 120) dX2_init_5 (by decide) ?_
  refine c_newa C (ty := .char) (N := 120) 2 (List.mem_of_getElem? (i := 4) rfl) rfl rfl rfl (by decide) (by decide) (Nat.le_of_ble_eq_true rfl) (Nat.le_of_ble_eq_true rfl) (Nat.le_of_ble_eq_true rfl) dX2_init_7 (fun q1 => ?_)
  refine c_putF C (ty := .array .char) (ws' := [(h0, .inr (2, [.ref q1, .int 0, .int 0, .int 0, .null, .int 0, .int 0, .int 0, .int 0, .int 0, .int 0, .int 0])), (q1, .inl (K 2, 120, .inl (fun _ => 0)))]) (fun _ h => List.mem_cons_of_mem _ (List.mem_append_right _ h)) tyX2 tyX2_ok nmX2 0 rfl rfl 0 (by decide) (List.mem_of_getElem? (i := 5) rfl) rfl rfl rfl (by decide +kernel) rfl rfl (Nat.le_of_ble_eq_true rfl) rfl dX2_init_9 ?_
  refine c_aload_n C 0 dX2_init_12 rfl rfl ?_
  refine c_iconst C (v := 0) dX2_init_13 ic_0 ?_
  refine c_put C (ty := .int) (ws' := [(h0, .inr (2, [.ref q1, .int 0, .int 0, .int 0, .null, .int 0, .int 0, .int 0, .int 0, .int 0, .int 0, .int 0])), (q1, .inl (K 2, 120, .inl (fun _ => 0)))]) (fun _ h => List.mem_cons_of_mem _ (List.mem_append_right _ h)) tyX2 tyX2_ok nmX2 0 rfl rfl 1 (by decide) (List.mem_of_getElem? (i := 6) rfl) rfl rfl (by decide +kernel) rfl rfl (Nat.le_of_ble_eq_true rfl) rfl dX2_init_14 ?_
  refine c_aload_n C 0 dX2_init_17 rfl rfl ?_
  refine c_iconst C (v := 0) dX2_init_18 ic_0 ?_
  refine c_put C (ty := .int) (ws' := [(h0, .inr (2, [.ref q1, .int 0, .int 0, .int 0, .null, .int 0, .int 0, .int 0, .int 0, .int 0, .int 0, .int 0])), (q1, .inl (K 2, 120, .inl (fun _ => 0)))]) (fun _ h => List.mem_cons_of_mem _ (List.mem_append_right _ h)) tyX2 tyX2_ok nmX2 0 rfl rfl 2 (by decide) (List.mem_of_getElem? (i := 7) rfl) rfl rfl (by decide +kernel) rfl rfl (Nat.le_of_ble_eq_true rfl) rfl dX2_init_19 ?_
  refine c_aload_n C 0 dX2_init_22 rfl rfl ?_
  refine c_iconst C (v := 0) dX2_init_23 ic_0 ?_
  refine c_put C (ty := .int) (ws' := [(h0, .inr (2, [.ref q1, .int 0, .int 0, .int 0, .null, .int 0, .int 0, .int 0, .int 0, .int 0, .int 0, .int 0])), (q1, .inl (K 2, 120, .inl (fun _ => 0)))]) (fun _ h => List.mem_cons_of_mem _ (List.mem_append_right _ h)) tyX2 tyX2_ok nmX2 0 rfl rfl 3 (by decide) (List.mem_of_getElem? (i := 8) rfl) rfl rfl (by decide +kernel) rfl rfl (Nat.le_of_ble_eq_true rfl) rfl dX2_init_24 ?_
  refine c_aload_n C 0 dX2_init_27 rfl rfl ?_
  refine c_iconst C (v := 3) dX2_init_28 ic_3 ?_
  refine c_newa C (ty := .int) (N := 3) 0 (List.mem_of_getElem? (i := 9) rfl) rfl rfl rfl (by decide) (by decide) (Nat.le_of_ble_eq_true rfl) (Nat.le_of_ble_eq_true rfl) (Nat.le_of_ble_eq_true rfl) dX2_init_29 (fun q2 => ?_)
  refine c_putF C (ty := .array .int) (ws' := [(h0, .inr (2, [.ref q1, .int 0, .int 0, .int 0, .ref q2, .int 0, .int 0, .int 0, .int 0, .int 0, .int 0, .int 0])), (q1, .inl (K 2, 120, .inl (fun _ => 0))), (q2, .inl (K 0, 3, .inl (fun _ => 0)))]) (fun _ h => List.mem_cons_of_mem _ (List.mem_append_right _ h)) tyX2 tyX2_ok nmX2 0 rfl rfl 4 (by decide) (List.mem_of_getElem? (i := 10) rfl) rfl rfl rfl (by decide +kernel) rfl rfl (Nat.le_of_ble_eq_true rfl) rfl dX2_init_31 ?_
  refine c_aload_n C 0 dX2_init_34 rfl rfl ?_
  refine c_iconst C (v := 0) dX2_init_35 ic_0 ?_
  refine c_put C (ty := .int) (ws' := [(h0, .inr (2, [.ref q1, .int 0, .int 0, .int 0, .ref q2, .int 0, .int 0, .int 0, .int 0, .int 0, .int 0, .int 0])), (q1, .inl (K 2, 120, .inl (fun _ => 0))), (q2, .inl (K 0, 3, .inl (fun _ => 0)))]) (fun _ h => List.mem_cons_of_mem _ (List.mem_append_right _ h)) tyX2 tyX2_ok nmX2 0 rfl rfl 5 (by decide) (List.mem_of_getElem? (i := 11) rfl) rfl rfl (by decide +kernel) rfl rfl (Nat.le_of_ble_eq_true rfl) rfl dX2_init_36 ?_
  refine c_aload_n C 0 dX2_init_39 rfl rfl ?_
  refine c_iconst C (v := 0) dX2_init_40 ic_0 ?_
  refine c_put C (ty := .int) (ws' := [(h0, .inr (2, [.ref q1, .int 0, .int 0, .int 0, .ref q2, .int 0, .int 0, .int 0, .int 0, .int 0, .int 0, .int 0])), (q1, .inl (K 2, 120, .inl (fun _ => 0))), (q2, .inl (K 0, 3, .inl (fun _ => 0)))]) (fun _ h => List.mem_cons_of_mem _ (List.mem_append_right _ h)) tyX2 tyX2_ok nmX2 0 rfl rfl 6 (by decide) (List.mem_of_getElem? (i := 12) rfl) rfl rfl (by decide +kernel) rfl rfl (Nat.le_of_ble_eq_true rfl) rfl dX2_init_41 ?_
  refine c_aload_n C 0 dX2_init_44 rfl rfl ?_
  refine c_iconst C (v := 0) dX2_init_45 ic_0 ?_
  refine c_put C (ty := .int) (ws' := [(h0, .inr (2, [.ref q1, .int 0, .int 0, .int 0, .ref q2, .int 0, .int 0, .int 0, .int 0, .int 0, .int 0, .int 0])), (q1, .inl (K 2, 120, .inl (fun _ => 0))), (q2, .inl (K 0, 3, .inl (fun _ => 0)))]) (fun _ h => List.mem_cons_of_mem _ (List.mem_append_right _ h)) tyX2 tyX2_ok nmX2 0 rfl rfl 7 (by decide) (List.mem_of_getElem? (i := 13) rfl) rfl rfl (by decide +kernel) rfl rfl (Nat.le_of_ble_eq_true rfl) rfl dX2_init_46 ?_
  refine c_aload_n C 0 dX2_init_49 rfl rfl ?_
  refine c_iconst C (v := 0) dX2_init_50 ic_0 ?_
  refine c_put C (ty := .int) (ws' := [(h0, .inr (2, [.ref q1, .int 0, .int 0, .int 0, .ref q2, .int 0, .int 0, .int 0, .int 0, .int 0, .int 0, .int 0])), (q1, .inl (K 2, 120, .inl (fun _ => 0))), (q2, .inl (K 0, 3, .inl (fun _ => 0)))]) (fun _ h => List.mem_cons_of_mem _ (List.mem_append_right _ h)) tyX2 tyX2_ok nmX2 0 rfl rfl 8 (by decide) (List.mem_of_getElem? (i := 14) rfl) rfl rfl (by decide +kernel) rfl rfl (Nat.le_of_ble_eq_true rfl) rfl dX2_init_51 ?_
  refine c_aload_n C 0 dX2_init_54 rfl rfl ?_
  refine c_iconst C (v := 0) dX2_init_55 ic_0 ?_
  refine c_put C (ty := .int) (ws' := [(h0, .inr (2, [.ref q1, .int 0, .int 0, .int 0, .ref q2, .int 0, .int 0, .int 0, .int 0, .int 0, .int 0, .int 0])), (q1, .inl (K 2, 120, .inl (fun _ => 0))), (q2, .inl (K 0, 3, .inl (fun _ => 0)))]) (fun _ h => List.mem_cons_of_mem _ (List.mem_append_right _ h)) tyX2 tyX2_ok nmX2 0 rfl rfl 9 (by decide) (List.mem_of_getElem? (i := 15) rfl) rfl rfl (by decide +kernel) rfl rfl (Nat.le_of_ble_eq_true rfl) rfl dX2_init_56 ?_
  refine c_aload_n C 0 dX2_init_59 rfl rfl ?_
  refine c_iconst C (v := 0) dX2_init_60 ic_0 ?_
  refine c_put C (ty := .int) (ws' := [(h0, .inr (2, [.ref q1, .int 0, .int 0, .int 0, .ref q2, .int 0, .int 0, .int 0, .int 0, .int 0, .int 0, .int 0])), (q1, .inl (K 2, 120, .inl (fun _ => 0))), (q2, .inl (K 0, 3, .inl (fun _ => 0)))]) (fun _ h => List.mem_cons_of_mem _ (List.mem_append_right _ h)) tyX2 tyX2_ok nmX2 0 rfl rfl 10 (by decide) (List.mem_of_getElem? (i := 16) rfl) rfl rfl (by decide +kernel) rfl rfl (Nat.le_of_ble_eq_true rfl) rfl dX2_init_61 ?_
  refine c_aload_n C 0 dX2_init_64 rfl rfl ?_
  refine c_iconst C (v := 0) dX2_init_65 ic_0 ?_
  refine c_put C (ty := .int) (ws' := [(h0, .inr (2, [.ref q1, .int 0, .int 0, .int 0, .ref q2, .int 0, .int 0, .int 0, .int 0, .int 0, .int 0, .int 0])), (q1, .inl (K 2, 120, .inl (fun _ => 0))), (q2, .inl (K 0, 3, .inl (fun _ => 0)))]) (fun _ h => List.mem_cons_of_mem _ (List.mem_append_right _ h)) tyX2 tyX2_ok nmX2 0 rfl rfl 11 (by decide) (List.mem_of_getElem? (i := 17) rfl) rfl rfl (by decide +kernel) rfl rfl (Nat.le_of_ble_eq_true rfl) rfl dX2_init_66 ?_
  exact c_ret C ⟨fun i => [h0, q1, q2].getD i 0, rfl, rfl⟩ (Nat.le_of_ble_eq_true rfl) (Nat.le_of_ble_eq_true rfl) dX2_init_69
set_option maxHeartbeats 4000000 in
set_option maxRecDepth 100000 in
theorem mX4_init (l : Launch) (D : va_G) (K : Nat → ClassId) (h0 : Nat) (ν : Nat → Int32) (hν : fX4_clean (fun _ => 0) = some ν) : cM l yX4_init wsX4_init { frames := 3, cells := 7, slots := 4549, locals := 96 } D (gT K) [(h0, .inr (4, [.int 0, .null, .int 0, .int 0, .int 0, .int 0, .null, .null, .null, .null, .int 0, .null, .null]))] [.ref h0] (fun w1 => ∃ a, a 0 = h0 ∧ w1 = MW K a (stf zS 3 ν)) := by
  refine mk_c (nL := 1) (cc := cX4_init) (by decide) rfl rfl (Nat.le_of_ble_eq_true rfl) (fun g C => ?_)
  refine c_sub C (lv' := [(0, .ref h0)]) [0] rfl ?_
  refine c_aload_n C 0 dX4_init_0 rfl rfl ?_
  refine c_objInit C (List.mem_of_getElem? (i := 1) rfl) (List.mem_of_getElem? (i := 2) rfl) (List.mem_of_getElem? (i := 3) rfl) (Nat.le_of_ble_eq_true rfl) (Nat.le_of_ble_eq_true rfl) dX4_init_1 ?_
  refine c_aload_n C 0 dX4_init_4 rfl rfl ?_
  refine c_bipush C (v := 120) dX4_init_5 (by decide) ?_
  refine c_newa C (ty := .int) (N := 120) 0 (List.mem_of_getElem? (i := 4) rfl) rfl rfl rfl (by decide) (by decide) (Nat.le_of_ble_eq_true rfl) (Nat.le_of_ble_eq_true rfl) (Nat.le_of_ble_eq_true rfl) dX4_init_7 (fun q1 => ?_)
  refine c_putF C (ty := .array .int) (ws' := [(h0, .inr (4, [.int 0, .ref q1, .int 0, .int 0, .int 0, .int 0, .null, .null, .null, .null, .int 0, .null, .null])), (q1, .inl (K 0, 120, .inl (fun _ => 0)))]) (fun _ h => List.mem_cons_of_mem _ (List.mem_append_right _ h)) tyX4 tyX4_ok nmX4 0 rfl rfl 1 (by decide) (List.mem_of_getElem? (i := 5) rfl) rfl rfl rfl (by decide +kernel) rfl rfl (Nat.le_of_ble_eq_true rfl) rfl dX4_init_9 ?_
  refine c_aload_n C 0 dX4_init_12 rfl rfl ?_
  refine c_sipush C (v := 233) dX4_init_13 (by decide) ?_
  refine c_newa C (ty := .int) (N := 233) 0 (List.mem_of_getElem? (i := 4) rfl) rfl rfl rfl (by decide) (by decide) (Nat.le_of_ble_eq_true rfl) (Nat.le_of_ble_eq_true rfl) (Nat.le_of_ble_eq_true rfl) dX4_init_16 (fun q2 => ?_)
  refine c_putF C (ty := .array .int) (ws' := [(h0, .inr (4, [.int 0, .ref q1, .int 0, .int 0, .int 0, .int 0, .ref q2, .null, .null, .null, .int 0, .null, .null])), (q1, .inl (K 0, 120, .inl (fun _ => 0))), (q2, .inl (K 0, 233, .inl (fun _ => 0)))]) (fun _ h => List.mem_cons_of_mem _ (List.mem_append_right _ h)) tyX4 tyX4_ok nmX4 0 rfl rfl 6 (by decide) (List.mem_of_getElem? (i := 6) rfl) rfl rfl rfl (by decide +kernel) rfl rfl (Nat.le_of_ble_eq_true rfl) rfl dX4_init_18 ?_
  refine c_aload_n C 0 dX4_init_21 rfl rfl ?_
  refine c_sipush C (v := 233) dX4_init_22 (by decide) ?_
  refine c_newa C (ty := .int) (N := 233) 0 (List.mem_of_getElem? (i := 4) rfl) rfl rfl rfl (by decide) (by decide) (Nat.le_of_ble_eq_true rfl) (Nat.le_of_ble_eq_true rfl) (Nat.le_of_ble_eq_true rfl) dX4_init_25 (fun q3 => ?_)
  refine c_putF C (ty := .array .int) (ws' := [(h0, .inr (4, [.int 0, .ref q1, .int 0, .int 0, .int 0, .int 0, .ref q2, .ref q3, .null, .null, .int 0, .null, .null])), (q1, .inl (K 0, 120, .inl (fun _ => 0))), (q2, .inl (K 0, 233, .inl (fun _ => 0))), (q3, .inl (K 0, 233, .inl (fun _ => 0)))]) (fun _ h => List.mem_cons_of_mem _ (List.mem_append_right _ h)) tyX4 tyX4_ok nmX4 0 rfl rfl 7 (by decide) (List.mem_of_getElem? (i := 7) rfl) rfl rfl rfl (by decide +kernel) rfl rfl (Nat.le_of_ble_eq_true rfl) rfl dX4_init_27 ?_
  refine c_aload_n C 0 dX4_init_30 rfl rfl ?_
  refine c_sipush C (v := 233) dX4_init_31 (by decide) ?_
  refine c_newa C (ty := .int) (N := 233) 0 (List.mem_of_getElem? (i := 4) rfl) rfl rfl rfl (by decide) (by decide) (Nat.le_of_ble_eq_true rfl) (Nat.le_of_ble_eq_true rfl) (Nat.le_of_ble_eq_true rfl) dX4_init_34 (fun q4 => ?_)
  refine c_putF C (ty := .array .int) (ws' := [(h0, .inr (4, [.int 0, .ref q1, .int 0, .int 0, .int 0, .int 0, .ref q2, .ref q3, .ref q4, .null, .int 0, .null, .null])), (q1, .inl (K 0, 120, .inl (fun _ => 0))), (q2, .inl (K 0, 233, .inl (fun _ => 0))), (q3, .inl (K 0, 233, .inl (fun _ => 0))), (q4, .inl (K 0, 233, .inl (fun _ => 0)))]) (fun _ h => List.mem_cons_of_mem _ (List.mem_append_right _ h)) tyX4 tyX4_ok nmX4 0 rfl rfl 8 (by decide) (List.mem_of_getElem? (i := 8) rfl) rfl rfl rfl (by decide +kernel) rfl rfl (Nat.le_of_ble_eq_true rfl) rfl dX4_init_36 ?_
  refine c_aload_n C 0 dX4_init_39 rfl rfl ?_
  refine c_sipush C (v := 3262) dX4_init_40 (by decide) ?_
  refine c_newa C (ty := .int) (N := 3262) 0 (List.mem_of_getElem? (i := 4) rfl) rfl rfl rfl (by decide) (by decide) (Nat.le_of_ble_eq_true rfl) (Nat.le_of_ble_eq_true rfl) (Nat.le_of_ble_eq_true rfl) dX4_init_43 (fun q5 => ?_)
  refine c_putF C (ty := .array .int) (ws' := [(h0, .inr (4, [.int 0, .ref q1, .int 0, .int 0, .int 0, .int 0, .ref q2, .ref q3, .ref q4, .ref q5, .int 0, .null, .null])), (q1, .inl (K 0, 120, .inl (fun _ => 0))), (q2, .inl (K 0, 233, .inl (fun _ => 0))), (q3, .inl (K 0, 233, .inl (fun _ => 0))), (q4, .inl (K 0, 233, .inl (fun _ => 0))), (q5, .inl (K 0, 3262, .inl (fun _ => 0)))]) (fun _ h => List.mem_cons_of_mem _ (List.mem_append_right _ h)) tyX4 tyX4_ok nmX4 0 rfl rfl 9 (by decide) (List.mem_of_getElem? (i := 9) rfl) rfl rfl rfl (by decide +kernel) rfl rfl (Nat.le_of_ble_eq_true rfl) rfl dX4_init_45 ?_
  refine c_aload_n C 0 dX4_init_48 rfl rfl ?_
  refine c_sipush C (v := 466) dX4_init_49 (by decide) ?_
  refine c_newa C (ty := .int) (N := 466) 0 (List.mem_of_getElem? (i := 4) rfl) rfl rfl rfl (by decide) (by decide) (Nat.le_of_ble_eq_true rfl) (Nat.le_of_ble_eq_true rfl) (Nat.le_of_ble_eq_true rfl) dX4_init_52 (fun q6 => ?_)
  refine c_putF C (ty := .array .int) (ws' := [(h0, .inr (4, [.int 0, .ref q1, .int 0, .int 0, .int 0, .int 0, .ref q2, .ref q3, .ref q4, .ref q5, .int 0, .ref q6, .null])), (q1, .inl (K 0, 120, .inl (fun _ => 0))), (q2, .inl (K 0, 233, .inl (fun _ => 0))), (q3, .inl (K 0, 233, .inl (fun _ => 0))), (q4, .inl (K 0, 233, .inl (fun _ => 0))), (q5, .inl (K 0, 3262, .inl (fun _ => 0))), (q6, .inl (K 0, 466, .inl (fun _ => 0)))]) (fun _ h => List.mem_cons_of_mem _ (List.mem_append_right _ h)) tyX4 tyX4_ok nmX4 0 rfl rfl 11 (by decide) (List.mem_of_getElem? (i := 10) rfl) rfl rfl rfl (by decide +kernel) rfl rfl (Nat.le_of_ble_eq_true rfl) rfl dX4_init_54 ?_
  refine c_aload_n C 0 dX4_init_57 rfl rfl ?_
  refine c_iconst C (v := 2) dX4_init_58 ic_2 ?_
  refine c_newa C (ty := .boolean) (N := 2) 1 (List.mem_of_getElem? (i := 11) rfl) rfl rfl rfl (by decide) (by decide) (Nat.le_of_ble_eq_true rfl) (Nat.le_of_ble_eq_true rfl) (Nat.le_of_ble_eq_true rfl) dX4_init_59 (fun q7 => ?_)
  refine c_putF C (ty := .array .boolean) (ws' := [(h0, .inr (4, [.int 0, .ref q1, .int 0, .int 0, .int 0, .int 0, .ref q2, .ref q3, .ref q4, .ref q5, .int 0, .ref q6, .ref q7])), (q1, .inl (K 0, 120, .inl (fun _ => 0))), (q2, .inl (K 0, 233, .inl (fun _ => 0))), (q3, .inl (K 0, 233, .inl (fun _ => 0))), (q4, .inl (K 0, 233, .inl (fun _ => 0))), (q5, .inl (K 0, 3262, .inl (fun _ => 0))), (q6, .inl (K 0, 466, .inl (fun _ => 0))), (q7, .inl (K 1, 2, .inl (fun _ => 0)))]) (fun _ h => List.mem_cons_of_mem _ (List.mem_append_right _ h)) tyX4 tyX4_ok nmX4 0 rfl rfl 12 (by decide) (List.mem_of_getElem? (i := 12) rfl) rfl rfl rfl (by decide +kernel) rfl rfl (Nat.le_of_ble_eq_true rfl) rfl dX4_init_61 ?_
  refine c_aload_n C 0 dX4_init_64 rfl rfl ?_
  refine c_get C (fun _ h => List.mem_cons_of_mem _ (List.mem_append_right _ h)) 0 rfl rfl 7 (by decide) (List.mem_of_getElem? (i := 7) rfl) rfl rfl dX4_init_65 ?_
  refine c_places C (ws' := [(h0, .inr (4, [.int 0, .ref q1, .int 0, .int 0, .int 0, .int 0, .ref q2, .ref q3, .ref q4, .ref q5, .int 0, .ref q6, .ref q7])), (q1, .inl (K 0, 120, .inl (fun _ => 0))), (q2, .inl (K 0, 233, .inl (fun _ => 0))), (q4, .inl (K 0, 233, .inl (fun _ => 0))), (q5, .inl (K 0, 3262, .inl (fun _ => 0))), (q6, .inl (K 0, 466, .inl (fun _ => 0))), (q7, .inl (K 1, 2, .inl (fun _ => 0)))] ++ RW K q3 233 (fun _ => 0)) [0, 1, 2, 4, 5, 6, 7, 3] (by decide) rfl ?_
  refine c_callS C (Cn := RX4) (fs := []) (ci := 0) (T' := Nat → Int32) (wr := [(h0, .inr (4, [.int 0, .ref q1, .int 0, .int 0, .int 0, .int 0, .ref q2, .ref q3, .ref q4, .ref q5, .int 0, .ref q6, .ref q7])), (q1, .inl (K 0, 120, .inl (fun _ => 0))), (q2, .inl (K 0, 233, .inl (fun _ => 0))), (q4, .inl (K 0, 233, .inl (fun _ => 0))), (q5, .inl (K 0, 3262, .inl (fun _ => 0))), (q6, .inl (K 0, 466, .inl (fun _ => 0))), (q7, .inl (K 1, 2, .inl (fun _ => 0)))]) (Wc := RW K q3 233) (τ := fun _ => 0) (τ' := ν) (mX4_clean l D K q3 _ ν hν) rfl gX4_init_X4_clean rfl (by decide +kernel) ⟨Nat.le_of_ble_eq_true rfl, Nat.le_of_ble_eq_true rfl, rfl, rfl⟩ ⟨Nat.le_of_ble_eq_true rfl, Nat.le_of_ble_eq_true rfl⟩ (Nat.le_of_ble_eq_true rfl) dX4_init_68 ?_
  refine c_places C (ws' := MW K (fun i => [h0, q1, q2, q3, q4, q5, q6, q7].getD i 0) (stf zS 3 ν)) [0, 1, 2, 7, 3, 4, 5, 6] (by decide) rfl ?_
  exact c_ret C ⟨(fun i => [h0, q1, q2, q3, q4, q5, q6, q7].getD i 0), rfl, rfl⟩ (Nat.le_of_ble_eq_true rfl) (Nat.le_of_ble_eq_true rfl) dX4_init_71
set_option maxHeartbeats 4000000 in
set_option maxRecDepth 100000 in
theorem mX1_init (l : Launch) (D : va_G) (K : Nat → ClassId) (h0 : Nat) (σL : gS) (hL : fX1_clear (sL zS) = some σL) : cM l yX1_init wsX1_init { frames := 3, cells := 16, slots := 181, locals := 128 } D (gT K) [(h0, .inr (1, [.null, .null, .null, .null, .null, .null, .null, .null, .int 0, .int 0, .int 0, .int 0, .int 0, .int 0, .int 0]))] [.ref h0] (fun w1 => ∃ a, a 9 = h0 ∧ w1 = LW K a σL) := by
  refine mk_c (nL := 1) (cc := cX1_init) (by decide) rfl rfl (Nat.le_of_ble_eq_true rfl) (fun g C => ?_)
  refine c_sub C (lv' := [(0, .ref h0)]) [0] rfl ?_
  refine c_aload_n C 0 dX1_init_0 rfl rfl ?_
  refine c_objInit C (List.mem_of_getElem? (i := 1) rfl) (List.mem_of_getElem? (i := 2) rfl) (List.mem_of_getElem? (i := 3) rfl) (Nat.le_of_ble_eq_true rfl) (Nat.le_of_ble_eq_true rfl) dX1_init_1 ?_
  refine c_aload_n C 0 dX1_init_4 rfl rfl ?_
  refine c_new C (ci := 0) (fs := [.null, .null, .null, .null, .null, .null, .null, .null, .int 0]) (fun _ h => List.mem_cons_of_mem _ (List.mem_append_left _ (List.mem_append_right _ h))) tyX0 tyX0_ok (List.mem_of_getElem? (i := 4) rfl) (List.mem_of_getElem? (i := 5) rfl) (List.mem_of_getElem? (i := 6) rfl) rfl (fun j hj => by rcases (show j = 0 ∨ j = 1 ∨ j = 2 ∨ j = 3 ∨ j = 4 ∨ j = 5 ∨ j = 6 ∨ j = 7 ∨ j = 8 by omega) with rfl | rfl | rfl | rfl | rfl | rfl | rfl | rfl | rfl <;> rfl) (Nat.le_of_ble_eq_true rfl) (Nat.le_of_ble_eq_true rfl) dX1_init_5 (fun q => ?_)
  refine c_dup C dX1_init_8 rfl ?_
  refine c_initN C (host := RX3) (wr := [(h0, .inr (1, [.null, .null, .null, .null, .null, .null, .null, .null, .int 0, .int 0, .int 0, .int 0, .int 0, .int 0, .int 0]))]) (mX0_init l D K q) rfl gX1_init_X0_init_n11 rfl (List.mem_of_getElem? (i := 6) rfl) (List.mem_of_getElem? (i := 17) rfl) rfl (List.mem_of_getElem? (i := 11) rfl) (by decide +kernel) ⟨Nat.le_of_ble_eq_true rfl, Nat.le_of_ble_eq_true rfl⟩ (Nat.le_of_ble_eq_true rfl) (Nat.le_of_ble_eq_true rfl) (Nat.le_of_ble_eq_true rfl) dX1_init_9 (fun w1 hw1 => ?_)
  obtain ⟨a9, rfl, rfl⟩ := hw1
  refine c_putF C (ty := .object "ShoutGates$Gates") (ws' := [(h0, .inr (1, [.ref (a9 0), .null, .null, .null, .null, .null, .null, .null, .int 0, .int 0, .int 0, .int 0, .int 0, .int 0, .int 0]))] ++ GW K a9 zS) (fun _ h => List.mem_cons_of_mem _ (List.mem_append_right _ h)) tyX1 tyX1_ok nmX1 0 rfl rfl 0 (by decide) (List.mem_of_getElem? (i := 7) rfl) rfl rfl rfl (by decide +kernel) rfl rfl (Nat.le_of_ble_eq_true rfl) rfl dX1_init_12 ?_
  refine c_aload_n C 0 dX1_init_15 rfl rfl ?_
  refine c_bipush C (v := 6) dX1_init_16 (by decide) ?_
  refine c_newa C (ty := .int) (N := 6) 0 (List.mem_of_getElem? (i := 8) rfl) rfl rfl rfl (by decide) (by decide) (Nat.le_of_ble_eq_true rfl) (Nat.le_of_ble_eq_true rfl) (Nat.le_of_ble_eq_true rfl) dX1_init_18 (fun q1 => ?_)
  refine c_putF C (ty := .array .int) (ws' := [(h0, .inr (1, [.ref (a9 0), .ref q1, .null, .null, .null, .null, .null, .null, .int 0, .int 0, .int 0, .int 0, .int 0, .int 0, .int 0]))] ++ GW K a9 zS ++ [(q1, .inl (K 0, 6, .inl (fun _ => 0)))]) (fun _ h => List.mem_cons_of_mem _ (List.mem_append_right _ h)) tyX1 tyX1_ok nmX1 0 rfl rfl 1 (by decide) (List.mem_of_getElem? (i := 9) rfl) rfl rfl rfl (by decide +kernel) rfl rfl (Nat.le_of_ble_eq_true rfl) rfl dX1_init_20 ?_
  refine c_aload_n C 0 dX1_init_23 rfl rfl ?_
  refine c_bipush C (v := 6) dX1_init_24 (by decide) ?_
  refine c_newa C (ty := .int) (N := 6) 0 (List.mem_of_getElem? (i := 8) rfl) rfl rfl rfl (by decide) (by decide) (Nat.le_of_ble_eq_true rfl) (Nat.le_of_ble_eq_true rfl) (Nat.le_of_ble_eq_true rfl) dX1_init_26 (fun q2 => ?_)
  refine c_putF C (ty := .array .int) (ws' := [(h0, .inr (1, [.ref (a9 0), .ref q1, .ref q2, .null, .null, .null, .null, .null, .int 0, .int 0, .int 0, .int 0, .int 0, .int 0, .int 0]))] ++ GW K a9 zS ++ [(q1, .inl (K 0, 6, .inl (fun _ => 0)))] ++ [(q2, .inl (K 0, 6, .inl (fun _ => 0)))]) (fun _ h => List.mem_cons_of_mem _ (List.mem_append_right _ h)) tyX1 tyX1_ok nmX1 0 rfl rfl 2 (by decide) (List.mem_of_getElem? (i := 10) rfl) rfl rfl rfl (by decide +kernel) rfl rfl (Nat.le_of_ble_eq_true rfl) rfl dX1_init_28 ?_
  refine c_aload_n C 0 dX1_init_31 rfl rfl ?_
  refine c_bipush C (v := 6) dX1_init_32 (by decide) ?_
  refine c_newa C (ty := .int) (N := 6) 0 (List.mem_of_getElem? (i := 8) rfl) rfl rfl rfl (by decide) (by decide) (Nat.le_of_ble_eq_true rfl) (Nat.le_of_ble_eq_true rfl) (Nat.le_of_ble_eq_true rfl) dX1_init_34 (fun q3 => ?_)
  refine c_putF C (ty := .array .int) (ws' := [(h0, .inr (1, [.ref (a9 0), .ref q1, .ref q2, .ref q3, .null, .null, .null, .null, .int 0, .int 0, .int 0, .int 0, .int 0, .int 0, .int 0]))] ++ GW K a9 zS ++ [(q1, .inl (K 0, 6, .inl (fun _ => 0)))] ++ [(q2, .inl (K 0, 6, .inl (fun _ => 0)))] ++ [(q3, .inl (K 0, 6, .inl (fun _ => 0)))]) (fun _ h => List.mem_cons_of_mem _ (List.mem_append_right _ h)) tyX1 tyX1_ok nmX1 0 rfl rfl 3 (by decide) (List.mem_of_getElem? (i := 11) rfl) rfl rfl rfl (by decide +kernel) rfl rfl (Nat.le_of_ble_eq_true rfl) rfl dX1_init_36 ?_
  refine c_aload_n C 0 dX1_init_39 rfl rfl ?_
  refine c_bipush C (v := 6) dX1_init_40 (by decide) ?_
  refine c_newa C (ty := .int) (N := 6) 0 (List.mem_of_getElem? (i := 8) rfl) rfl rfl rfl (by decide) (by decide) (Nat.le_of_ble_eq_true rfl) (Nat.le_of_ble_eq_true rfl) (Nat.le_of_ble_eq_true rfl) dX1_init_42 (fun q4 => ?_)
  refine c_putF C (ty := .array .int) (ws' := [(h0, .inr (1, [.ref (a9 0), .ref q1, .ref q2, .ref q3, .ref q4, .null, .null, .null, .int 0, .int 0, .int 0, .int 0, .int 0, .int 0, .int 0]))] ++ GW K a9 zS ++ [(q1, .inl (K 0, 6, .inl (fun _ => 0)))] ++ [(q2, .inl (K 0, 6, .inl (fun _ => 0)))] ++ [(q3, .inl (K 0, 6, .inl (fun _ => 0)))] ++ [(q4, .inl (K 0, 6, .inl (fun _ => 0)))]) (fun _ h => List.mem_cons_of_mem _ (List.mem_append_right _ h)) tyX1 tyX1_ok nmX1 0 rfl rfl 4 (by decide) (List.mem_of_getElem? (i := 12) rfl) rfl rfl rfl (by decide +kernel) rfl rfl (Nat.le_of_ble_eq_true rfl) rfl dX1_init_44 ?_
  refine c_aload_n C 0 dX1_init_47 rfl rfl ?_
  refine c_bipush C (v := 6) dX1_init_48 (by decide) ?_
  refine c_newa C (ty := .boolean) (N := 6) 1 (List.mem_of_getElem? (i := 13) rfl) rfl rfl rfl (by decide) (by decide) (Nat.le_of_ble_eq_true rfl) (Nat.le_of_ble_eq_true rfl) (Nat.le_of_ble_eq_true rfl) dX1_init_50 (fun q5 => ?_)
  refine c_putF C (ty := .array .boolean) (ws' := [(h0, .inr (1, [.ref (a9 0), .ref q1, .ref q2, .ref q3, .ref q4, .ref q5, .null, .null, .int 0, .int 0, .int 0, .int 0, .int 0, .int 0, .int 0]))] ++ GW K a9 zS ++ [(q1, .inl (K 0, 6, .inl (fun _ => 0)))] ++ [(q2, .inl (K 0, 6, .inl (fun _ => 0)))] ++ [(q3, .inl (K 0, 6, .inl (fun _ => 0)))] ++ [(q4, .inl (K 0, 6, .inl (fun _ => 0)))] ++ [(q5, .inl (K 1, 6, .inl (fun _ => 0)))]) (fun _ h => List.mem_cons_of_mem _ (List.mem_append_right _ h)) tyX1 tyX1_ok nmX1 0 rfl rfl 5 (by decide) (List.mem_of_getElem? (i := 14) rfl) rfl rfl rfl (by decide +kernel) rfl rfl (Nat.le_of_ble_eq_true rfl) rfl dX1_init_52 ?_
  refine c_aload_n C 0 dX1_init_55 rfl rfl ?_
  refine c_bipush C (v := 20) dX1_init_56 (by decide) ?_
  refine c_newa C (ty := .int) (N := 20) 0 (List.mem_of_getElem? (i := 8) rfl) rfl rfl rfl (by decide) (by decide) (Nat.le_of_ble_eq_true rfl) (Nat.le_of_ble_eq_true rfl) (Nat.le_of_ble_eq_true rfl) dX1_init_58 (fun q6 => ?_)
  refine c_putF C (ty := .array .int) (ws' := [(h0, .inr (1, [.ref (a9 0), .ref q1, .ref q2, .ref q3, .ref q4, .ref q5, .ref q6, .null, .int 0, .int 0, .int 0, .int 0, .int 0, .int 0, .int 0]))] ++ GW K a9 zS ++ [(q1, .inl (K 0, 6, .inl (fun _ => 0)))] ++ [(q2, .inl (K 0, 6, .inl (fun _ => 0)))] ++ [(q3, .inl (K 0, 6, .inl (fun _ => 0)))] ++ [(q4, .inl (K 0, 6, .inl (fun _ => 0)))] ++ [(q5, .inl (K 1, 6, .inl (fun _ => 0)))] ++ [(q6, .inl (K 0, 20, .inl (fun _ => 0)))]) (fun _ h => List.mem_cons_of_mem _ (List.mem_append_right _ h)) tyX1 tyX1_ok nmX1 0 rfl rfl 6 (by decide) (List.mem_of_getElem? (i := 15) rfl) rfl rfl rfl (by decide +kernel) rfl rfl (Nat.le_of_ble_eq_true rfl) rfl dX1_init_60 ?_
  refine c_aload_n C 0 dX1_init_63 rfl rfl ?_
  refine c_bipush C (v := 20) dX1_init_64 (by decide) ?_
  refine c_newa C (ty := .int) (N := 20) 0 (List.mem_of_getElem? (i := 8) rfl) rfl rfl rfl (by decide) (by decide) (Nat.le_of_ble_eq_true rfl) (Nat.le_of_ble_eq_true rfl) (Nat.le_of_ble_eq_true rfl) dX1_init_66 (fun q7 => ?_)
  refine c_putF C (ty := .array .int) (ws' := [(h0, .inr (1, [.ref (a9 0), .ref q1, .ref q2, .ref q3, .ref q4, .ref q5, .ref q6, .ref q7, .int 0, .int 0, .int 0, .int 0, .int 0, .int 0, .int 0]))] ++ GW K a9 zS ++ [(q1, .inl (K 0, 6, .inl (fun _ => 0)))] ++ [(q2, .inl (K 0, 6, .inl (fun _ => 0)))] ++ [(q3, .inl (K 0, 6, .inl (fun _ => 0)))] ++ [(q4, .inl (K 0, 6, .inl (fun _ => 0)))] ++ [(q5, .inl (K 1, 6, .inl (fun _ => 0)))] ++ [(q6, .inl (K 0, 20, .inl (fun _ => 0)))] ++ [(q7, .inl (K 0, 20, .inl (fun _ => 0)))]) (fun _ h => List.mem_cons_of_mem _ (List.mem_append_right _ h)) tyX1 tyX1_ok nmX1 0 rfl rfl 7 (by decide) (List.mem_of_getElem? (i := 16) rfl) rfl rfl rfl (by decide +kernel) rfl rfl (Nat.le_of_ble_eq_true rfl) rfl dX1_init_68 ?_
  refine c_aload_n C 0 dX1_init_71 rfl rfl ?_
  refine c_places C (ws' := LW K (aL a9 h0 q1 q2 q3 q4 q5 q6 q7) (sL zS)) [1, 2, 3, 4, 5, 6, 7, 8, 9, 0, 10, 11, 12, 13, 14, 15, 16] (by decide) rfl ?_
  refine c_callV C (T' := gS) (wr := []) (Wc := LW K (aL a9 h0 q1 q2 q3 q4 q5 q6 q7)) (τ := sL zS) (τ' := σL) (mX1_clear l D K _ _ σL hL) rfl gX1_init_X1_clear rfl (by decide +kernel) ⟨Nat.le_of_ble_eq_true rfl, Nat.le_of_ble_eq_true rfl, rfl, rfl⟩ 9 (LWg_9 K _ _) rfl ⟨Nat.le_of_ble_eq_true rfl, Nat.le_of_ble_eq_true rfl⟩ (Nat.le_of_ble_eq_true rfl) dX1_init_72 ?_
  exact c_ret C ⟨aL a9 h0 q1 q2 q3 q4 q5 q6 q7, rfl, rfl⟩ (Nat.le_of_ble_eq_true rfl) (Nat.le_of_ble_eq_true rfl) dX1_init_75
