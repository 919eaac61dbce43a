theorem cdL_one {a n : Nat} (h : 1 ≤ cdL a a n) : n = a := by
  unfold cdL at h
  by_cases q : n = a
  · exact q
  · rw [if_neg q, if_neg q] at h; omega
theorem cdL_two {a b n : Nat} (h : 1 ≤ cdL a b n) : n = a ∨ n = b := by
  unfold cdL at h
  by_cases q : n = a
  · exact Or.inl q
  · rw [if_neg q] at h
    by_cases w : n = b
    · exact Or.inr w
    · rw [if_neg w] at h; omega
set_option maxHeartbeats 4000000 in
set_option maxRecDepth 100000 in
theorem mL_append (l : Launch) (hfl : l.stackTraces = false) (D : va_G) (K : Nat → ClassId) (b t x y : Nat → Nat) (α : Nat → Nat → Nat) (o : Nat) (σ : ST × (Nat → Int64)) (p1 : Int32) (r : (Nat × ST) ⊕ (Int32 × ST)) (hf : fX3_append σ.1 p1 = some r) (hcd : ∀ q, r = .inl q → 1 ≤ cdA q.1) : wM l yL_append wsL_append 7 103 D K b t x y α o [.ref (b 0), .int p1, .ref o] σ cdA r := by
  have hM := mX3_append l D K b t x y α σ.1 p1 r hfl hf
  intro sz
  refine va_MetW (cc := cL_append) (maxL := 4) (ret := (some .int)) (hh := [(0, 9, 12, 13), (0, 9, 15, 15)]) (by decide) rfl ?_
  intro p e s m args below meth c s₁ B hml hv
  obtain ⟨rfl, hsz, hP, hK, hD, hX, hN⟩ := hv
  have hx := B.exec
  have hb := B.bytes
  have hr := B.returns
  have hts := atoms_spec (ws := wsL_append) B.pre
  have hown : s.vm.findClass RL = some m.cls := findClass_of_methodNamed B.named
  have hlocks := B.notSynchronized
  have htab := vx_table (x := yL_append) B (hts _ List.mem_cons_self)
  subst hsz
  have hD := hD.self (sz := s.heap.size)
  have hl := lv_entry [.ref (b 0), .int p1, .ref o] (n := 4) (Nat.le_of_ble_eq_true rfl)
  rw [lg_entry_eq]
  generalize (lg_sl ([.ref (b 0), .int p1, .ref o]) ++ List.replicate (4 - (lg_sl ([.ref (b 0), .int p1, .ref o])).length) Slot.unset).toArray = ls at hl ⊢
  have hl : lv_has ls 4 [(0, .ref (b 0)), (1, .int p1), (2, .ref o)] := hl
  refine lv_aload_n hx hb dL_append_0 rfl (lv_at hl 2 rfl) ?_
  refine lv_iconst (v := 0) hx hb dL_append_1 rfl ?_
  refine lv_aload_n hx hb dL_append_2 rfl (lv_at hl 0 rfl) ?_
  refine lv_iload_n hx hb dL_append_3 rfl (lv_at hl 1 rfl) ?_
  refine wr_call (As := [.int p1]) (n := 1) (tgt := 18) hx hb hml hr hown hts hlocks hK hP hD hX hM gL_append_X3_append rfl (by decide) ⟨Nat.le_of_ble_eq_true rfl, Nat.le_of_ble_eq_true rfl⟩ rfl hl.1 dL_append_4 dL_append_7 dL_append_8 dL_append_9 (by decide) dL_append_18 dL_append_19 (fun q hq H1 locs1 q9 ce hce hcv hcl hP2 hD2 hS2 => ?_)
  have hc1 := hcd q hq
  obtain ⟨qn, qs⟩ := q
  rcases cdL_two hc1 with e | e
  · subst e
    refine vx_catch (own := RL) (name := exN 1) (E := exN 1) hown [] _ (tableOf [(0, 9, 15, 15)]) (by rw [htab]; rfl) (fun z hz => absurd hz List.not_mem_nil) rfl (by decide) (hts (.classLink RL 13 "java/lang/IllegalArgumentException") (List.mem_of_getElem? (i := 1) rfl)) (va_Nw.use (exWs_t _ (List.mem_of_getElem? (i := 3) rfl)) (hX.1 _ (List.mem_of_getElem? (i := 3) rfl))) hce hcv hcl ?_
    refine lv_astore_n (lv' := [(3, .ref q9), (0, .ref (b 0)), (1, .int p1), (2, .ref o)]) hx hb dL_append_12 rfl hl (by decide) rfl (fun ls hl => ?_)
    exact wr_hand (q := (1, qs)) (k := 1) hx hb hr hlocks hK hq rfl hP2 hD2 hS2 (by decide) dL_append_13 dL_append_14
  · subst e
    refine vx_catch (own := RL) (name := exN 2) (E := exN 2) hown (tableOf [(0, 9, 12, 13)]) _ [] (by rw [htab]; rfl) (fun z hz => Or.inr ?_) rfl (by decide) (hts (.classLink RL 15 "java/lang/IllegalStateException") (List.mem_of_getElem? (i := 2) rfl)) (va_Nw.use (exWs_t _ (List.mem_of_getElem? (i := 4) rfl)) (hX.1 _ (List.mem_of_getElem? (i := 4) rfl))) hce hcv hcl ?_
    · have ez := List.mem_singleton.mp hz
      subst ez
      exact ⟨by decide, exN 1, hts (.classLink RL 13 "java/lang/IllegalArgumentException") (List.mem_of_getElem? (i := 1) rfl), hN.1⟩
    · refine lv_astore_n (lv' := [(3, .ref q9), (0, .ref (b 0)), (1, .int p1), (2, .ref o)]) hx hb dL_append_15 rfl hl (by decide) rfl (fun ls hl => ?_)
      exact wr_hand (q := (2, qs)) (k := 2) hx hb hr hlocks hK hq rfl hP2 hD2 hS2 (by decide) dL_append_16 dL_append_17
set_option maxHeartbeats 4000000 in
set_option maxRecDepth 100000 in
theorem mL_runScript (l : Launch) (hfl : l.stackTraces = false) (D : va_G) (K : Nat → ClassId) (b t x y : Nat → Nat) (α : Nat → Nat → Nat) (o : Nat) (σ : ST × (Nat → Int64)) (p1 : Int32) (p2 : Int64) (r : (Nat × ST) ⊕ (Int32 × ST)) (hf : fX3_runScript σ.1 p1 p2 = some r) (hcd : ∀ q, r = .inl q → 1 ≤ cdI q.1) : wM l yL_runScript wsL_runScript 8 188 D K b t x y α o [.ref (b 0), .int p1, .long p2, .ref o] σ cdI r := by
  have hM := mX3_runScript l D K b t x y α σ.1 p1 p2 r hfl hf
  intro sz
  refine va_MetW (cc := cL_runScript) (maxL := 6) (ret := (some .int)) (hh := [(0, 11, 14, 13)]) (by decide) rfl ?_
  intro p e s m args below meth c s₁ B hml hv
  obtain ⟨rfl, hsz, hP, hK, hD, hX, hN⟩ := hv
  have hx := B.exec
  have hb := B.bytes
  have hr := B.returns
  have hts := atoms_spec (ws := wsL_runScript) B.pre
  have hown : s.vm.findClass RL = some m.cls := findClass_of_methodNamed B.named
  have hlocks := B.notSynchronized
  have htab := vx_table (x := yL_runScript) B (hts _ List.mem_cons_self)
  subst hsz
  have hD := hD.self (sz := s.heap.size)
  have hl := lv_entry [.ref (b 0), .int p1, .long p2, .ref o] (n := 6) (Nat.le_of_ble_eq_true rfl)
  rw [lg_entry_eq]
  generalize (lg_sl ([.ref (b 0), .int p1, .long p2, .ref o]) ++ List.replicate (6 - (lg_sl ([.ref (b 0), .int p1, .long p2, .ref o])).length) Slot.unset).toArray = ls at hl ⊢
  have hl : lv_has ls 6 [(0, .ref (b 0)), (1, .int p1), (2, .long p2), (4, .ref o)] := hl
  refine lv_aload hx hb dL_runScript_0 (lv_at hl 3 rfl) ?_
  refine lv_iconst (v := 0) hx hb dL_runScript_2 rfl ?_
  refine lv_aload_n hx hb dL_runScript_3 rfl (lv_at hl 0 rfl) ?_
  refine lv_iload_n hx hb dL_runScript_4 rfl (lv_at hl 1 rfl) ?_
  refine lv_lload_n hx hb dL_runScript_5 rfl (lv_at hl 2 rfl) ?_
  refine wr_call (As := [.int p1, .long p2]) (n := 2) (tgt := 18) hx hb hml hr hown hts hlocks hK hP hD hX hM gL_runScript_X3_runScript rfl (by decide) ⟨Nat.le_of_ble_eq_true rfl, Nat.le_of_ble_eq_true rfl⟩ rfl hl.1 dL_runScript_6 dL_runScript_9 dL_runScript_10 dL_runScript_11 (by decide) dL_runScript_18 dL_runScript_19 (fun q hq H1 locs1 q9 ce hce hcv hcl hP2 hD2 hS2 => ?_)
  have hc1 := hcd q hq
  obtain ⟨qn, qs⟩ := q
  have e : qn = 1 := cdL_one hc1
  subst e
  refine vx_catch (own := RL) (name := exN 1) (E := exN 1) hown [] _ [] (by rw [htab]; rfl) (fun z hz => absurd hz List.not_mem_nil) rfl (by decide) (hts (.classLink RL 13 "java/lang/IllegalArgumentException") (List.mem_of_getElem? (i := 1) rfl)) (va_Nw.use (exWs_t _ (List.mem_of_getElem? (i := 3) rfl)) (hX.1 _ (List.mem_of_getElem? (i := 3) rfl))) hce hcv hcl ?_
  refine lv_astore (lv' := [(5, .ref q9), (0, .ref (b 0)), (1, .int p1), (2, .long p2), (4, .ref o)]) hx hb dL_runScript_14 hl (by decide) rfl (fun ls hl => ?_)
  exact wr_hand (q := (1, qs)) (k := 1) hx hb hr hlocks hK hq rfl hP2 hD2 hS2 (by decide) dL_runScript_16 dL_runScript_17
