theorem cdL_one {a n : Nat} (h : 1 ≤ cdL a a n) : n = a := by
  unfold cdL at h
  by_cases q : n = a
  · exact q
  · rw [if_neg q, if_neg q] at h; omega
theorem cdL_two {a b n : Nat} (h : 1 ≤ cdL a b n) : n = a ∨ n = b := by
  unfold cdL at h
  by_cases q : n = a
  · exact Or.inl q
  · rw [if_neg q] at h
    by_cases w : n = b
    · exact Or.inr w
    · rw [if_neg w] at h; omega
set_option maxHeartbeats 1000000 in
set_option maxRecDepth 100000 in
theorem mL_append (l : Launch) (hfl : l.stackTraces = false) (D : va_G) (K : Nat → ClassId) (b t x y : Nat → Nat) (α : Nat → Nat → Nat) (o : Nat) (σ : ST × (Nat → Int64)) (p1 : Int32) (r : (Nat × ST) ⊕ (Int32 × ST)) (hf : fX3_append σ.1 p1 = some r) (hcd : ∀ q, r = .inl q → 1 ≤ cdA q.1) : wM l yL_append wsL_append 7 103 D K b t x y α o [.ref (b 0), .int p1, .ref o] σ cdA r := by
  have hM := mX3_append l D K b t x y α σ.1 p1 r hfl hf
  intro sz
  refine va_MetW (cc := cL_append) (maxL := 4) (ret := (some .int)) (hh := [(0, 9, 12, 13), (0, 9, 15, 15)]) (by decide) rfl ?_
  intro p e s m args below meth c s₁ B hml hv
  obtain ⟨rfl, hsz, hP, hK, hD, hX, hN⟩ := hv
  have hx := B.exec
  have hb := B.bytes
  have hr := B.returns
  have hts := atoms_spec (ws := wsL_append) B.pre
  have hown : s.vm.findClass RL = some m.cls := findClass_of_methodNamed B.named
  have hlocks := B.notSynchronized
  have htab := vx_table (x := yL_append) B (hts _ List.mem_cons_self)
  subst hsz
  have hD := hD.self (sz := s.heap.size)
  have hl := lv_entry [.ref (b 0), .int p1, .ref o] (n := 4) (Nat.le_of_ble_eq_true rfl)
  rw [lg_entry_eq]
  generalize (lg_sl ([.ref (b 0), .int p1, .ref o]) ++ List.replicate (4 - (lg_sl ([.ref (b 0), .int p1, .ref o])).length) Slot.unset).toArray = ls at hl ⊢
  have hl : lv_has ls 4 [(0, .ref (b 0)), (1, .int p1), (2, .ref o)] := hl
  refine lv_aload_n hx hb dL_append_0 rfl (lv_at hl 2 rfl) ?_
  refine lv_iconst (v := 0) hx hb dL_append_1 rfl ?_
  refine lv_aload_n hx hb dL_append_2 rfl (lv_at hl 0 rfl) ?_
  refine lv_iload_n hx hb dL_append_3 rfl (lv_at hl 1 rfl) ?_
  refine wr_call (As := [.int p1]) (n := 1) (tgt := 18) hx hb hml hr hown hts hlocks hK hP hD hX hM gL_append_X3_append rfl (by decide) ⟨Nat.le_of_ble_eq_true rfl, Nat.le_of_ble_eq_true rfl⟩ rfl hl.1 dL_append_4 dL_append_7 dL_append_8 dL_append_9 (by decide) dL_append_18 dL_append_19 (fun q hq H1 locs1 q9 ce hce hcv hcl hP2 hD2 hS2 => ?_)
  have hc1 := hcd q hq
  obtain ⟨qn, qs⟩ := q
  rcases cdL_two hc1 with e | e
  · subst e
    refine vx_catch (own := RL) (name := "java/lang/IllegalArgumentException") (E := exN 1) hown [] ⟨0, 9, 12, 13⟩ [⟨0, 9, 15, 15⟩] (htab.trans rfl) (fun z hz => absurd hz List.not_mem_nil) (by decide) (by decide) (hts (.classLink RL 13 "java/lang/IllegalArgumentException") (List.mem_of_getElem? (i := 1) rfl)) (va_Nw.use (exWs_t _ (List.mem_of_getElem? (i := 3) rfl)) (hX.1 _ (List.mem_of_getElem? (i := 3) rfl))) hce hcv hcl ?_
    refine lv_astore_n (lv' := [(3, .ref q9), (0, .ref (b 0)), (1, .int p1), (2, .ref o)]) hx hb dL_append_12 rfl hl (by decide) rfl (fun ls hl => ?_)
    exact wr_hand (q := (1, qs)) (k := 1) hx hb hr hlocks hK hq rfl hP2 hD2 hS2 (by decide) dL_append_13 dL_append_14
  · subst e
    refine vx_catch (own := RL) (name := "java/lang/IllegalStateException") (E := exN 2) hown [⟨0, 9, 12, 13⟩] ⟨0, 9, 15, 15⟩ [] (htab.trans rfl) (fun z hz => Or.inr ?_) (by decide) (by decide) (hts (.classLink RL 15 "java/lang/IllegalStateException") (List.mem_of_getElem? (i := 2) rfl)) (va_Nw.use (exWs_t _ (List.mem_of_getElem? (i := 4) rfl)) (hX.1 _ (List.mem_of_getElem? (i := 4) rfl))) hce hcv hcl ?_
    · have ez := List.mem_singleton.mp hz
      subst ez
      exact ⟨by decide, exN 1, hts (.classLink RL 13 "java/lang/IllegalArgumentException") (List.mem_of_getElem? (i := 1) rfl), hN.1⟩
    · refine lv_astore_n (lv' := [(3, .ref q9), (0, .ref (b 0)), (1, .int p1), (2, .ref o)]) hx hb dL_append_15 rfl hl (by decide) rfl (fun ls hl => ?_)
      exact wr_hand (q := (2, qs)) (k := 2) hx hb hr hlocks hK hq rfl hP2 hD2 hS2 (by decide) dL_append_16 dL_append_17
set_option maxHeartbeats 1000000 in
set_option maxRecDepth 100000 in
theorem mL_load (l : Launch) (hfl : l.stackTraces = false) (D : va_G) (K : Nat → ClassId) (b t x y : Nat → Nat) (α : Nat → Nat → Nat) (o : Nat) (σ : ST × (Nat → Int64))  (r : (Nat × ST) ⊕ (Int32 × ST)) (hf : fX3_load σ.1  = some r) (hcd : ∀ q, r = .inl q → 1 ≤ cd1 q.1) : wM l yL_load wsL_load 8 178 D K b t x y α o [.ref (b 0), .ref o] σ cd1 r := by
  have hM := mX3_load l D K b t x y α σ.1 r hfl hf
  intro sz
  refine va_MetW (cc := cL_load) (maxL := 3) (ret := (some .int)) (hh := [(0, 8, 11, 15)]) (by decide) rfl ?_
  intro p e s m args below meth c s₁ B hml hv
  obtain ⟨rfl, hsz, hP, hK, hD, hX, hN⟩ := hv
  have hx := B.exec
  have hb := B.bytes
  have hr := B.returns
  have hts := atoms_spec (ws := wsL_load) B.pre
  have hown : s.vm.findClass RL = some m.cls := findClass_of_methodNamed B.named
  have hlocks := B.notSynchronized
  have htab := vx_table (x := yL_load) B (hts _ List.mem_cons_self)
  subst hsz
  have hD := hD.self (sz := s.heap.size)
  have hl := lv_entry [.ref (b 0), .ref o] (n := 3) (Nat.le_of_ble_eq_true rfl)
  rw [lg_entry_eq]
  generalize (lg_sl ([.ref (b 0), .ref o]) ++ List.replicate (3 - (lg_sl ([.ref (b 0), .ref o])).length) Slot.unset).toArray = ls at hl ⊢
  have hl : lv_has ls 3 [(0, .ref (b 0)), (1, .ref o)] := hl
  refine lv_aload_n hx hb dL_load_0 rfl (lv_at hl 1 rfl) ?_
  refine lv_iconst (v := 0) hx hb dL_load_1 rfl ?_
  refine lv_aload_n hx hb dL_load_2 rfl (lv_at hl 0 rfl) ?_
  refine wr_call (As := []) (n := 0) (tgt := 14) hx hb hml hr hown hts hlocks hK hP hD hX hM gL_load_X3_load rfl (by decide) ⟨Nat.le_of_ble_eq_true rfl, Nat.le_of_ble_eq_true rfl⟩ rfl hl.1 dL_load_3 dL_load_6 dL_load_7 dL_load_8 (by decide) dL_load_14 dL_load_15 (fun q hq H1 locs1 q9 ce hce hcv hcl hP2 hD2 hS2 => ?_)
  have hc1 := hcd q hq
  obtain ⟨qn, qs⟩ := q
  have e : qn = 2 := cdL_one hc1
  subst e
  refine vx_catch (own := RL) (name := "java/lang/IllegalStateException") (E := exN 2) hown [] ⟨0, 8, 11, 15⟩ [] (htab.trans rfl) (fun z hz => absurd hz List.not_mem_nil) (by decide) (by decide) (hts (.classLink RL 15 "java/lang/IllegalStateException") (List.mem_of_getElem? (i := 1) rfl)) (va_Nw.use (exWs_t _ (List.mem_of_getElem? (i := 4) rfl)) (hX.1 _ (List.mem_of_getElem? (i := 4) rfl))) hce hcv hcl ?_
  refine lv_astore_n (lv' := [(2, .ref q9), (0, .ref (b 0)), (1, .ref o)]) hx hb dL_load_11 rfl hl (by decide) rfl (fun ls hl => ?_)
  exact wr_hand (q := (2, qs)) (k := 1) hx hb hr hlocks hK hq rfl hP2 hD2 hS2 (by decide) dL_load_12 dL_load_13
set_option maxHeartbeats 1000000 in
set_option maxRecDepth 100000 in
theorem mL_about (l : Launch) (hfl : l.stackTraces = false) (D : va_G) (K : Nat → ClassId) (b t x y : Nat → Nat) (α : Nat → Nat → Nat) (o : Nat) (σ : ST × (Nat → Int64)) (p1 : Int32) (r : (Nat × ST) ⊕ (Int32 × ST)) (hf : fX3_about σ.1 p1 = some r) (hcd : ∀ q, r = .inl q → 1 ≤ cdI q.1) : wM l yL_about wsL_about 7 103 D K b t x y α o [.ref (b 0), .int p1, .ref o] σ cdI r := by
  have hM := mX3_about l D K b t x y α σ.1 p1 r hfl hf
  intro sz
  refine va_MetW (cc := cL_about) (maxL := 4) (ret := (some .int)) (hh := [(0, 9, 12, 13)]) (by decide) rfl ?_
  intro p e s m args below meth c s₁ B hml hv
  obtain ⟨rfl, hsz, hP, hK, hD, hX, hN⟩ := hv
  have hx := B.exec
  have hb := B.bytes
  have hr := B.returns
  have hts := atoms_spec (ws := wsL_about) B.pre
  have hown : s.vm.findClass RL = some m.cls := findClass_of_methodNamed B.named
  have hlocks := B.notSynchronized
  have htab := vx_table (x := yL_about) B (hts _ List.mem_cons_self)
  subst hsz
  have hD := hD.self (sz := s.heap.size)
  have hl := lv_entry [.ref (b 0), .int p1, .ref o] (n := 4) (Nat.le_of_ble_eq_true rfl)
  rw [lg_entry_eq]
  generalize (lg_sl ([.ref (b 0), .int p1, .ref o]) ++ List.replicate (4 - (lg_sl ([.ref (b 0), .int p1, .ref o])).length) Slot.unset).toArray = ls at hl ⊢
  have hl : lv_has ls 4 [(0, .ref (b 0)), (1, .int p1), (2, .ref o)] := hl
  refine lv_aload_n hx hb dL_about_0 rfl (lv_at hl 2 rfl) ?_
  refine lv_iconst (v := 0) hx hb dL_about_1 rfl ?_
  refine lv_aload_n hx hb dL_about_2 rfl (lv_at hl 0 rfl) ?_
  refine lv_iload_n hx hb dL_about_3 rfl (lv_at hl 1 rfl) ?_
  refine wr_call (As := [.int p1]) (n := 1) (tgt := 15) hx hb hml hr hown hts hlocks hK hP hD hX hM gL_about_X3_about rfl (by decide) ⟨Nat.le_of_ble_eq_true rfl, Nat.le_of_ble_eq_true rfl⟩ rfl hl.1 dL_about_4 dL_about_7 dL_about_8 dL_about_9 (by decide) dL_about_15 dL_about_16 (fun q hq H1 locs1 q9 ce hce hcv hcl hP2 hD2 hS2 => ?_)
  have hc1 := hcd q hq
  obtain ⟨qn, qs⟩ := q
  have e : qn = 1 := cdL_one hc1
  subst e
  refine vx_catch (own := RL) (name := "java/lang/IllegalArgumentException") (E := exN 1) hown [] ⟨0, 9, 12, 13⟩ [] (htab.trans rfl) (fun z hz => absurd hz List.not_mem_nil) (by decide) (by decide) (hts (.classLink RL 13 "java/lang/IllegalArgumentException") (List.mem_of_getElem? (i := 1) rfl)) (va_Nw.use (exWs_t _ (List.mem_of_getElem? (i := 3) rfl)) (hX.1 _ (List.mem_of_getElem? (i := 3) rfl))) hce hcv hcl ?_
  refine lv_astore_n (lv' := [(3, .ref q9), (0, .ref (b 0)), (1, .int p1), (2, .ref o)]) hx hb dL_about_12 rfl hl (by decide) rfl (fun ls hl => ?_)
  exact wr_hand (q := (1, qs)) (k := 1) hx hb hr hlocks hK hq rfl hP2 hD2 hS2 (by decide) dL_about_13 dL_about_14
set_option maxHeartbeats 1000000 in
set_option maxRecDepth 100000 in
theorem mL_book (l : Launch) (hfl : l.stackTraces = false) (D : va_G) (K : Nat → ClassId) (b t x y : Nat → Nat) (α : Nat → Nat → Nat) (o : Nat) (σ : ST × (Nat → Int64)) (p1 : Int32) (p2 : Int32) (r : (Nat × ST) ⊕ (Int32 × ST)) (hf : fX3_book σ.1 p1 p2 = some r) (hcd : ∀ q, r = .inl q → 1 ≤ cdY q.1) : wM l yL_book wsL_book 8 124 D K b t x y α o [.ref (b 0), .int p1, .int p2, .ref o] σ cdY r := by
  have hM := mX3_book l D K b t x y α σ.1 p1 p2 r hfl hf
  intro sz
  refine va_MetW (cc := cL_book) (maxL := 5) (ret := (some .int)) (hh := [(0, 10, 13, 28), (0, 10, 17, 13)]) (by decide) rfl ?_
  intro p e s m args below meth c s₁ B hml hv
  obtain ⟨rfl, hsz, hP, hK, hD, hX, hN⟩ := hv
  have hx := B.exec
  have hb := B.bytes
  have hr := B.returns
  have hts := atoms_spec (ws := wsL_book) B.pre
  have hown : s.vm.findClass RL = some m.cls := findClass_of_methodNamed B.named
  have hlocks := B.notSynchronized
  have htab := vx_table (x := yL_book) B (hts _ List.mem_cons_self)
  subst hsz
  have hD := hD.self (sz := s.heap.size)
  have hl := lv_entry [.ref (b 0), .int p1, .int p2, .ref o] (n := 5) (Nat.le_of_ble_eq_true rfl)
  rw [lg_entry_eq]
  generalize (lg_sl ([.ref (b 0), .int p1, .int p2, .ref o]) ++ List.replicate (5 - (lg_sl ([.ref (b 0), .int p1, .int p2, .ref o])).length) Slot.unset).toArray = ls at hl ⊢
  have hl : lv_has ls 5 [(0, .ref (b 0)), (1, .int p1), (2, .int p2), (3, .ref o)] := hl
  refine lv_aload_n hx hb dL_book_0 rfl (lv_at hl 3 rfl) ?_
  refine lv_iconst (v := 0) hx hb dL_book_1 rfl ?_
  refine lv_aload_n hx hb dL_book_2 rfl (lv_at hl 0 rfl) ?_
  refine lv_iload_n hx hb dL_book_3 rfl (lv_at hl 1 rfl) ?_
  refine lv_iload_n hx hb dL_book_4 rfl (lv_at hl 2 rfl) ?_
  refine wr_call (As := [.int p1, .int p2]) (n := 2) (tgt := 21) hx hb hml hr hown hts hlocks hK hP hD hX hM gL_book_X3_book rfl (by decide) ⟨Nat.le_of_ble_eq_true rfl, Nat.le_of_ble_eq_true rfl⟩ rfl hl.1 dL_book_5 dL_book_8 dL_book_9 dL_book_10 (by decide) dL_book_21 dL_book_22 (fun q hq H1 locs1 q9 ce hce hcv hcl hP2 hD2 hS2 => ?_)
  have hc1 := hcd q hq
  obtain ⟨qn, qs⟩ := q
  rcases cdL_two hc1 with e | e
  · subst e
    refine vx_catch (own := RL) (name := "java/lang/IndexOutOfBoundsException") (E := exN 3) hown [] ⟨0, 10, 13, 28⟩ [⟨0, 10, 17, 13⟩] (htab.trans rfl) (fun z hz => absurd hz List.not_mem_nil) (by decide) (by decide) (hts (.classLink RL 28 "java/lang/IndexOutOfBoundsException") (List.mem_of_getElem? (i := 1) rfl)) (va_Nw.use (exWs_t _ (List.mem_of_getElem? (i := 5) rfl)) (hX.1 _ (List.mem_of_getElem? (i := 5) rfl))) hce hcv hcl ?_
    refine lv_astore (lv' := [(4, .ref q9), (0, .ref (b 0)), (1, .int p1), (2, .int p2), (3, .ref o)]) hx hb dL_book_13 hl (by decide) rfl (fun ls hl => ?_)
    exact wr_hand (q := (3, qs)) (k := 1) hx hb hr hlocks hK hq rfl hP2 hD2 hS2 (by decide) dL_book_15 dL_book_16
  · subst e
    refine vx_catch (own := RL) (name := "java/lang/IllegalArgumentException") (E := exN 1) hown [⟨0, 10, 13, 28⟩] ⟨0, 10, 17, 13⟩ [] (htab.trans rfl) (fun z hz => Or.inr ?_) (by decide) (by decide) (hts (.classLink RL 13 "java/lang/IllegalArgumentException") (List.mem_of_getElem? (i := 2) rfl)) (va_Nw.use (exWs_t _ (List.mem_of_getElem? (i := 3) rfl)) (hX.1 _ (List.mem_of_getElem? (i := 3) rfl))) hce hcv hcl ?_
    · have ez := List.mem_singleton.mp hz
      subst ez
      exact ⟨by decide, exN 3, hts (.classLink RL 28 "java/lang/IndexOutOfBoundsException") (List.mem_of_getElem? (i := 1) rfl), hN.2.2⟩
    · refine lv_astore (lv' := [(4, .ref q9), (0, .ref (b 0)), (1, .int p1), (2, .int p2), (3, .ref o)]) hx hb dL_book_17 hl (by decide) rfl (fun ls hl => ?_)
      exact wr_hand (q := (1, qs)) (k := 2) hx hb hr hlocks hK hq rfl hP2 hD2 hS2 (by decide) dL_book_19 dL_book_20
set_option maxHeartbeats 1000000 in
set_option maxRecDepth 100000 in
theorem mL_visitor (l : Launch) (hfl : l.stackTraces = false) (D : va_G) (K : Nat → ClassId) (b t x y : Nat → Nat) (α : Nat → Nat → Nat) (o : Nat) (σ : ST × (Nat → Int64)) (p1 : Int32) (p2 : Int32) (r : (Nat × ST) ⊕ (Int32 × ST)) (hf : fX3_visitor σ.1 p1 p2 = some r) (hcd : ∀ q, r = .inl q → 1 ≤ cdY q.1) : wM l yL_visitor wsL_visitor 8 125 D K b t x y α o [.ref (b 0), .int p1, .int p2, .ref o] σ cdY r := by
  have hM := mX3_visitor l D K b t x y α σ.1 p1 p2 r hfl hf
  intro sz
  refine va_MetW (cc := cL_visitor) (maxL := 5) (ret := (some .int)) (hh := [(0, 10, 13, 28), (0, 10, 17, 13)]) (by decide) rfl ?_
  intro p e s m args below meth c s₁ B hml hv
  obtain ⟨rfl, hsz, hP, hK, hD, hX, hN⟩ := hv
  have hx := B.exec
  have hb := B.bytes
  have hr := B.returns
  have hts := atoms_spec (ws := wsL_visitor) B.pre
  have hown : s.vm.findClass RL = some m.cls := findClass_of_methodNamed B.named
  have hlocks := B.notSynchronized
  have htab := vx_table (x := yL_visitor) B (hts _ List.mem_cons_self)
  subst hsz
  have hD := hD.self (sz := s.heap.size)
  have hl := lv_entry [.ref (b 0), .int p1, .int p2, .ref o] (n := 5) (Nat.le_of_ble_eq_true rfl)
  rw [lg_entry_eq]
  generalize (lg_sl ([.ref (b 0), .int p1, .int p2, .ref o]) ++ List.replicate (5 - (lg_sl ([.ref (b 0), .int p1, .int p2, .ref o])).length) Slot.unset).toArray = ls at hl ⊢
  have hl : lv_has ls 5 [(0, .ref (b 0)), (1, .int p1), (2, .int p2), (3, .ref o)] := hl
  refine lv_aload_n hx hb dL_visitor_0 rfl (lv_at hl 3 rfl) ?_
  refine lv_iconst (v := 0) hx hb dL_visitor_1 rfl ?_
  refine lv_aload_n hx hb dL_visitor_2 rfl (lv_at hl 0 rfl) ?_
  refine lv_iload_n hx hb dL_visitor_3 rfl (lv_at hl 1 rfl) ?_
  refine lv_iload_n hx hb dL_visitor_4 rfl (lv_at hl 2 rfl) ?_
  refine wr_call (As := [.int p1, .int p2]) (n := 2) (tgt := 21) hx hb hml hr hown hts hlocks hK hP hD hX hM gL_visitor_X3_visitor rfl (by decide) ⟨Nat.le_of_ble_eq_true rfl, Nat.le_of_ble_eq_true rfl⟩ rfl hl.1 dL_visitor_5 dL_visitor_8 dL_visitor_9 dL_visitor_10 (by decide) dL_visitor_21 dL_visitor_22 (fun q hq H1 locs1 q9 ce hce hcv hcl hP2 hD2 hS2 => ?_)
  have hc1 := hcd q hq
  obtain ⟨qn, qs⟩ := q
  rcases cdL_two hc1 with e | e
  · subst e
    refine vx_catch (own := RL) (name := "java/lang/IndexOutOfBoundsException") (E := exN 3) hown [] ⟨0, 10, 13, 28⟩ [⟨0, 10, 17, 13⟩] (htab.trans rfl) (fun z hz => absurd hz List.not_mem_nil) (by decide) (by decide) (hts (.classLink RL 28 "java/lang/IndexOutOfBoundsException") (List.mem_of_getElem? (i := 1) rfl)) (va_Nw.use (exWs_t _ (List.mem_of_getElem? (i := 5) rfl)) (hX.1 _ (List.mem_of_getElem? (i := 5) rfl))) hce hcv hcl ?_
    refine lv_astore (lv' := [(4, .ref q9), (0, .ref (b 0)), (1, .int p1), (2, .int p2), (3, .ref o)]) hx hb dL_visitor_13 hl (by decide) rfl (fun ls hl => ?_)
    exact wr_hand (q := (3, qs)) (k := 1) hx hb hr hlocks hK hq rfl hP2 hD2 hS2 (by decide) dL_visitor_15 dL_visitor_16
  · subst e
    refine vx_catch (own := RL) (name := "java/lang/IllegalArgumentException") (E := exN 1) hown [⟨0, 10, 13, 28⟩] ⟨0, 10, 17, 13⟩ [] (htab.trans rfl) (fun z hz => Or.inr ?_) (by decide) (by decide) (hts (.classLink RL 13 "java/lang/IllegalArgumentException") (List.mem_of_getElem? (i := 2) rfl)) (va_Nw.use (exWs_t _ (List.mem_of_getElem? (i := 3) rfl)) (hX.1 _ (List.mem_of_getElem? (i := 3) rfl))) hce hcv hcl ?_
    · have ez := List.mem_singleton.mp hz
      subst ez
      exact ⟨by decide, exN 3, hts (.classLink RL 28 "java/lang/IndexOutOfBoundsException") (List.mem_of_getElem? (i := 1) rfl), hN.2.2⟩
    · refine lv_astore (lv' := [(4, .ref q9), (0, .ref (b 0)), (1, .int p1), (2, .int p2), (3, .ref o)]) hx hb dL_visitor_17 hl (by decide) rfl (fun ls hl => ?_)
      exact wr_hand (q := (1, qs)) (k := 2) hx hb hr hlocks hK hq rfl hP2 hD2 hS2 (by decide) dL_visitor_19 dL_visitor_20
set_option maxHeartbeats 1000000 in
set_option maxRecDepth 100000 in
theorem mL_gate (l : Launch) (hfl : l.stackTraces = false) (D : va_G) (K : Nat → ClassId) (b t x y : Nat → Nat) (α : Nat → Nat → Nat) (o : Nat) (σ : ST × (Nat → Int64)) (p1 : Int32) (p2 : Int32) (r : (Nat × ST) ⊕ (Int32 × ST)) (hf : fX3_gate σ.1 p1 p2 = some r) (hcd : ∀ q, r = .inl q → 1 ≤ cdY q.1) : wM l yL_gate wsL_gate 8 124 D K b t x y α o [.ref (b 0), .int p1, .int p2, .ref o] σ cdY r := by
  have hM := mX3_gate l D K b t x y α σ.1 p1 p2 r hfl hf
  intro sz
  refine va_MetW (cc := cL_gate) (maxL := 5) (ret := (some .int)) (hh := [(0, 10, 13, 28), (0, 10, 17, 13)]) (by decide) rfl ?_
  intro p e s m args below meth c s₁ B hml hv
  obtain ⟨rfl, hsz, hP, hK, hD, hX, hN⟩ := hv
  have hx := B.exec
  have hb := B.bytes
  have hr := B.returns
  have hts := atoms_spec (ws := wsL_gate) B.pre
  have hown : s.vm.findClass RL = some m.cls := findClass_of_methodNamed B.named
  have hlocks := B.notSynchronized
  have htab := vx_table (x := yL_gate) B (hts _ List.mem_cons_self)
  subst hsz
  have hD := hD.self (sz := s.heap.size)
  have hl := lv_entry [.ref (b 0), .int p1, .int p2, .ref o] (n := 5) (Nat.le_of_ble_eq_true rfl)
  rw [lg_entry_eq]
  generalize (lg_sl ([.ref (b 0), .int p1, .int p2, .ref o]) ++ List.replicate (5 - (lg_sl ([.ref (b 0), .int p1, .int p2, .ref o])).length) Slot.unset).toArray = ls at hl ⊢
  have hl : lv_has ls 5 [(0, .ref (b 0)), (1, .int p1), (2, .int p2), (3, .ref o)] := hl
  refine lv_aload_n hx hb dL_gate_0 rfl (lv_at hl 3 rfl) ?_
  refine lv_iconst (v := 0) hx hb dL_gate_1 rfl ?_
  refine lv_aload_n hx hb dL_gate_2 rfl (lv_at hl 0 rfl) ?_
  refine lv_iload_n hx hb dL_gate_3 rfl (lv_at hl 1 rfl) ?_
  refine lv_iload_n hx hb dL_gate_4 rfl (lv_at hl 2 rfl) ?_
  refine wr_call (As := [.int p1, .int p2]) (n := 2) (tgt := 21) hx hb hml hr hown hts hlocks hK hP hD hX hM gL_gate_X3_gate rfl (by decide) ⟨Nat.le_of_ble_eq_true rfl, Nat.le_of_ble_eq_true rfl⟩ rfl hl.1 dL_gate_5 dL_gate_8 dL_gate_9 dL_gate_10 (by decide) dL_gate_21 dL_gate_22 (fun q hq H1 locs1 q9 ce hce hcv hcl hP2 hD2 hS2 => ?_)
  have hc1 := hcd q hq
  obtain ⟨qn, qs⟩ := q
  rcases cdL_two hc1 with e | e
  · subst e
    refine vx_catch (own := RL) (name := "java/lang/IndexOutOfBoundsException") (E := exN 3) hown [] ⟨0, 10, 13, 28⟩ [⟨0, 10, 17, 13⟩] (htab.trans rfl) (fun z hz => absurd hz List.not_mem_nil) (by decide) (by decide) (hts (.classLink RL 28 "java/lang/IndexOutOfBoundsException") (List.mem_of_getElem? (i := 1) rfl)) (va_Nw.use (exWs_t _ (List.mem_of_getElem? (i := 5) rfl)) (hX.1 _ (List.mem_of_getElem? (i := 5) rfl))) hce hcv hcl ?_
    refine lv_astore (lv' := [(4, .ref q9), (0, .ref (b 0)), (1, .int p1), (2, .int p2), (3, .ref o)]) hx hb dL_gate_13 hl (by decide) rfl (fun ls hl => ?_)
    exact wr_hand (q := (3, qs)) (k := 1) hx hb hr hlocks hK hq rfl hP2 hD2 hS2 (by decide) dL_gate_15 dL_gate_16
  · subst e
    refine vx_catch (own := RL) (name := "java/lang/IllegalArgumentException") (E := exN 1) hown [⟨0, 10, 13, 28⟩] ⟨0, 10, 17, 13⟩ [] (htab.trans rfl) (fun z hz => Or.inr ?_) (by decide) (by decide) (hts (.classLink RL 13 "java/lang/IllegalArgumentException") (List.mem_of_getElem? (i := 2) rfl)) (va_Nw.use (exWs_t _ (List.mem_of_getElem? (i := 3) rfl)) (hX.1 _ (List.mem_of_getElem? (i := 3) rfl))) hce hcv hcl ?_
    · have ez := List.mem_singleton.mp hz
      subst ez
      exact ⟨by decide, exN 3, hts (.classLink RL 28 "java/lang/IndexOutOfBoundsException") (List.mem_of_getElem? (i := 1) rfl), hN.2.2⟩
    · refine lv_astore (lv' := [(4, .ref q9), (0, .ref (b 0)), (1, .int p1), (2, .int p2), (3, .ref o)]) hx hb dL_gate_17 hl (by decide) rfl (fun ls hl => ?_)
      exact wr_hand (q := (1, qs)) (k := 2) hx hb hr hlocks hK hq rfl hP2 hD2 hS2 (by decide) dL_gate_19 dL_gate_20
set_option maxHeartbeats 1000000 in
set_option maxRecDepth 100000 in
theorem mL_shout (l : Launch) (hfl : l.stackTraces = false) (D : va_G) (K : Nat → ClassId) (b t x y : Nat → Nat) (α : Nat → Nat → Nat) (o : Nat) (σ : ST × (Nat → Int64)) (p1 : Int32) (p2 : Int32) (r : (Nat × ST) ⊕ (Int32 × ST)) (hf : fX3_shout σ.1 p1 p2 = some r) (hcd : ∀ q, r = .inl q → 1 ≤ cdI q.1) : wM l yL_shout wsL_shout 7 104 D K b t x y α o [.ref (b 0), .int p1, .int p2, .ref o] σ cdI r := by
  have hM := mX3_shout l D K b t x y α σ.1 p1 p2 r hfl hf
  intro sz
  refine va_MetW (cc := cL_shout) (maxL := 5) (ret := (some .int)) (hh := [(0, 10, 13, 13)]) (by decide) rfl ?_
  intro p e s m args below meth c s₁ B hml hv
  obtain ⟨rfl, hsz, hP, hK, hD, hX, hN⟩ := hv
  have hx := B.exec
  have hb := B.bytes
  have hr := B.returns
  have hts := atoms_spec (ws := wsL_shout) B.pre
  have hown : s.vm.findClass RL = some m.cls := findClass_of_methodNamed B.named
  have hlocks := B.notSynchronized
  have htab := vx_table (x := yL_shout) B (hts _ List.mem_cons_self)
  subst hsz
  have hD := hD.self (sz := s.heap.size)
  have hl := lv_entry [.ref (b 0), .int p1, .int p2, .ref o] (n := 5) (Nat.le_of_ble_eq_true rfl)
  rw [lg_entry_eq]
  generalize (lg_sl ([.ref (b 0), .int p1, .int p2, .ref o]) ++ List.replicate (5 - (lg_sl ([.ref (b 0), .int p1, .int p2, .ref o])).length) Slot.unset).toArray = ls at hl ⊢
  have hl : lv_has ls 5 [(0, .ref (b 0)), (1, .int p1), (2, .int p2), (3, .ref o)] := hl
  refine lv_aload_n hx hb dL_shout_0 rfl (lv_at hl 3 rfl) ?_
  refine lv_iconst (v := 0) hx hb dL_shout_1 rfl ?_
  refine lv_aload_n hx hb dL_shout_2 rfl (lv_at hl 0 rfl) ?_
  refine lv_iload_n hx hb dL_shout_3 rfl (lv_at hl 1 rfl) ?_
  refine lv_iload_n hx hb dL_shout_4 rfl (lv_at hl 2 rfl) ?_
  refine wr_call (As := [.int p1, .int p2]) (n := 2) (tgt := 17) hx hb hml hr hown hts hlocks hK hP hD hX hM gL_shout_X3_shout rfl (by decide) ⟨Nat.le_of_ble_eq_true rfl, Nat.le_of_ble_eq_true rfl⟩ rfl hl.1 dL_shout_5 dL_shout_8 dL_shout_9 dL_shout_10 (by decide) dL_shout_17 dL_shout_18 (fun q hq H1 locs1 q9 ce hce hcv hcl hP2 hD2 hS2 => ?_)
  have hc1 := hcd q hq
  obtain ⟨qn, qs⟩ := q
  have e : qn = 1 := cdL_one hc1
  subst e
  refine vx_catch (own := RL) (name := "java/lang/IllegalArgumentException") (E := exN 1) hown [] ⟨0, 10, 13, 13⟩ [] (htab.trans rfl) (fun z hz => absurd hz List.not_mem_nil) (by decide) (by decide) (hts (.classLink RL 13 "java/lang/IllegalArgumentException") (List.mem_of_getElem? (i := 1) rfl)) (va_Nw.use (exWs_t _ (List.mem_of_getElem? (i := 3) rfl)) (hX.1 _ (List.mem_of_getElem? (i := 3) rfl))) hce hcv hcl ?_
  refine lv_astore (lv' := [(4, .ref q9), (0, .ref (b 0)), (1, .int p1), (2, .int p2), (3, .ref o)]) hx hb dL_shout_13 hl (by decide) rfl (fun ls hl => ?_)
  exact wr_hand (q := (1, qs)) (k := 1) hx hb hr hlocks hK hq rfl hP2 hD2 hS2 (by decide) dL_shout_15 dL_shout_16
set_option maxHeartbeats 1000000 in
set_option maxRecDepth 100000 in
theorem mL_take (l : Launch) (hfl : l.stackTraces = false) (D : va_G) (K : Nat → ClassId) (b t x y : Nat → Nat) (α : Nat → Nat → Nat) (o : Nat) (σ : ST × (Nat → Int64)) (p1 : Int32) (p2 : Int32) (r : (Nat × ST) ⊕ (Int32 × ST)) (hf : fX3_take σ.1 p1 p2 = some r) (hcd : ∀ q, r = .inl q → 1 ≤ cdX q.1) : wM l yL_take wsL_take 8 170 D K b t x y α o [.ref (b 0), .int p1, .int p2, .ref o] σ cdX r := by
  have hM := mX3_take l D K b t x y α σ.1 p1 p2 r hfl hf
  intro sz
  refine va_MetW (cc := cL_take) (maxL := 5) (ret := (some .int)) (hh := [(0, 10, 13, 28), (0, 10, 17, 15)]) (by decide) rfl ?_
  intro p e s m args below meth c s₁ B hml hv
  obtain ⟨rfl, hsz, hP, hK, hD, hX, hN⟩ := hv
  have hx := B.exec
  have hb := B.bytes
  have hr := B.returns
  have hts := atoms_spec (ws := wsL_take) B.pre
  have hown : s.vm.findClass RL = some m.cls := findClass_of_methodNamed B.named
  have hlocks := B.notSynchronized
  have htab := vx_table (x := yL_take) B (hts _ List.mem_cons_self)
  subst hsz
  have hD := hD.self (sz := s.heap.size)
  have hl := lv_entry [.ref (b 0), .int p1, .int p2, .ref o] (n := 5) (Nat.le_of_ble_eq_true rfl)
  rw [lg_entry_eq]
  generalize (lg_sl ([.ref (b 0), .int p1, .int p2, .ref o]) ++ List.replicate (5 - (lg_sl ([.ref (b 0), .int p1, .int p2, .ref o])).length) Slot.unset).toArray = ls at hl ⊢
  have hl : lv_has ls 5 [(0, .ref (b 0)), (1, .int p1), (2, .int p2), (3, .ref o)] := hl
  refine lv_aload_n hx hb dL_take_0 rfl (lv_at hl 3 rfl) ?_
  refine lv_iconst (v := 0) hx hb dL_take_1 rfl ?_
  refine lv_aload_n hx hb dL_take_2 rfl (lv_at hl 0 rfl) ?_
  refine lv_iload_n hx hb dL_take_3 rfl (lv_at hl 1 rfl) ?_
  refine lv_iload_n hx hb dL_take_4 rfl (lv_at hl 2 rfl) ?_
  refine wr_call (As := [.int p1, .int p2]) (n := 2) (tgt := 21) hx hb hml hr hown hts hlocks hK hP hD hX hM gL_take_X3_take rfl (by decide) ⟨Nat.le_of_ble_eq_true rfl, Nat.le_of_ble_eq_true rfl⟩ rfl hl.1 dL_take_5 dL_take_8 dL_take_9 dL_take_10 (by decide) dL_take_21 dL_take_22 (fun q hq H1 locs1 q9 ce hce hcv hcl hP2 hD2 hS2 => ?_)
  have hc1 := hcd q hq
  obtain ⟨qn, qs⟩ := q
  rcases cdL_two hc1 with e | e
  · subst e
    refine vx_catch (own := RL) (name := "java/lang/IndexOutOfBoundsException") (E := exN 3) hown [] ⟨0, 10, 13, 28⟩ [⟨0, 10, 17, 15⟩] (htab.trans rfl) (fun z hz => absurd hz List.not_mem_nil) (by decide) (by decide) (hts (.classLink RL 28 "java/lang/IndexOutOfBoundsException") (List.mem_of_getElem? (i := 1) rfl)) (va_Nw.use (exWs_t _ (List.mem_of_getElem? (i := 5) rfl)) (hX.1 _ (List.mem_of_getElem? (i := 5) rfl))) hce hcv hcl ?_
    refine lv_astore (lv' := [(4, .ref q9), (0, .ref (b 0)), (1, .int p1), (2, .int p2), (3, .ref o)]) hx hb dL_take_13 hl (by decide) rfl (fun ls hl => ?_)
    exact wr_hand (q := (3, qs)) (k := 1) hx hb hr hlocks hK hq rfl hP2 hD2 hS2 (by decide) dL_take_15 dL_take_16
  · subst e
    refine vx_catch (own := RL) (name := "java/lang/IllegalStateException") (E := exN 2) hown [⟨0, 10, 13, 28⟩] ⟨0, 10, 17, 15⟩ [] (htab.trans rfl) (fun z hz => Or.inr ?_) (by decide) (by decide) (hts (.classLink RL 15 "java/lang/IllegalStateException") (List.mem_of_getElem? (i := 2) rfl)) (va_Nw.use (exWs_t _ (List.mem_of_getElem? (i := 4) rfl)) (hX.1 _ (List.mem_of_getElem? (i := 4) rfl))) hce hcv hcl ?_
    · have ez := List.mem_singleton.mp hz
      subst ez
      exact ⟨by decide, exN 3, hts (.classLink RL 28 "java/lang/IndexOutOfBoundsException") (List.mem_of_getElem? (i := 1) rfl), hN.2.1⟩
    · refine lv_astore (lv' := [(4, .ref q9), (0, .ref (b 0)), (1, .int p1), (2, .int p2), (3, .ref o)]) hx hb dL_take_17 hl (by decide) rfl (fun ls hl => ?_)
      exact wr_hand (q := (2, qs)) (k := 2) hx hb hr hlocks hK hq rfl hP2 hD2 hS2 (by decide) dL_take_19 dL_take_20
set_option maxHeartbeats 1000000 in
set_option maxRecDepth 100000 in
theorem mL_putBack (l : Launch) (hfl : l.stackTraces = false) (D : va_G) (K : Nat → ClassId) (b t x y : Nat → Nat) (α : Nat → Nat → Nat) (o : Nat) (σ : ST × (Nat → Int64)) (p1 : Int32) (r : (Nat × ST) ⊕ (Int32 × ST)) (hf : fX3_putBack σ.1 p1 = some r) (hcd : ∀ q, r = .inl q → 1 ≤ cdX q.1) : wM l yL_putBack wsL_putBack 8 170 D K b t x y α o [.ref (b 0), .int p1, .ref o] σ cdX r := by
  have hM := mX3_putBack l D K b t x y α σ.1 p1 r hfl hf
  intro sz
  refine va_MetW (cc := cL_putBack) (maxL := 4) (ret := (some .int)) (hh := [(0, 9, 12, 28), (0, 9, 15, 15)]) (by decide) rfl ?_
  intro p e s m args below meth c s₁ B hml hv
  obtain ⟨rfl, hsz, hP, hK, hD, hX, hN⟩ := hv
  have hx := B.exec
  have hb := B.bytes
  have hr := B.returns
  have hts := atoms_spec (ws := wsL_putBack) B.pre
  have hown : s.vm.findClass RL = some m.cls := findClass_of_methodNamed B.named
  have hlocks := B.notSynchronized
  have htab := vx_table (x := yL_putBack) B (hts _ List.mem_cons_self)
  subst hsz
  have hD := hD.self (sz := s.heap.size)
  have hl := lv_entry [.ref (b 0), .int p1, .ref o] (n := 4) (Nat.le_of_ble_eq_true rfl)
  rw [lg_entry_eq]
  generalize (lg_sl ([.ref (b 0), .int p1, .ref o]) ++ List.replicate (4 - (lg_sl ([.ref (b 0), .int p1, .ref o])).length) Slot.unset).toArray = ls at hl ⊢
  have hl : lv_has ls 4 [(0, .ref (b 0)), (1, .int p1), (2, .ref o)] := hl
  refine lv_aload_n hx hb dL_putBack_0 rfl (lv_at hl 2 rfl) ?_
  refine lv_iconst (v := 0) hx hb dL_putBack_1 rfl ?_
  refine lv_aload_n hx hb dL_putBack_2 rfl (lv_at hl 0 rfl) ?_
  refine lv_iload_n hx hb dL_putBack_3 rfl (lv_at hl 1 rfl) ?_
  refine wr_call (As := [.int p1]) (n := 1) (tgt := 18) hx hb hml hr hown hts hlocks hK hP hD hX hM gL_putBack_X3_putBack rfl (by decide) ⟨Nat.le_of_ble_eq_true rfl, Nat.le_of_ble_eq_true rfl⟩ rfl hl.1 dL_putBack_4 dL_putBack_7 dL_putBack_8 dL_putBack_9 (by decide) dL_putBack_18 dL_putBack_19 (fun q hq H1 locs1 q9 ce hce hcv hcl hP2 hD2 hS2 => ?_)
  have hc1 := hcd q hq
  obtain ⟨qn, qs⟩ := q
  rcases cdL_two hc1 with e | e
  · subst e
    refine vx_catch (own := RL) (name := "java/lang/IndexOutOfBoundsException") (E := exN 3) hown [] ⟨0, 9, 12, 28⟩ [⟨0, 9, 15, 15⟩] (htab.trans rfl) (fun z hz => absurd hz List.not_mem_nil) (by decide) (by decide) (hts (.classLink RL 28 "java/lang/IndexOutOfBoundsException") (List.mem_of_getElem? (i := 1) rfl)) (va_Nw.use (exWs_t _ (List.mem_of_getElem? (i := 5) rfl)) (hX.1 _ (List.mem_of_getElem? (i := 5) rfl))) hce hcv hcl ?_
    refine lv_astore_n (lv' := [(3, .ref q9), (0, .ref (b 0)), (1, .int p1), (2, .ref o)]) hx hb dL_putBack_12 rfl hl (by decide) rfl (fun ls hl => ?_)
    exact wr_hand (q := (3, qs)) (k := 1) hx hb hr hlocks hK hq rfl hP2 hD2 hS2 (by decide) dL_putBack_13 dL_putBack_14
  · subst e
    refine vx_catch (own := RL) (name := "java/lang/IllegalStateException") (E := exN 2) hown [⟨0, 9, 12, 28⟩] ⟨0, 9, 15, 15⟩ [] (htab.trans rfl) (fun z hz => Or.inr ?_) (by decide) (by decide) (hts (.classLink RL 15 "java/lang/IllegalStateException") (List.mem_of_getElem? (i := 2) rfl)) (va_Nw.use (exWs_t _ (List.mem_of_getElem? (i := 4) rfl)) (hX.1 _ (List.mem_of_getElem? (i := 4) rfl))) hce hcv hcl ?_
    · have ez := List.mem_singleton.mp hz
      subst ez
      exact ⟨by decide, exN 3, hts (.classLink RL 28 "java/lang/IndexOutOfBoundsException") (List.mem_of_getElem? (i := 1) rfl), hN.2.1⟩
    · refine lv_astore_n (lv' := [(3, .ref q9), (0, .ref (b 0)), (1, .int p1), (2, .ref o)]) hx hb dL_putBack_15 rfl hl (by decide) rfl (fun ls hl => ?_)
      exact wr_hand (q := (2, qs)) (k := 2) hx hb hr hlocks hK hq rfl hP2 hD2 hS2 (by decide) dL_putBack_16 dL_putBack_17
set_option maxHeartbeats 1000000 in
set_option maxRecDepth 100000 in
theorem mL_borrow (l : Launch) (hfl : l.stackTraces = false) (D : va_G) (K : Nat → ClassId) (b t x y : Nat → Nat) (α : Nat → Nat → Nat) (o : Nat) (σ : ST × (Nat → Int64)) (p1 : Int32) (r : (Nat × ST) ⊕ (Int32 × ST)) (hf : fX3_borrow σ.1 p1 = some r) (hcd : ∀ q, r = .inl q → 1 ≤ cdX q.1) : wM l yL_borrow wsL_borrow 8 169 D K b t x y α o [.ref (b 0), .int p1, .ref o] σ cdX r := by
  have hM := mX3_borrow l D K b t x y α σ.1 p1 r hfl hf
  intro sz
  refine va_MetW (cc := cL_borrow) (maxL := 4) (ret := (some .int)) (hh := [(0, 9, 12, 28), (0, 9, 15, 15)]) (by decide) rfl ?_
  intro p e s m args below meth c s₁ B hml hv
  obtain ⟨rfl, hsz, hP, hK, hD, hX, hN⟩ := hv
  have hx := B.exec
  have hb := B.bytes
  have hr := B.returns
  have hts := atoms_spec (ws := wsL_borrow) B.pre
  have hown : s.vm.findClass RL = some m.cls := findClass_of_methodNamed B.named
  have hlocks := B.notSynchronized
  have htab := vx_table (x := yL_borrow) B (hts _ List.mem_cons_self)
  subst hsz
  have hD := hD.self (sz := s.heap.size)
  have hl := lv_entry [.ref (b 0), .int p1, .ref o] (n := 4) (Nat.le_of_ble_eq_true rfl)
  rw [lg_entry_eq]
  generalize (lg_sl ([.ref (b 0), .int p1, .ref o]) ++ List.replicate (4 - (lg_sl ([.ref (b 0), .int p1, .ref o])).length) Slot.unset).toArray = ls at hl ⊢
  have hl : lv_has ls 4 [(0, .ref (b 0)), (1, .int p1), (2, .ref o)] := hl
  refine lv_aload_n hx hb dL_borrow_0 rfl (lv_at hl 2 rfl) ?_
  refine lv_iconst (v := 0) hx hb dL_borrow_1 rfl ?_
  refine lv_aload_n hx hb dL_borrow_2 rfl (lv_at hl 0 rfl) ?_
  refine lv_iload_n hx hb dL_borrow_3 rfl (lv_at hl 1 rfl) ?_
  refine wr_call (As := [.int p1]) (n := 1) (tgt := 18) hx hb hml hr hown hts hlocks hK hP hD hX hM gL_borrow_X3_borrow rfl (by decide) ⟨Nat.le_of_ble_eq_true rfl, Nat.le_of_ble_eq_true rfl⟩ rfl hl.1 dL_borrow_4 dL_borrow_7 dL_borrow_8 dL_borrow_9 (by decide) dL_borrow_18 dL_borrow_19 (fun q hq H1 locs1 q9 ce hce hcv hcl hP2 hD2 hS2 => ?_)
  have hc1 := hcd q hq
  obtain ⟨qn, qs⟩ := q
  rcases cdL_two hc1 with e | e
  · subst e
    refine vx_catch (own := RL) (name := "java/lang/IndexOutOfBoundsException") (E := exN 3) hown [] ⟨0, 9, 12, 28⟩ [⟨0, 9, 15, 15⟩] (htab.trans rfl) (fun z hz => absurd hz List.not_mem_nil) (by decide) (by decide) (hts (.classLink RL 28 "java/lang/IndexOutOfBoundsException") (List.mem_of_getElem? (i := 1) rfl)) (va_Nw.use (exWs_t _ (List.mem_of_getElem? (i := 5) rfl)) (hX.1 _ (List.mem_of_getElem? (i := 5) rfl))) hce hcv hcl ?_
    refine lv_astore_n (lv' := [(3, .ref q9), (0, .ref (b 0)), (1, .int p1), (2, .ref o)]) hx hb dL_borrow_12 rfl hl (by decide) rfl (fun ls hl => ?_)
    exact wr_hand (q := (3, qs)) (k := 1) hx hb hr hlocks hK hq rfl hP2 hD2 hS2 (by decide) dL_borrow_13 dL_borrow_14
  · subst e
    refine vx_catch (own := RL) (name := "java/lang/IllegalStateException") (E := exN 2) hown [⟨0, 9, 12, 28⟩] ⟨0, 9, 15, 15⟩ [] (htab.trans rfl) (fun z hz => Or.inr ?_) (by decide) (by decide) (hts (.classLink RL 15 "java/lang/IllegalStateException") (List.mem_of_getElem? (i := 2) rfl)) (va_Nw.use (exWs_t _ (List.mem_of_getElem? (i := 4) rfl)) (hX.1 _ (List.mem_of_getElem? (i := 4) rfl))) hce hcv hcl ?_
    · have ez := List.mem_singleton.mp hz
      subst ez
      exact ⟨by decide, exN 3, hts (.classLink RL 28 "java/lang/IndexOutOfBoundsException") (List.mem_of_getElem? (i := 1) rfl), hN.2.1⟩
    · refine lv_astore_n (lv' := [(3, .ref q9), (0, .ref (b 0)), (1, .int p1), (2, .ref o)]) hx hb dL_borrow_15 rfl hl (by decide) rfl (fun ls hl => ?_)
      exact wr_hand (q := (2, qs)) (k := 2) hx hb hr hlocks hK hq rfl hP2 hD2 hS2 (by decide) dL_borrow_16 dL_borrow_17
set_option maxHeartbeats 1000000 in
set_option maxRecDepth 100000 in
theorem mL_bringBack (l : Launch) (hfl : l.stackTraces = false) (D : va_G) (K : Nat → ClassId) (b t x y : Nat → Nat) (α : Nat → Nat → Nat) (o : Nat) (σ : ST × (Nat → Int64)) (p1 : Int32) (r : (Nat × ST) ⊕ (Int32 × ST)) (hf : fX3_bringBack σ.1 p1 = some r) (hcd : ∀ q, r = .inl q → 1 ≤ cdX q.1) : wM l yL_bringBack wsL_bringBack 8 169 D K b t x y α o [.ref (b 0), .int p1, .ref o] σ cdX r := by
  have hM := mX3_bringBack l D K b t x y α σ.1 p1 r hfl hf
  intro sz
  refine va_MetW (cc := cL_bringBack) (maxL := 4) (ret := (some .int)) (hh := [(0, 9, 12, 28), (0, 9, 15, 15)]) (by decide) rfl ?_
  intro p e s m args below meth c s₁ B hml hv
  obtain ⟨rfl, hsz, hP, hK, hD, hX, hN⟩ := hv
  have hx := B.exec
  have hb := B.bytes
  have hr := B.returns
  have hts := atoms_spec (ws := wsL_bringBack) B.pre
  have hown : s.vm.findClass RL = some m.cls := findClass_of_methodNamed B.named
  have hlocks := B.notSynchronized
  have htab := vx_table (x := yL_bringBack) B (hts _ List.mem_cons_self)
  subst hsz
  have hD := hD.self (sz := s.heap.size)
  have hl := lv_entry [.ref (b 0), .int p1, .ref o] (n := 4) (Nat.le_of_ble_eq_true rfl)
  rw [lg_entry_eq]
  generalize (lg_sl ([.ref (b 0), .int p1, .ref o]) ++ List.replicate (4 - (lg_sl ([.ref (b 0), .int p1, .ref o])).length) Slot.unset).toArray = ls at hl ⊢
  have hl : lv_has ls 4 [(0, .ref (b 0)), (1, .int p1), (2, .ref o)] := hl
  refine lv_aload_n hx hb dL_bringBack_0 rfl (lv_at hl 2 rfl) ?_
  refine lv_iconst (v := 0) hx hb dL_bringBack_1 rfl ?_
  refine lv_aload_n hx hb dL_bringBack_2 rfl (lv_at hl 0 rfl) ?_
  refine lv_iload_n hx hb dL_bringBack_3 rfl (lv_at hl 1 rfl) ?_
  refine wr_call (As := [.int p1]) (n := 1) (tgt := 18) hx hb hml hr hown hts hlocks hK hP hD hX hM gL_bringBack_X3_bringBack rfl (by decide) ⟨Nat.le_of_ble_eq_true rfl, Nat.le_of_ble_eq_true rfl⟩ rfl hl.1 dL_bringBack_4 dL_bringBack_7 dL_bringBack_8 dL_bringBack_9 (by decide) dL_bringBack_18 dL_bringBack_19 (fun q hq H1 locs1 q9 ce hce hcv hcl hP2 hD2 hS2 => ?_)
  have hc1 := hcd q hq
  obtain ⟨qn, qs⟩ := q
  rcases cdL_two hc1 with e | e
  · subst e
    refine vx_catch (own := RL) (name := "java/lang/IndexOutOfBoundsException") (E := exN 3) hown [] ⟨0, 9, 12, 28⟩ [⟨0, 9, 15, 15⟩] (htab.trans rfl) (fun z hz => absurd hz List.not_mem_nil) (by decide) (by decide) (hts (.classLink RL 28 "java/lang/IndexOutOfBoundsException") (List.mem_of_getElem? (i := 1) rfl)) (va_Nw.use (exWs_t _ (List.mem_of_getElem? (i := 5) rfl)) (hX.1 _ (List.mem_of_getElem? (i := 5) rfl))) hce hcv hcl ?_
    refine lv_astore_n (lv' := [(3, .ref q9), (0, .ref (b 0)), (1, .int p1), (2, .ref o)]) hx hb dL_bringBack_12 rfl hl (by decide) rfl (fun ls hl => ?_)
    exact wr_hand (q := (3, qs)) (k := 1) hx hb hr hlocks hK hq rfl hP2 hD2 hS2 (by decide) dL_bringBack_13 dL_bringBack_14
  · subst e
    refine vx_catch (own := RL) (name := "java/lang/IllegalStateException") (E := exN 2) hown [⟨0, 9, 12, 28⟩] ⟨0, 9, 15, 15⟩ [] (htab.trans rfl) (fun z hz => Or.inr ?_) (by decide) (by decide) (hts (.classLink RL 15 "java/lang/IllegalStateException") (List.mem_of_getElem? (i := 2) rfl)) (va_Nw.use (exWs_t _ (List.mem_of_getElem? (i := 4) rfl)) (hX.1 _ (List.mem_of_getElem? (i := 4) rfl))) hce hcv hcl ?_
    · have ez := List.mem_singleton.mp hz
      subst ez
      exact ⟨by decide, exN 3, hts (.classLink RL 28 "java/lang/IndexOutOfBoundsException") (List.mem_of_getElem? (i := 1) rfl), hN.2.1⟩
    · refine lv_astore_n (lv' := [(3, .ref q9), (0, .ref (b 0)), (1, .int p1), (2, .ref o)]) hx hb dL_bringBack_15 rfl hl (by decide) rfl (fun ls hl => ?_)
      exact wr_hand (q := (2, qs)) (k := 2) hx hb hr hlocks hK hq rfl hP2 hD2 hS2 (by decide) dL_bringBack_16 dL_bringBack_17
set_option maxHeartbeats 1000000 in
set_option maxRecDepth 100000 in
theorem mL_walk (l : Launch) (hfl : l.stackTraces = false) (D : va_G) (K : Nat → ClassId) (b t x y : Nat → Nat) (α : Nat → Nat → Nat) (o : Nat) (σ : ST × (Nat → Int64)) (p1 : Int32) (p2 : Int32) (p3 : Int32) (r : (Nat × ST) ⊕ (Int32 × ST)) (hf : fX3_walk σ.1 p1 p2 p3 = some r) (hcd : ∀ q, r = .inl q → 1 ≤ cdX q.1) : wM l yL_walk wsL_walk 8 171 D K b t x y α o [.ref (b 0), .int p1, .int p2, .int p3, .ref o] σ cdX r := by
  have hM := mX3_walk l D K b t x y α σ.1 p1 p2 p3 r hfl hf
  intro sz
  refine va_MetW (cc := cL_walk) (maxL := 6) (ret := (some .int)) (hh := [(0, 12, 15, 28), (0, 12, 19, 15)]) (by decide) rfl ?_
  intro p e s m args below meth c s₁ B hml hv
  obtain ⟨rfl, hsz, hP, hK, hD, hX, hN⟩ := hv
  have hx := B.exec
  have hb := B.bytes
  have hr := B.returns
  have hts := atoms_spec (ws := wsL_walk) B.pre
  have hown : s.vm.findClass RL = some m.cls := findClass_of_methodNamed B.named
  have hlocks := B.notSynchronized
  have htab := vx_table (x := yL_walk) B (hts _ List.mem_cons_self)
  subst hsz
  have hD := hD.self (sz := s.heap.size)
  have hl := lv_entry [.ref (b 0), .int p1, .int p2, .int p3, .ref o] (n := 6) (Nat.le_of_ble_eq_true rfl)
  rw [lg_entry_eq]
  generalize (lg_sl ([.ref (b 0), .int p1, .int p2, .int p3, .ref o]) ++ List.replicate (6 - (lg_sl ([.ref (b 0), .int p1, .int p2, .int p3, .ref o])).length) Slot.unset).toArray = ls at hl ⊢
  have hl : lv_has ls 6 [(0, .ref (b 0)), (1, .int p1), (2, .int p2), (3, .int p3), (4, .ref o)] := hl
  refine lv_aload hx hb dL_walk_0 (lv_at hl 4 rfl) ?_
  refine lv_iconst (v := 0) hx hb dL_walk_2 rfl ?_
  refine lv_aload_n hx hb dL_walk_3 rfl (lv_at hl 0 rfl) ?_
  refine lv_iload_n hx hb dL_walk_4 rfl (lv_at hl 1 rfl) ?_
  refine lv_iload_n hx hb dL_walk_5 rfl (lv_at hl 2 rfl) ?_
  refine lv_iload_n hx hb dL_walk_6 rfl (lv_at hl 3 rfl) ?_
  refine wr_call (As := [.int p1, .int p2, .int p3]) (n := 3) (tgt := 23) hx hb hml hr hown hts hlocks hK hP hD hX hM gL_walk_X3_walk rfl (by decide) ⟨Nat.le_of_ble_eq_true rfl, Nat.le_of_ble_eq_true rfl⟩ rfl hl.1 dL_walk_7 dL_walk_10 dL_walk_11 dL_walk_12 (by decide) dL_walk_23 dL_walk_24 (fun q hq H1 locs1 q9 ce hce hcv hcl hP2 hD2 hS2 => ?_)
  have hc1 := hcd q hq
  obtain ⟨qn, qs⟩ := q
  rcases cdL_two hc1 with e | e
  · subst e
    refine vx_catch (own := RL) (name := "java/lang/IndexOutOfBoundsException") (E := exN 3) hown [] ⟨0, 12, 15, 28⟩ [⟨0, 12, 19, 15⟩] (htab.trans rfl) (fun z hz => absurd hz List.not_mem_nil) (by decide) (by decide) (hts (.classLink RL 28 "java/lang/IndexOutOfBoundsException") (List.mem_of_getElem? (i := 1) rfl)) (va_Nw.use (exWs_t _ (List.mem_of_getElem? (i := 5) rfl)) (hX.1 _ (List.mem_of_getElem? (i := 5) rfl))) hce hcv hcl ?_
    refine lv_astore (lv' := [(5, .ref q9), (0, .ref (b 0)), (1, .int p1), (2, .int p2), (3, .int p3), (4, .ref o)]) hx hb dL_walk_15 hl (by decide) rfl (fun ls hl => ?_)
    exact wr_hand (q := (3, qs)) (k := 1) hx hb hr hlocks hK hq rfl hP2 hD2 hS2 (by decide) dL_walk_17 dL_walk_18
  · subst e
    refine vx_catch (own := RL) (name := "java/lang/IllegalStateException") (E := exN 2) hown [⟨0, 12, 15, 28⟩] ⟨0, 12, 19, 15⟩ [] (htab.trans rfl) (fun z hz => Or.inr ?_) (by decide) (by decide) (hts (.classLink RL 15 "java/lang/IllegalStateException") (List.mem_of_getElem? (i := 2) rfl)) (va_Nw.use (exWs_t _ (List.mem_of_getElem? (i := 4) rfl)) (hX.1 _ (List.mem_of_getElem? (i := 4) rfl))) hce hcv hcl ?_
    · have ez := List.mem_singleton.mp hz
      subst ez
      exact ⟨by decide, exN 3, hts (.classLink RL 28 "java/lang/IndexOutOfBoundsException") (List.mem_of_getElem? (i := 1) rfl), hN.2.1⟩
    · refine lv_astore (lv' := [(5, .ref q9), (0, .ref (b 0)), (1, .int p1), (2, .int p2), (3, .int p3), (4, .ref o)]) hx hb dL_walk_19 hl (by decide) rfl (fun ls hl => ?_)
      exact wr_hand (q := (2, qs)) (k := 2) hx hb hr hlocks hK hq rfl hP2 hD2 hS2 (by decide) dL_walk_21 dL_walk_22
set_option maxHeartbeats 1000000 in
set_option maxRecDepth 100000 in
theorem mL_turn (l : Launch) (hfl : l.stackTraces = false) (D : va_G) (K : Nat → ClassId) (b t x y : Nat → Nat) (α : Nat → Nat → Nat) (o : Nat) (σ : ST × (Nat → Int64)) (p1 : Int32) (r : (Nat × ST) ⊕ (Int32 × ST)) (hf : fX3_turn σ.1 p1 = some r) (hcd : ∀ q, r = .inl q → 1 ≤ cdX q.1) : wM l yL_turn wsL_turn 8 169 D K b t x y α o [.ref (b 0), .int p1, .ref o] σ cdX r := by
  have hM := mX3_turn l D K b t x y α σ.1 p1 r hfl hf
  intro sz
  refine va_MetW (cc := cL_turn) (maxL := 4) (ret := (some .int)) (hh := [(0, 9, 12, 28), (0, 9, 15, 15)]) (by decide) rfl ?_
  intro p e s m args below meth c s₁ B hml hv
  obtain ⟨rfl, hsz, hP, hK, hD, hX, hN⟩ := hv
  have hx := B.exec
  have hb := B.bytes
  have hr := B.returns
  have hts := atoms_spec (ws := wsL_turn) B.pre
  have hown : s.vm.findClass RL = some m.cls := findClass_of_methodNamed B.named
  have hlocks := B.notSynchronized
  have htab := vx_table (x := yL_turn) B (hts _ List.mem_cons_self)
  subst hsz
  have hD := hD.self (sz := s.heap.size)
  have hl := lv_entry [.ref (b 0), .int p1, .ref o] (n := 4) (Nat.le_of_ble_eq_true rfl)
  rw [lg_entry_eq]
  generalize (lg_sl ([.ref (b 0), .int p1, .ref o]) ++ List.replicate (4 - (lg_sl ([.ref (b 0), .int p1, .ref o])).length) Slot.unset).toArray = ls at hl ⊢
  have hl : lv_has ls 4 [(0, .ref (b 0)), (1, .int p1), (2, .ref o)] := hl
  refine lv_aload_n hx hb dL_turn_0 rfl (lv_at hl 2 rfl) ?_
  refine lv_iconst (v := 0) hx hb dL_turn_1 rfl ?_
  refine lv_aload_n hx hb dL_turn_2 rfl (lv_at hl 0 rfl) ?_
  refine lv_iload_n hx hb dL_turn_3 rfl (lv_at hl 1 rfl) ?_
  refine wr_call (As := [.int p1]) (n := 1) (tgt := 18) hx hb hml hr hown hts hlocks hK hP hD hX hM gL_turn_X3_turn rfl (by decide) ⟨Nat.le_of_ble_eq_true rfl, Nat.le_of_ble_eq_true rfl⟩ rfl hl.1 dL_turn_4 dL_turn_7 dL_turn_8 dL_turn_9 (by decide) dL_turn_18 dL_turn_19 (fun q hq H1 locs1 q9 ce hce hcv hcl hP2 hD2 hS2 => ?_)
  have hc1 := hcd q hq
  obtain ⟨qn, qs⟩ := q
  rcases cdL_two hc1 with e | e
  · subst e
    refine vx_catch (own := RL) (name := "java/lang/IndexOutOfBoundsException") (E := exN 3) hown [] ⟨0, 9, 12, 28⟩ [⟨0, 9, 15, 15⟩] (htab.trans rfl) (fun z hz => absurd hz List.not_mem_nil) (by decide) (by decide) (hts (.classLink RL 28 "java/lang/IndexOutOfBoundsException") (List.mem_of_getElem? (i := 1) rfl)) (va_Nw.use (exWs_t _ (List.mem_of_getElem? (i := 5) rfl)) (hX.1 _ (List.mem_of_getElem? (i := 5) rfl))) hce hcv hcl ?_
    refine lv_astore_n (lv' := [(3, .ref q9), (0, .ref (b 0)), (1, .int p1), (2, .ref o)]) hx hb dL_turn_12 rfl hl (by decide) rfl (fun ls hl => ?_)
    exact wr_hand (q := (3, qs)) (k := 1) hx hb hr hlocks hK hq rfl hP2 hD2 hS2 (by decide) dL_turn_13 dL_turn_14
  · subst e
    refine vx_catch (own := RL) (name := "java/lang/IllegalStateException") (E := exN 2) hown [⟨0, 9, 12, 28⟩] ⟨0, 9, 15, 15⟩ [] (htab.trans rfl) (fun z hz => Or.inr ?_) (by decide) (by decide) (hts (.classLink RL 15 "java/lang/IllegalStateException") (List.mem_of_getElem? (i := 2) rfl)) (va_Nw.use (exWs_t _ (List.mem_of_getElem? (i := 4) rfl)) (hX.1 _ (List.mem_of_getElem? (i := 4) rfl))) hce hcv hcl ?_
    · have ez := List.mem_singleton.mp hz
      subst ez
      exact ⟨by decide, exN 3, hts (.classLink RL 28 "java/lang/IndexOutOfBoundsException") (List.mem_of_getElem? (i := 1) rfl), hN.2.1⟩
    · refine lv_astore_n (lv' := [(3, .ref q9), (0, .ref (b 0)), (1, .int p1), (2, .ref o)]) hx hb dL_turn_15 rfl hl (by decide) rfl (fun ls hl => ?_)
      exact wr_hand (q := (2, qs)) (k := 2) hx hb hr hlocks hK hq rfl hP2 hD2 hS2 (by decide) dL_turn_16 dL_turn_17
set_option maxHeartbeats 1000000 in
set_option maxRecDepth 100000 in
theorem mL_ticks (l : Launch) (hfl : l.stackTraces = false) (D : va_G) (K : Nat → ClassId) (b t x y : Nat → Nat) (α : Nat → Nat → Nat) (o : Nat) (σ : ST × (Nat → Int64)) (p1 : Int32) (r : (Nat × ST) ⊕ (Int32 × ST)) (hf : fX3_ticks σ.1 p1 = some r) (hcd : ∀ q, r = .inl q → 1 ≤ cdI q.1) : wM l yL_ticks wsL_ticks 7 169 D K b t x y α o [.ref (b 0), .int p1, .ref o] σ cdI r := by
  have hM := mX3_ticks l D K b t x y α σ.1 p1 r hfl hf
  intro sz
  refine va_MetW (cc := cL_ticks) (maxL := 4) (ret := (some .int)) (hh := [(0, 9, 12, 13)]) (by decide) rfl ?_
  intro p e s m args below meth c s₁ B hml hv
  obtain ⟨rfl, hsz, hP, hK, hD, hX, hN⟩ := hv
  have hx := B.exec
  have hb := B.bytes
  have hr := B.returns
  have hts := atoms_spec (ws := wsL_ticks) B.pre
  have hown : s.vm.findClass RL = some m.cls := findClass_of_methodNamed B.named
  have hlocks := B.notSynchronized
  have htab := vx_table (x := yL_ticks) B (hts _ List.mem_cons_self)
  subst hsz
  have hD := hD.self (sz := s.heap.size)
  have hl := lv_entry [.ref (b 0), .int p1, .ref o] (n := 4) (Nat.le_of_ble_eq_true rfl)
  rw [lg_entry_eq]
  generalize (lg_sl ([.ref (b 0), .int p1, .ref o]) ++ List.replicate (4 - (lg_sl ([.ref (b 0), .int p1, .ref o])).length) Slot.unset).toArray = ls at hl ⊢
  have hl : lv_has ls 4 [(0, .ref (b 0)), (1, .int p1), (2, .ref o)] := hl
  refine lv_aload_n hx hb dL_ticks_0 rfl (lv_at hl 2 rfl) ?_
  refine lv_iconst (v := 0) hx hb dL_ticks_1 rfl ?_
  refine lv_aload_n hx hb dL_ticks_2 rfl (lv_at hl 0 rfl) ?_
  refine lv_iload_n hx hb dL_ticks_3 rfl (lv_at hl 1 rfl) ?_
  refine wr_call (As := [.int p1]) (n := 1) (tgt := 15) hx hb hml hr hown hts hlocks hK hP hD hX hM gL_ticks_X3_ticks rfl (by decide) ⟨Nat.le_of_ble_eq_true rfl, Nat.le_of_ble_eq_true rfl⟩ rfl hl.1 dL_ticks_4 dL_ticks_7 dL_ticks_8 dL_ticks_9 (by decide) dL_ticks_15 dL_ticks_16 (fun q hq H1 locs1 q9 ce hce hcv hcl hP2 hD2 hS2 => ?_)
  have hc1 := hcd q hq
  obtain ⟨qn, qs⟩ := q
  have e : qn = 1 := cdL_one hc1
  subst e
  refine vx_catch (own := RL) (name := "java/lang/IllegalArgumentException") (E := exN 1) hown [] ⟨0, 9, 12, 13⟩ [] (htab.trans rfl) (fun z hz => absurd hz List.not_mem_nil) (by decide) (by decide) (hts (.classLink RL 13 "java/lang/IllegalArgumentException") (List.mem_of_getElem? (i := 1) rfl)) (va_Nw.use (exWs_t _ (List.mem_of_getElem? (i := 3) rfl)) (hX.1 _ (List.mem_of_getElem? (i := 3) rfl))) hce hcv hcl ?_
  refine lv_astore_n (lv' := [(3, .ref q9), (0, .ref (b 0)), (1, .int p1), (2, .ref o)]) hx hb dL_ticks_12 rfl hl (by decide) rfl (fun ls hl => ?_)
  exact wr_hand (q := (1, qs)) (k := 1) hx hb hr hlocks hK hq rfl hP2 hD2 hS2 (by decide) dL_ticks_13 dL_ticks_14
set_option maxHeartbeats 1000000 in
set_option maxRecDepth 100000 in
theorem mL_set (l : Launch) (hfl : l.stackTraces = false) (D : va_G) (K : Nat → ClassId) (b t x y : Nat → Nat) (α : Nat → Nat → Nat) (o : Nat) (σ : ST × (Nat → Int64)) (p1 : Int32) (p2 : Int32) (r : (Nat × ST) ⊕ (Int32 × ST)) (hf : fX3_set σ.1 p1 p2 = some r) (hcd : ∀ q, r = .inl q → 1 ≤ cdI q.1) : wM l yL_set wsL_set 7 170 D K b t x y α o [.ref (b 0), .int p1, .int p2, .ref o] σ cdI r := by
  have hM := mX3_set l D K b t x y α σ.1 p1 p2 r hfl hf
  intro sz
  refine va_MetW (cc := cL_set) (maxL := 5) (ret := (some .int)) (hh := [(0, 10, 13, 13)]) (by decide) rfl ?_
  intro p e s m args below meth c s₁ B hml hv
  obtain ⟨rfl, hsz, hP, hK, hD, hX, hN⟩ := hv
  have hx := B.exec
  have hb := B.bytes
  have hr := B.returns
  have hts := atoms_spec (ws := wsL_set) B.pre
  have hown : s.vm.findClass RL = some m.cls := findClass_of_methodNamed B.named
  have hlocks := B.notSynchronized
  have htab := vx_table (x := yL_set) B (hts _ List.mem_cons_self)
  subst hsz
  have hD := hD.self (sz := s.heap.size)
  have hl := lv_entry [.ref (b 0), .int p1, .int p2, .ref o] (n := 5) (Nat.le_of_ble_eq_true rfl)
  rw [lg_entry_eq]
  generalize (lg_sl ([.ref (b 0), .int p1, .int p2, .ref o]) ++ List.replicate (5 - (lg_sl ([.ref (b 0), .int p1, .int p2, .ref o])).length) Slot.unset).toArray = ls at hl ⊢
  have hl : lv_has ls 5 [(0, .ref (b 0)), (1, .int p1), (2, .int p2), (3, .ref o)] := hl
  refine lv_aload_n hx hb dL_set_0 rfl (lv_at hl 3 rfl) ?_
  refine lv_iconst (v := 0) hx hb dL_set_1 rfl ?_
  refine lv_aload_n hx hb dL_set_2 rfl (lv_at hl 0 rfl) ?_
  refine lv_iload_n hx hb dL_set_3 rfl (lv_at hl 1 rfl) ?_
  refine lv_iload_n hx hb dL_set_4 rfl (lv_at hl 2 rfl) ?_
  refine wr_call (As := [.int p1, .int p2]) (n := 2) (tgt := 17) hx hb hml hr hown hts hlocks hK hP hD hX hM gL_set_X3_set rfl (by decide) ⟨Nat.le_of_ble_eq_true rfl, Nat.le_of_ble_eq_true rfl⟩ rfl hl.1 dL_set_5 dL_set_8 dL_set_9 dL_set_10 (by decide) dL_set_17 dL_set_18 (fun q hq H1 locs1 q9 ce hce hcv hcl hP2 hD2 hS2 => ?_)
  have hc1 := hcd q hq
  obtain ⟨qn, qs⟩ := q
  have e : qn = 1 := cdL_one hc1
  subst e
  refine vx_catch (own := RL) (name := "java/lang/IllegalArgumentException") (E := exN 1) hown [] ⟨0, 10, 13, 13⟩ [] (htab.trans rfl) (fun z hz => absurd hz List.not_mem_nil) (by decide) (by decide) (hts (.classLink RL 13 "java/lang/IllegalArgumentException") (List.mem_of_getElem? (i := 1) rfl)) (va_Nw.use (exWs_t _ (List.mem_of_getElem? (i := 3) rfl)) (hX.1 _ (List.mem_of_getElem? (i := 3) rfl))) hce hcv hcl ?_
  refine lv_astore (lv' := [(4, .ref q9), (0, .ref (b 0)), (1, .int p1), (2, .int p2), (3, .ref o)]) hx hb dL_set_13 hl (by decide) rfl (fun ls hl => ?_)
  exact wr_hand (q := (1, qs)) (k := 1) hx hb hr hlocks hK hq rfl hP2 hD2 hS2 (by decide) dL_set_15 dL_set_16
set_option maxHeartbeats 1000000 in
set_option maxRecDepth 100000 in
theorem mL_undo (l : Launch) (hfl : l.stackTraces = false) (D : va_G) (K : Nat → ClassId) (b t x y : Nat → Nat) (α : Nat → Nat → Nat) (o : Nat) (σ : ST × (Nat → Int64))  (r : (Nat × ST) ⊕ (Int32 × ST)) (hf : fX3_undo σ.1  = some r) (hcd : ∀ q, r = .inl q → 1 ≤ cd1 q.1) : wM l yL_undo wsL_undo 7 148 D K b t x y α o [.ref (b 0), .ref o] σ cd1 r := by
  have hM := mX3_undo l D K b t x y α σ.1 r hfl hf
  intro sz
  refine va_MetW (cc := cL_undo) (maxL := 3) (ret := (some .int)) (hh := [(0, 8, 11, 15)]) (by decide) rfl ?_
  intro p e s m args below meth c s₁ B hml hv
  obtain ⟨rfl, hsz, hP, hK, hD, hX, hN⟩ := hv
  have hx := B.exec
  have hb := B.bytes
  have hr := B.returns
  have hts := atoms_spec (ws := wsL_undo) B.pre
  have hown : s.vm.findClass RL = some m.cls := findClass_of_methodNamed B.named
  have hlocks := B.notSynchronized
  have htab := vx_table (x := yL_undo) B (hts _ List.mem_cons_self)
  subst hsz
  have hD := hD.self (sz := s.heap.size)
  have hl := lv_entry [.ref (b 0), .ref o] (n := 3) (Nat.le_of_ble_eq_true rfl)
  rw [lg_entry_eq]
  generalize (lg_sl ([.ref (b 0), .ref o]) ++ List.replicate (3 - (lg_sl ([.ref (b 0), .ref o])).length) Slot.unset).toArray = ls at hl ⊢
  have hl : lv_has ls 3 [(0, .ref (b 0)), (1, .ref o)] := hl
  refine lv_aload_n hx hb dL_undo_0 rfl (lv_at hl 1 rfl) ?_
  refine lv_iconst (v := 0) hx hb dL_undo_1 rfl ?_
  refine lv_aload_n hx hb dL_undo_2 rfl (lv_at hl 0 rfl) ?_
  refine wr_call (As := []) (n := 0) (tgt := 14) hx hb hml hr hown hts hlocks hK hP hD hX hM gL_undo_X3_undo rfl (by decide) ⟨Nat.le_of_ble_eq_true rfl, Nat.le_of_ble_eq_true rfl⟩ rfl hl.1 dL_undo_3 dL_undo_6 dL_undo_7 dL_undo_8 (by decide) dL_undo_14 dL_undo_15 (fun q hq H1 locs1 q9 ce hce hcv hcl hP2 hD2 hS2 => ?_)
  have hc1 := hcd q hq
  obtain ⟨qn, qs⟩ := q
  have e : qn = 2 := cdL_one hc1
  subst e
  refine vx_catch (own := RL) (name := "java/lang/IllegalStateException") (E := exN 2) hown [] ⟨0, 8, 11, 15⟩ [] (htab.trans rfl) (fun z hz => absurd hz List.not_mem_nil) (by decide) (by decide) (hts (.classLink RL 15 "java/lang/IllegalStateException") (List.mem_of_getElem? (i := 1) rfl)) (va_Nw.use (exWs_t _ (List.mem_of_getElem? (i := 4) rfl)) (hX.1 _ (List.mem_of_getElem? (i := 4) rfl))) hce hcv hcl ?_
  refine lv_astore_n (lv' := [(2, .ref q9), (0, .ref (b 0)), (1, .ref o)]) hx hb dL_undo_11 rfl hl (by decide) rfl (fun ls hl => ?_)
  exact wr_hand (q := (2, qs)) (k := 1) hx hb hr hlocks hK hq rfl hP2 hD2 hS2 (by decide) dL_undo_12 dL_undo_13
set_option maxHeartbeats 1000000 in
set_option maxRecDepth 100000 in
theorem mL_shouted (l : Launch) (hfl : l.stackTraces = false) (D : va_G) (K : Nat → ClassId) (b t x y : Nat → Nat) (α : Nat → Nat → Nat) (o : Nat) (σ : ST × (Nat → Int64)) (p1 : Int32) (r : (Nat × ST) ⊕ (Int32 × ST)) (hf : fX3_shouted σ.1 p1 = some r) (hcd : ∀ q, r = .inl q → 1 ≤ cdO q.1) : wM l yL_shouted wsL_shouted 8 158 D K b t x y α o [.ref (b 0), .int p1, .ref o] σ cdO r := by
  have hM := mX3_shouted l D K b t x y α σ.1 p1 r hfl hf
  intro sz
  refine va_MetW (cc := cL_shouted) (maxL := 4) (ret := (some .int)) (hh := [(0, 9, 12, 28)]) (by decide) rfl ?_
  intro p e s m args below meth c s₁ B hml hv
  obtain ⟨rfl, hsz, hP, hK, hD, hX, hN⟩ := hv
  have hx := B.exec
  have hb := B.bytes
  have hr := B.returns
  have hts := atoms_spec (ws := wsL_shouted) B.pre
  have hown : s.vm.findClass RL = some m.cls := findClass_of_methodNamed B.named
  have hlocks := B.notSynchronized
  have htab := vx_table (x := yL_shouted) B (hts _ List.mem_cons_self)
  subst hsz
  have hD := hD.self (sz := s.heap.size)
  have hl := lv_entry [.ref (b 0), .int p1, .ref o] (n := 4) (Nat.le_of_ble_eq_true rfl)
  rw [lg_entry_eq]
  generalize (lg_sl ([.ref (b 0), .int p1, .ref o]) ++ List.replicate (4 - (lg_sl ([.ref (b 0), .int p1, .ref o])).length) Slot.unset).toArray = ls at hl ⊢
  have hl : lv_has ls 4 [(0, .ref (b 0)), (1, .int p1), (2, .ref o)] := hl
  refine lv_aload_n hx hb dL_shouted_0 rfl (lv_at hl 2 rfl) ?_
  refine lv_iconst (v := 0) hx hb dL_shouted_1 rfl ?_
  refine lv_aload_n hx hb dL_shouted_2 rfl (lv_at hl 0 rfl) ?_
  refine lv_iload_n hx hb dL_shouted_3 rfl (lv_at hl 1 rfl) ?_
  refine wr_call (As := [.int p1]) (n := 1) (tgt := 15) hx hb hml hr hown hts hlocks hK hP hD hX hM gL_shouted_X3_shouted rfl (by decide) ⟨Nat.le_of_ble_eq_true rfl, Nat.le_of_ble_eq_true rfl⟩ rfl hl.1 dL_shouted_4 dL_shouted_7 dL_shouted_8 dL_shouted_9 (by decide) dL_shouted_15 dL_shouted_16 (fun q hq H1 locs1 q9 ce hce hcv hcl hP2 hD2 hS2 => ?_)
  have hc1 := hcd q hq
  obtain ⟨qn, qs⟩ := q
  have e : qn = 3 := cdL_one hc1
  subst e
  refine vx_catch (own := RL) (name := "java/lang/IndexOutOfBoundsException") (E := exN 3) hown [] ⟨0, 9, 12, 28⟩ [] (htab.trans rfl) (fun z hz => absurd hz List.not_mem_nil) (by decide) (by decide) (hts (.classLink RL 28 "java/lang/IndexOutOfBoundsException") (List.mem_of_getElem? (i := 1) rfl)) (va_Nw.use (exWs_t _ (List.mem_of_getElem? (i := 5) rfl)) (hX.1 _ (List.mem_of_getElem? (i := 5) rfl))) hce hcv hcl ?_
  refine lv_astore_n (lv' := [(3, .ref q9), (0, .ref (b 0)), (1, .int p1), (2, .ref o)]) hx hb dL_shouted_12 rfl hl (by decide) rfl (fun ls hl => ?_)
  exact wr_hand (q := (3, qs)) (k := 1) hx hb hr hlocks hK hq rfl hP2 hD2 hS2 (by decide) dL_shouted_13 dL_shouted_14
set_option maxHeartbeats 1000000 in
set_option maxRecDepth 100000 in
theorem mL_leastStrength (l : Launch) (hfl : l.stackTraces = false) (D : va_G) (K : Nat → ClassId) (b t x y : Nat → Nat) (α : Nat → Nat → Nat) (o : Nat) (σ : ST × (Nat → Int64)) (p1 : Int32) (r : (Nat × ST) ⊕ (Int32 × ST)) (hf : fX3_leastStrength σ.1 p1 = some r) (hcd : ∀ q, r = .inl q → 1 ≤ cdO q.1) : wM l yL_leastStrength wsL_leastStrength 8 178 D K b t x y α o [.ref (b 0), .int p1, .ref o] σ cdO r := by
  have hM := mX3_leastStrength l D K b t x y α σ.1 p1 r hfl hf
  intro sz
  refine va_MetW (cc := cL_leastStrength) (maxL := 4) (ret := (some .int)) (hh := [(0, 9, 12, 28)]) (by decide) rfl ?_
  intro p e s m args below meth c s₁ B hml hv
  obtain ⟨rfl, hsz, hP, hK, hD, hX, hN⟩ := hv
  have hx := B.exec
  have hb := B.bytes
  have hr := B.returns
  have hts := atoms_spec (ws := wsL_leastStrength) B.pre
  have hown : s.vm.findClass RL = some m.cls := findClass_of_methodNamed B.named
  have hlocks := B.notSynchronized
  have htab := vx_table (x := yL_leastStrength) B (hts _ List.mem_cons_self)
  subst hsz
  have hD := hD.self (sz := s.heap.size)
  have hl := lv_entry [.ref (b 0), .int p1, .ref o] (n := 4) (Nat.le_of_ble_eq_true rfl)
  rw [lg_entry_eq]
  generalize (lg_sl ([.ref (b 0), .int p1, .ref o]) ++ List.replicate (4 - (lg_sl ([.ref (b 0), .int p1, .ref o])).length) Slot.unset).toArray = ls at hl ⊢
  have hl : lv_has ls 4 [(0, .ref (b 0)), (1, .int p1), (2, .ref o)] := hl
  refine lv_aload_n hx hb dL_leastStrength_0 rfl (lv_at hl 2 rfl) ?_
  refine lv_iconst (v := 0) hx hb dL_leastStrength_1 rfl ?_
  refine lv_aload_n hx hb dL_leastStrength_2 rfl (lv_at hl 0 rfl) ?_
  refine lv_iload_n hx hb dL_leastStrength_3 rfl (lv_at hl 1 rfl) ?_
  refine wr_call (As := [.int p1]) (n := 1) (tgt := 15) hx hb hml hr hown hts hlocks hK hP hD hX hM gL_leastStrength_X3_leastStrength rfl (by decide) ⟨Nat.le_of_ble_eq_true rfl, Nat.le_of_ble_eq_true rfl⟩ rfl hl.1 dL_leastStrength_4 dL_leastStrength_7 dL_leastStrength_8 dL_leastStrength_9 (by decide) dL_leastStrength_15 dL_leastStrength_16 (fun q hq H1 locs1 q9 ce hce hcv hcl hP2 hD2 hS2 => ?_)
  have hc1 := hcd q hq
  obtain ⟨qn, qs⟩ := q
  have e : qn = 3 := cdL_one hc1
  subst e
  refine vx_catch (own := RL) (name := "java/lang/IndexOutOfBoundsException") (E := exN 3) hown [] ⟨0, 9, 12, 28⟩ [] (htab.trans rfl) (fun z hz => absurd hz List.not_mem_nil) (by decide) (by decide) (hts (.classLink RL 28 "java/lang/IndexOutOfBoundsException") (List.mem_of_getElem? (i := 1) rfl)) (va_Nw.use (exWs_t _ (List.mem_of_getElem? (i := 5) rfl)) (hX.1 _ (List.mem_of_getElem? (i := 5) rfl))) hce hcv hcl ?_
  refine lv_astore_n (lv' := [(3, .ref q9), (0, .ref (b 0)), (1, .int p1), (2, .ref o)]) hx hb dL_leastStrength_12 rfl hl (by decide) rfl (fun ls hl => ?_)
  exact wr_hand (q := (3, qs)) (k := 1) hx hb hr hlocks hK hq rfl hP2 hD2 hS2 (by decide) dL_leastStrength_13 dL_leastStrength_14
set_option maxHeartbeats 1000000 in
set_option maxRecDepth 100000 in
theorem mL_bestGate (l : Launch) (hfl : l.stackTraces = false) (D : va_G) (K : Nat → ClassId) (b t x y : Nat → Nat) (α : Nat → Nat → Nat) (o : Nat) (σ : ST × (Nat → Int64)) (p1 : Int32) (r : (Nat × ST) ⊕ (Int32 × ST)) (hf : fX3_bestGate σ.1 p1 = some r) (hcd : ∀ q, r = .inl q → 1 ≤ cdX q.1) : wM l yL_bestGate wsL_bestGate 8 183 D K b t x y α o [.ref (b 0), .int p1, .ref o] σ cdX r := by
  have hM := mX3_bestGate l D K b t x y α σ.1 p1 r hfl hf
  intro sz
  refine va_MetW (cc := cL_bestGate) (maxL := 4) (ret := (some .int)) (hh := [(0, 9, 12, 28), (0, 9, 15, 15)]) (by decide) rfl ?_
  intro p e s m args below meth c s₁ B hml hv
  obtain ⟨rfl, hsz, hP, hK, hD, hX, hN⟩ := hv
  have hx := B.exec
  have hb := B.bytes
  have hr := B.returns
  have hts := atoms_spec (ws := wsL_bestGate) B.pre
  have hown : s.vm.findClass RL = some m.cls := findClass_of_methodNamed B.named
  have hlocks := B.notSynchronized
  have htab := vx_table (x := yL_bestGate) B (hts _ List.mem_cons_self)
  subst hsz
  have hD := hD.self (sz := s.heap.size)
  have hl := lv_entry [.ref (b 0), .int p1, .ref o] (n := 4) (Nat.le_of_ble_eq_true rfl)
  rw [lg_entry_eq]
  generalize (lg_sl ([.ref (b 0), .int p1, .ref o]) ++ List.replicate (4 - (lg_sl ([.ref (b 0), .int p1, .ref o])).length) Slot.unset).toArray = ls at hl ⊢
  have hl : lv_has ls 4 [(0, .ref (b 0)), (1, .int p1), (2, .ref o)] := hl
  refine lv_aload_n hx hb dL_bestGate_0 rfl (lv_at hl 2 rfl) ?_
  refine lv_iconst (v := 0) hx hb dL_bestGate_1 rfl ?_
  refine lv_aload_n hx hb dL_bestGate_2 rfl (lv_at hl 0 rfl) ?_
  refine lv_iload_n hx hb dL_bestGate_3 rfl (lv_at hl 1 rfl) ?_
  refine wr_call (As := [.int p1]) (n := 1) (tgt := 18) hx hb hml hr hown hts hlocks hK hP hD hX hM gL_bestGate_X3_bestGate rfl (by decide) ⟨Nat.le_of_ble_eq_true rfl, Nat.le_of_ble_eq_true rfl⟩ rfl hl.1 dL_bestGate_4 dL_bestGate_7 dL_bestGate_8 dL_bestGate_9 (by decide) dL_bestGate_18 dL_bestGate_19 (fun q hq H1 locs1 q9 ce hce hcv hcl hP2 hD2 hS2 => ?_)
  have hc1 := hcd q hq
  obtain ⟨qn, qs⟩ := q
  rcases cdL_two hc1 with e | e
  · subst e
    refine vx_catch (own := RL) (name := "java/lang/IndexOutOfBoundsException") (E := exN 3) hown [] ⟨0, 9, 12, 28⟩ [⟨0, 9, 15, 15⟩] (htab.trans rfl) (fun z hz => absurd hz List.not_mem_nil) (by decide) (by decide) (hts (.classLink RL 28 "java/lang/IndexOutOfBoundsException") (List.mem_of_getElem? (i := 1) rfl)) (va_Nw.use (exWs_t _ (List.mem_of_getElem? (i := 5) rfl)) (hX.1 _ (List.mem_of_getElem? (i := 5) rfl))) hce hcv hcl ?_
    refine lv_astore_n (lv' := [(3, .ref q9), (0, .ref (b 0)), (1, .int p1), (2, .ref o)]) hx hb dL_bestGate_12 rfl hl (by decide) rfl (fun ls hl => ?_)
    exact wr_hand (q := (3, qs)) (k := 1) hx hb hr hlocks hK hq rfl hP2 hD2 hS2 (by decide) dL_bestGate_13 dL_bestGate_14
  · subst e
    refine vx_catch (own := RL) (name := "java/lang/IllegalStateException") (E := exN 2) hown [⟨0, 9, 12, 28⟩] ⟨0, 9, 15, 15⟩ [] (htab.trans rfl) (fun z hz => Or.inr ?_) (by decide) (by decide) (hts (.classLink RL 15 "java/lang/IllegalStateException") (List.mem_of_getElem? (i := 2) rfl)) (va_Nw.use (exWs_t _ (List.mem_of_getElem? (i := 4) rfl)) (hX.1 _ (List.mem_of_getElem? (i := 4) rfl))) hce hcv hcl ?_
    · have ez := List.mem_singleton.mp hz
      subst ez
      exact ⟨by decide, exN 3, hts (.classLink RL 28 "java/lang/IndexOutOfBoundsException") (List.mem_of_getElem? (i := 1) rfl), hN.2.1⟩
    · refine lv_astore_n (lv' := [(3, .ref q9), (0, .ref (b 0)), (1, .int p1), (2, .ref o)]) hx hb dL_bestGate_15 rfl hl (by decide) rfl (fun ls hl => ?_)
      exact wr_hand (q := (2, qs)) (k := 2) hx hb hr hlocks hK hq rfl hP2 hD2 hS2 (by decide) dL_bestGate_16 dL_bestGate_17
set_option maxHeartbeats 1000000 in
set_option maxRecDepth 100000 in
theorem mL_runScript (l : Launch) (hfl : l.stackTraces = false) (D : va_G) (K : Nat → ClassId) (b t x y : Nat → Nat) (α : Nat → Nat → Nat) (o : Nat) (σ : ST × (Nat → Int64)) (p1 : Int32) (p2 : Int64) (r : (Nat × ST) ⊕ (Int32 × ST)) (hf : fX3_runScript σ.1 p1 p2 = some r) (hcd : ∀ q, r = .inl q → 1 ≤ cdI q.1) : wM l yL_runScript wsL_runScript 8 188 D K b t x y α o [.ref (b 0), .int p1, .long p2, .ref o] σ cdI r := by
  have hM := mX3_runScript l D K b t x y α σ.1 p1 p2 r hfl hf
  intro sz
  refine va_MetW (cc := cL_runScript) (maxL := 6) (ret := (some .int)) (hh := [(0, 11, 14, 13)]) (by decide) rfl ?_
  intro p e s m args below meth c s₁ B hml hv
  obtain ⟨rfl, hsz, hP, hK, hD, hX, hN⟩ := hv
  have hx := B.exec
  have hb := B.bytes
  have hr := B.returns
  have hts := atoms_spec (ws := wsL_runScript) B.pre
  have hown : s.vm.findClass RL = some m.cls := findClass_of_methodNamed B.named
  have hlocks := B.notSynchronized
  have htab := vx_table (x := yL_runScript) B (hts _ List.mem_cons_self)
  subst hsz
  have hD := hD.self (sz := s.heap.size)
  have hl := lv_entry [.ref (b 0), .int p1, .long p2, .ref o] (n := 6) (Nat.le_of_ble_eq_true rfl)
  rw [lg_entry_eq]
  generalize (lg_sl ([.ref (b 0), .int p1, .long p2, .ref o]) ++ List.replicate (6 - (lg_sl ([.ref (b 0), .int p1, .long p2, .ref o])).length) Slot.unset).toArray = ls at hl ⊢
  have hl : lv_has ls 6 [(0, .ref (b 0)), (1, .int p1), (2, .long p2), (4, .ref o)] := hl
  refine lv_aload hx hb dL_runScript_0 (lv_at hl 3 rfl) ?_
  refine lv_iconst (v := 0) hx hb dL_runScript_2 rfl ?_
  refine lv_aload_n hx hb dL_runScript_3 rfl (lv_at hl 0 rfl) ?_
  refine lv_iload_n hx hb dL_runScript_4 rfl (lv_at hl 1 rfl) ?_
  refine lv_lload_n hx hb dL_runScript_5 rfl (lv_at hl 2 rfl) ?_
  refine wr_call (As := [.int p1, .long p2]) (n := 2) (tgt := 18) hx hb hml hr hown hts hlocks hK hP hD hX hM gL_runScript_X3_runScript rfl (by decide) ⟨Nat.le_of_ble_eq_true rfl, Nat.le_of_ble_eq_true rfl⟩ rfl hl.1 dL_runScript_6 dL_runScript_9 dL_runScript_10 dL_runScript_11 (by decide) dL_runScript_18 dL_runScript_19 (fun q hq H1 locs1 q9 ce hce hcv hcl hP2 hD2 hS2 => ?_)
  have hc1 := hcd q hq
  obtain ⟨qn, qs⟩ := q
  have e : qn = 1 := cdL_one hc1
  subst e
  refine vx_catch (own := RL) (name := "java/lang/IllegalArgumentException") (E := exN 1) hown [] ⟨0, 11, 14, 13⟩ [] (htab.trans rfl) (fun z hz => absurd hz List.not_mem_nil) (by decide) (by decide) (hts (.classLink RL 13 "java/lang/IllegalArgumentException") (List.mem_of_getElem? (i := 1) rfl)) (va_Nw.use (exWs_t _ (List.mem_of_getElem? (i := 3) rfl)) (hX.1 _ (List.mem_of_getElem? (i := 3) rfl))) hce hcv hcl ?_
  refine lv_astore (lv' := [(5, .ref q9), (0, .ref (b 0)), (1, .int p1), (2, .long p2), (4, .ref o)]) hx hb dL_runScript_14 hl (by decide) rfl (fun ls hl => ?_)
  exact wr_hand (q := (1, qs)) (k := 1) hx hb hr hlocks hK hq rfl hP2 hD2 hS2 (by decide) dL_runScript_16 dL_runScript_17
set_option maxHeartbeats 1000000 in
set_option maxRecDepth 100000 in
theorem mL_simulate (l : Launch) (hfl : l.stackTraces = false) (D : va_G) (K : Nat → ClassId) (b t x y : Nat → Nat) (α : Nat → Nat → Nat) (o : Nat) (σ : ST × (Nat → Int64)) (p1 : Int64) (p2 : Int32) (r : (Nat × ST) ⊕ (Int32 × ST)) (hf : fX3_simulate σ.1 p1 p2 = some r) (hcd : ∀ q, r = .inl q → 1 ≤ cdI q.1) : wM l yL_simulate wsL_simulate 7 164 D K b t x y α o [.ref (b 0), .long p1, .int p2, .ref o] σ cdI r := by
  have hM := mX3_simulate l D K b t x y α σ.1 p1 p2 r hfl hf
  intro sz
  refine va_MetW (cc := cL_simulate) (maxL := 6) (ret := (some .int)) (hh := [(0, 11, 14, 13)]) (by decide) rfl ?_
  intro p e s m args below meth c s₁ B hml hv
  obtain ⟨rfl, hsz, hP, hK, hD, hX, hN⟩ := hv
  have hx := B.exec
  have hb := B.bytes
  have hr := B.returns
  have hts := atoms_spec (ws := wsL_simulate) B.pre
  have hown : s.vm.findClass RL = some m.cls := findClass_of_methodNamed B.named
  have hlocks := B.notSynchronized
  have htab := vx_table (x := yL_simulate) B (hts _ List.mem_cons_self)
  subst hsz
  have hD := hD.self (sz := s.heap.size)
  have hl := lv_entry [.ref (b 0), .long p1, .int p2, .ref o] (n := 6) (Nat.le_of_ble_eq_true rfl)
  rw [lg_entry_eq]
  generalize (lg_sl ([.ref (b 0), .long p1, .int p2, .ref o]) ++ List.replicate (6 - (lg_sl ([.ref (b 0), .long p1, .int p2, .ref o])).length) Slot.unset).toArray = ls at hl ⊢
  have hl : lv_has ls 6 [(0, .ref (b 0)), (1, .long p1), (3, .int p2), (4, .ref o)] := hl
  refine lv_aload hx hb dL_simulate_0 (lv_at hl 3 rfl) ?_
  refine lv_iconst (v := 0) hx hb dL_simulate_2 rfl ?_
  refine lv_aload_n hx hb dL_simulate_3 rfl (lv_at hl 0 rfl) ?_
  refine lv_lload_n hx hb dL_simulate_4 rfl (lv_at hl 1 rfl) ?_
  refine lv_iload_n hx hb dL_simulate_5 rfl (lv_at hl 2 rfl) ?_
  refine wr_call (As := [.long p1, .int p2]) (n := 2) (tgt := 18) hx hb hml hr hown hts hlocks hK hP hD hX hM gL_simulate_X3_simulate rfl (by decide) ⟨Nat.le_of_ble_eq_true rfl, Nat.le_of_ble_eq_true rfl⟩ rfl hl.1 dL_simulate_6 dL_simulate_9 dL_simulate_10 dL_simulate_11 (by decide) dL_simulate_18 dL_simulate_19 (fun q hq H1 locs1 q9 ce hce hcv hcl hP2 hD2 hS2 => ?_)
  have hc1 := hcd q hq
  obtain ⟨qn, qs⟩ := q
  have e : qn = 1 := cdL_one hc1
  subst e
  refine vx_catch (own := RL) (name := "java/lang/IllegalArgumentException") (E := exN 1) hown [] ⟨0, 11, 14, 13⟩ [] (htab.trans rfl) (fun z hz => absurd hz List.not_mem_nil) (by decide) (by decide) (hts (.classLink RL 13 "java/lang/IllegalArgumentException") (List.mem_of_getElem? (i := 1) rfl)) (va_Nw.use (exWs_t _ (List.mem_of_getElem? (i := 3) rfl)) (hX.1 _ (List.mem_of_getElem? (i := 3) rfl))) hce hcv hcl ?_
  refine lv_astore (lv' := [(5, .ref q9), (0, .ref (b 0)), (1, .long p1), (3, .int p2), (4, .ref o)]) hx hb dL_simulate_14 hl (by decide) rfl (fun ls hl => ?_)
  exact wr_hand (q := (1, qs)) (k := 1) hx hb hr hlocks hK hq rfl hP2 hD2 hS2 (by decide) dL_simulate_16 dL_simulate_17
set_option maxHeartbeats 1000000 in
set_option maxRecDepth 100000 in
theorem mL_save (l : Launch) (hfl : l.stackTraces = false) (D : va_G) (K : Nat → ClassId) (b t x y : Nat → Nat) (α : Nat → Nat → Nat) (o : Nat) (σ : ST × (Nat → Int64)) (p1 : Int32) (r : (Nat × ST) ⊕ (Int32 × ST)) (hf : fX3_save σ.1 p1 = some r) (hcd : ∀ q, r = .inl q → 1 ≤ cdO q.1) : wM l yL_save wsL_save 8 149 D K b t x y α o [.ref (b 0), .int p1, .ref o] σ cdO r := by
  have hM := mX3_save l D K b t x y α σ.1 p1 r hfl hf
  intro sz
  refine va_MetW (cc := cL_save) (maxL := 4) (ret := (some .int)) (hh := [(0, 9, 12, 28)]) (by decide) rfl ?_
  intro p e s m args below meth c s₁ B hml hv
  obtain ⟨rfl, hsz, hP, hK, hD, hX, hN⟩ := hv
  have hx := B.exec
  have hb := B.bytes
  have hr := B.returns
  have hts := atoms_spec (ws := wsL_save) B.pre
  have hown : s.vm.findClass RL = some m.cls := findClass_of_methodNamed B.named
  have hlocks := B.notSynchronized
  have htab := vx_table (x := yL_save) B (hts _ List.mem_cons_self)
  subst hsz
  have hD := hD.self (sz := s.heap.size)
  have hl := lv_entry [.ref (b 0), .int p1, .ref o] (n := 4) (Nat.le_of_ble_eq_true rfl)
  rw [lg_entry_eq]
  generalize (lg_sl ([.ref (b 0), .int p1, .ref o]) ++ List.replicate (4 - (lg_sl ([.ref (b 0), .int p1, .ref o])).length) Slot.unset).toArray = ls at hl ⊢
  have hl : lv_has ls 4 [(0, .ref (b 0)), (1, .int p1), (2, .ref o)] := hl
  refine lv_aload_n hx hb dL_save_0 rfl (lv_at hl 2 rfl) ?_
  refine lv_iconst (v := 0) hx hb dL_save_1 rfl ?_
  refine lv_aload_n hx hb dL_save_2 rfl (lv_at hl 0 rfl) ?_
  refine lv_iload_n hx hb dL_save_3 rfl (lv_at hl 1 rfl) ?_
  refine wr_call (As := [.int p1]) (n := 1) (tgt := 15) hx hb hml hr hown hts hlocks hK hP hD hX hM gL_save_X3_save rfl (by decide) ⟨Nat.le_of_ble_eq_true rfl, Nat.le_of_ble_eq_true rfl⟩ rfl hl.1 dL_save_4 dL_save_7 dL_save_8 dL_save_9 (by decide) dL_save_15 dL_save_16 (fun q hq H1 locs1 q9 ce hce hcv hcl hP2 hD2 hS2 => ?_)
  have hc1 := hcd q hq
  obtain ⟨qn, qs⟩ := q
  have e : qn = 3 := cdL_one hc1
  subst e
  refine vx_catch (own := RL) (name := "java/lang/IndexOutOfBoundsException") (E := exN 3) hown [] ⟨0, 9, 12, 28⟩ [] (htab.trans rfl) (fun z hz => absurd hz List.not_mem_nil) (by decide) (by decide) (hts (.classLink RL 28 "java/lang/IndexOutOfBoundsException") (List.mem_of_getElem? (i := 1) rfl)) (va_Nw.use (exWs_t _ (List.mem_of_getElem? (i := 5) rfl)) (hX.1 _ (List.mem_of_getElem? (i := 5) rfl))) hce hcv hcl ?_
  refine lv_astore_n (lv' := [(3, .ref q9), (0, .ref (b 0)), (1, .int p1), (2, .ref o)]) hx hb dL_save_12 rfl hl (by decide) rfl (fun ls hl => ?_)
  exact wr_hand (q := (3, qs)) (k := 1) hx hb hr hlocks hK hq rfl hP2 hD2 hS2 (by decide) dL_save_13 dL_save_14
set_option maxHeartbeats 1000000 in
set_option maxRecDepth 100000 in
theorem mL_restore (l : Launch) (hfl : l.stackTraces = false) (D : va_G) (K : Nat → ClassId) (b t x y : Nat → Nat) (α : Nat → Nat → Nat) (o : Nat) (σ : ST × (Nat → Int64)) (p1 : Int32) (r : (Nat × ST) ⊕ (Int32 × ST)) (hf : fX3_restore σ.1 p1 = some r) (hcd : ∀ q, r = .inl q → 1 ≤ cdX q.1) : wM l yL_restore wsL_restore 8 149 D K b t x y α o [.ref (b 0), .int p1, .ref o] σ cdX r := by
  have hM := mX3_restore l D K b t x y α σ.1 p1 r hfl hf
  intro sz
  refine va_MetW (cc := cL_restore) (maxL := 4) (ret := (some .int)) (hh := [(0, 9, 12, 28), (0, 9, 15, 15)]) (by decide) rfl ?_
  intro p e s m args below meth c s₁ B hml hv
  obtain ⟨rfl, hsz, hP, hK, hD, hX, hN⟩ := hv
  have hx := B.exec
  have hb := B.bytes
  have hr := B.returns
  have hts := atoms_spec (ws := wsL_restore) B.pre
  have hown : s.vm.findClass RL = some m.cls := findClass_of_methodNamed B.named
  have hlocks := B.notSynchronized
  have htab := vx_table (x := yL_restore) B (hts _ List.mem_cons_self)
  subst hsz
  have hD := hD.self (sz := s.heap.size)
  have hl := lv_entry [.ref (b 0), .int p1, .ref o] (n := 4) (Nat.le_of_ble_eq_true rfl)
  rw [lg_entry_eq]
  generalize (lg_sl ([.ref (b 0), .int p1, .ref o]) ++ List.replicate (4 - (lg_sl ([.ref (b 0), .int p1, .ref o])).length) Slot.unset).toArray = ls at hl ⊢
  have hl : lv_has ls 4 [(0, .ref (b 0)), (1, .int p1), (2, .ref o)] := hl
  refine lv_aload_n hx hb dL_restore_0 rfl (lv_at hl 2 rfl) ?_
  refine lv_iconst (v := 0) hx hb dL_restore_1 rfl ?_
  refine lv_aload_n hx hb dL_restore_2 rfl (lv_at hl 0 rfl) ?_
  refine lv_iload_n hx hb dL_restore_3 rfl (lv_at hl 1 rfl) ?_
  refine wr_call (As := [.int p1]) (n := 1) (tgt := 18) hx hb hml hr hown hts hlocks hK hP hD hX hM gL_restore_X3_restore rfl (by decide) ⟨Nat.le_of_ble_eq_true rfl, Nat.le_of_ble_eq_true rfl⟩ rfl hl.1 dL_restore_4 dL_restore_7 dL_restore_8 dL_restore_9 (by decide) dL_restore_18 dL_restore_19 (fun q hq H1 locs1 q9 ce hce hcv hcl hP2 hD2 hS2 => ?_)
  have hc1 := hcd q hq
  obtain ⟨qn, qs⟩ := q
  rcases cdL_two hc1 with e | e
  · subst e
    refine vx_catch (own := RL) (name := "java/lang/IndexOutOfBoundsException") (E := exN 3) hown [] ⟨0, 9, 12, 28⟩ [⟨0, 9, 15, 15⟩] (htab.trans rfl) (fun z hz => absurd hz List.not_mem_nil) (by decide) (by decide) (hts (.classLink RL 28 "java/lang/IndexOutOfBoundsException") (List.mem_of_getElem? (i := 1) rfl)) (va_Nw.use (exWs_t _ (List.mem_of_getElem? (i := 5) rfl)) (hX.1 _ (List.mem_of_getElem? (i := 5) rfl))) hce hcv hcl ?_
    refine lv_astore_n (lv' := [(3, .ref q9), (0, .ref (b 0)), (1, .int p1), (2, .ref o)]) hx hb dL_restore_12 rfl hl (by decide) rfl (fun ls hl => ?_)
    exact wr_hand (q := (3, qs)) (k := 1) hx hb hr hlocks hK hq rfl hP2 hD2 hS2 (by decide) dL_restore_13 dL_restore_14
  · subst e
    refine vx_catch (own := RL) (name := "java/lang/IllegalStateException") (E := exN 2) hown [⟨0, 9, 12, 28⟩] ⟨0, 9, 15, 15⟩ [] (htab.trans rfl) (fun z hz => Or.inr ?_) (by decide) (by decide) (hts (.classLink RL 15 "java/lang/IllegalStateException") (List.mem_of_getElem? (i := 2) rfl)) (va_Nw.use (exWs_t _ (List.mem_of_getElem? (i := 4) rfl)) (hX.1 _ (List.mem_of_getElem? (i := 4) rfl))) hce hcv hcl ?_
    · have ez := List.mem_singleton.mp hz
      subst ez
      exact ⟨by decide, exN 3, hts (.classLink RL 28 "java/lang/IndexOutOfBoundsException") (List.mem_of_getElem? (i := 1) rfl), hN.2.1⟩
    · refine lv_astore_n (lv' := [(3, .ref q9), (0, .ref (b 0)), (1, .int p1), (2, .ref o)]) hx hb dL_restore_15 rfl hl (by decide) rfl (fun ls hl => ?_)
      exact wr_hand (q := (2, qs)) (k := 2) hx hb hr hlocks hK hq rfl hP2 hD2 hS2 (by decide) dL_restore_16 dL_restore_17
