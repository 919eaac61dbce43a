def gE {T T' : Type} (D : va_G) (Wf : T → va_W) (Wc : T' → va_W) (σ : T) (τ : T') (put : T' → T) : Prop := ∀ (A0 : Nat → Prop) (H : Heap), va_P D vwCl (Wf σ) H → va_D A0 (Wf σ) → (∀ q, H.size ≤ q → A0 q) → va_P D vwCl (Wc τ) H ∧ va_D A0 (Wc τ) ∧ (∀ q, va_A (Wc τ) H.size q → A0 q) ∧ ∀ (H1 : Heap) (u : T'), (∀ q : Nat, q < H.size → ¬ va_A (Wc τ) H.size q → H1[q]? = H[q]?) → va_P D vwCl (Wc u) H1 → va_D (va_A (Wc τ) H.size) (Wc u) → va_P D vwCl (Wf (put u)) H1 ∧ va_D A0 (Wf (put u))
/-- the callee's world is the caller's -/
theorem gE.same {T : Type} {D : va_G} {Wf : T → va_W} {σ : T} : gE D Wf Wf σ σ (fun u => u) := by
  intro A0 H hP hD hA
  have hF : ∀ q, va_A (Wf σ) H.size q → A0 q := by
    rintro q (⟨k, e, h⟩ | h)
    · exact hD.2 k (q, e) h
    · exact hA q h
  exact ⟨hP, hD, hF, fun H1 u _ hP1 hD1 => ⟨hP1, hD1.weaken (fun k q _ h => hF q.1 h)⟩⟩
/-- the callee has no world -/
theorem gE.nil {T T' : Type} {D : va_G} {Wf : T → va_W} {σ : T} {τ : T'} : gE D Wf (fun _ => []) σ τ (fun _ => σ) := by
  intro A0 H hP hD hA
  refine ⟨fun k q h => by simp at h, ⟨fun i j p q h => by simp at h, fun k q h => by simp at h⟩, ?_, fun H1 u hk _ _ => ⟨hP.kept (fun k q h => ?_), hD⟩⟩
  · rintro q (⟨k, e, h⟩ | h)
    · simp at h
    · exact hA q h
  · refine hk _ ((hP k q h).lt) ?_
    rintro (⟨k2, e, h2⟩ | h2)
    · simp at h2
    · exact absurd ((hP k q h).lt) (Nat.not_lt.mpr h2)
/-- the callee's cells at the places isC of the caller's, the rest wr, and how the new list lies in what comes back -/
theorem gE.of {T T' : Type} {D : va_G} {Wf : T → va_W} {Wc : T' → va_W} {σ : T} {τ : T'} {put : T' → T} {wr : va_W} (isC isR js : List Nat) (hC : isC.map (fun i => (Wf σ)[i]?) = (Wc τ).map some) (hR : isR.map (fun i => (Wf σ)[i]?) = wr.map some) (hn : va_nd isR = true) (hnC : va_nd isC = true) (hdis : ∀ i ∈ isR, i ∉ isC) (hnj : va_nd js = true) (hj : ∀ u, js.map (fun i => (wr ++ Wc u)[i]?) = (Wf (put u)).map some) : gE D Wf Wc σ τ put := by
  intro A0 H hP hD hA
  have back : ∀ {is : List Nat} {w ww : va_W}, is.map (fun i => ww[i]?) = w.map some → w = is.filterMap (fun i => ww[i]?) := by
    intro is w ww h
    have := congrArg (List.filterMap id) h
    rw [List.filterMap_map, List.filterMap_map] at this
    simpa [Function.comp_def] using this.symm
  have hF : ∀ q, va_A (Wc τ) H.size q → A0 q := by
    rintro q (⟨k, e, h⟩ | h)
    · exact (hD.sub isC hnC hC).2 k (q, e) h
    · exact hA q h
  refine ⟨hP.sub isC (back hC).symm, hD.sub isC hnC hC, hF, fun H1 u hk hP1 hD1 => ?_⟩
  obtain ⟨hP2, hD2⟩ := va_join hP hD isC isR hC hR hn hdis hk hF hP1 hD1
  exact ⟨hP2.sub js (back (hj u)).symm, hD2.sub js hnj (hj u)⟩
theorem gPre_blind {T : Type} {D : va_G} {tys : List (ClassId × FieldType)} {Wf : T → va_W} {argv : List Value} {σ : T} {sz : Nat} : FrameBlind (gPre D tys Wf argv σ sz) := by
  intro a U g mk q
  obtain ⟨q0, q1, qP, qK, qD⟩ := q
  exact ⟨q0, q1, qP, gK.same (u := U) (U := U.calling g mk a) rfl qK, qD⟩
section GCL
variable {R T T' : Type} {l : Launch} {rm : Room} {own : String} {cc : ByteArray} {Ts : List Cond} {nL : Nat} {D : va_G} {tys : List (ClassId × FieldType)} {Wf : T → va_W} {rt : ByteArray → R → Nat → List Value → T → Prop} {g : Option R → Nat → List (Nat × Value) → List Value → T → Prop} {pc : Nat} {lv : List (Nat × Value)} {rest st : List Value} {σ : T}
variable {y : MethodName} {bytes : ByteArray} {maxL n index : Nat} {ret : Option FieldType} {ws ws' : List Cond} {rmc : Room} {Wc : T' → va_W} {τ : T'} {put : T' → T} {As : List Value} {b ci : Nat} {fs : List Value} {Cn host : String}
theorem g_callVi (C : gC l rm own cc Ts nL D tys Wf rt g) {f : Option (Int32 × T')} {X : Int32 × T' → Option R} (hM : ∀ r, f = some r → gMi l y ws rmc D tys Wc (.ref b :: As) τ r) (hE : gE D Wf Wc σ τ put) (hG : GoodIn Ts (wsV own index Cn y ws)) (hw : ws = Cond.code y bytes maxL ret :: ws') (hd : y.cls = Cn ∧ y.cls ≠ "java/lang/invoke/MethodHandle" ∧ y.cls ≠ "java/lang/invoke/VarHandle" ∧ (parseMethodDescriptor y.desc).map (fun d => d.parameters.length) = some n) (hR : rmc.frames + 1 ≤ rm.frames ∧ 8 + (maxL + 11) + rmc.locals ≤ rm.locals ∧ rmc.cells = 0 ∧ rmc.slots = 0) (q0 : Nat) (he : (Wc τ)[q0]? = some (b, .inr (ci, fs))) {TT : u_T} {N : Nat} (hc : vwCl[ci]? = some (Cn, TT, N)) (hn : As.length = n) (hst : st = As.reverse ++ .ref b :: rest) (hW : (rest.map fun v => v.category).sum ≤ 8) (d : decode cc pc = .ok (.invokevirtual index, 3)) (k : ∀ r, f = some r → g (X r) (pc + 3) lv (.int r.1 :: rest) (put r.2)) : g (f.bind X) pc lv st σ := by
  obtain ⟨p, e, s, m, args, below, meth, c, A, Q, res, hx, hb, hml, hown, hts, hK, hA, rfl, hret⟩ := C
  intro hres H locs ls hP hD hS hl
  obtain ⟨r, hf, hX⟩ := Option.bind_eq_some_iff.mp hres
  obtain ⟨hPc, hDc, hFc, hback⟩ := hE A H hP hD (fun q h => hA q (Nat.le_trans hS.1 h))
  subst hst
  refine va_calli (va_runV (As := As) (rest := rest) ⟨hx, hb, hml, hown, hts⟩ (hM r hf H.size) (cwV n hts hG hw hR.2.2.1 hR.2.2.2 hd ⟨hR.1, hR.2.1⟩) ⟨gPre_blind, va_recv hK.1 hPc hc he, fun U hU hW9 => ⟨rfl, by rw [hU], by rw [hU]; exact hPc, hK.movedW hW9, hDc.weaken (fun _ _ _ _ => trivial)⟩⟩ rfl hn hl.1 rfl (lv_room hW) d ⟨Nat.zero_le _, Nat.zero_le _⟩) hS (fun q _ h => hFc q h) hFc (fun v u t H1 locs1 ht hvm hw9 hB hz1 hk1 hS1 => ?_)
  obtain ⟨hP1, hK1, hD1⟩ := hB
  rw [ht] at hP1
  obtain ⟨hP2, hD2⟩ := hback H1 u hk1 hP1 hD1
  have h := k r hf hX H1 locs1 ls
  rw [hw9] at h
  exact h hP2 hD2 hS1 hl
theorem g_callVl (C : gC l rm own cc Ts nL D tys Wf rt g) {f : Option (Int64 × T')} {X : Int64 × T' → Option R} (hM : ∀ r, f = some r → gMl l y ws rmc D tys Wc (.ref b :: As) τ r) (hE : gE D Wf Wc σ τ put) (hG : GoodIn Ts (wsV own index Cn y ws)) (hw : ws = Cond.code y bytes maxL ret :: ws') (hd : y.cls = Cn ∧ y.cls ≠ "java/lang/invoke/MethodHandle" ∧ y.cls ≠ "java/lang/invoke/VarHandle" ∧ (parseMethodDescriptor y.desc).map (fun d => d.parameters.length) = some n) (hR : rmc.frames + 1 ≤ rm.frames ∧ 8 + (maxL + 11) + rmc.locals ≤ rm.locals ∧ rmc.cells = 0 ∧ rmc.slots = 0) (q0 : Nat) (he : (Wc τ)[q0]? = some (b, .inr (ci, fs))) {TT : u_T} {N : Nat} (hc : vwCl[ci]? = some (Cn, TT, N)) (hn : As.length = n) (hst : st = As.reverse ++ .ref b :: rest) (hW : (rest.map fun v => v.category).sum ≤ 8) (d : decode cc pc = .ok (.invokevirtual index, 3)) (k : ∀ r, f = some r → g (X r) (pc + 3) lv (.long r.1 :: rest) (put r.2)) : g (f.bind X) pc lv st σ := by
  obtain ⟨p, e, s, m, args, below, meth, c, A, Q, res, hx, hb, hml, hown, hts, hK, hA, rfl, hret⟩ := C
  intro hres H locs ls hP hD hS hl
  obtain ⟨r, hf, hX⟩ := Option.bind_eq_some_iff.mp hres
  obtain ⟨hPc, hDc, hFc, hback⟩ := hE A H hP hD (fun q h => hA q (Nat.le_trans hS.1 h))
  subst hst
  refine va_calll (va_runV (As := As) (rest := rest) ⟨hx, hb, hml, hown, hts⟩ (hM r hf H.size) (cwV n hts hG hw hR.2.2.1 hR.2.2.2 hd ⟨hR.1, hR.2.1⟩) ⟨gPre_blind, va_recv hK.1 hPc hc he, fun U hU hW9 => ⟨rfl, by rw [hU], by rw [hU]; exact hPc, hK.movedW hW9, hDc.weaken (fun _ _ _ _ => trivial)⟩⟩ rfl hn hl.1 rfl (lv_room hW) d ⟨Nat.zero_le _, Nat.zero_le _⟩) hS (fun q _ h => hFc q h) hFc (fun v u t H1 locs1 ht hvm hw9 hB hz1 hk1 hS1 => ?_)
  obtain ⟨hP1, hK1, hD1⟩ := hB
  rw [ht] at hP1
  obtain ⟨hP2, hD2⟩ := hback H1 u hk1 hP1 hD1
  have h := k r hf hX H1 locs1 ls
  rw [hw9] at h
  exact h hP2 hD2 hS1 hl
theorem g_callVv (C : gC l rm own cc Ts nL D tys Wf rt g) {f : Option (T')} {X : T' → Option R} (hM : ∀ r, f = some r → gMv l y ws rmc D tys Wc (.ref b :: As) τ r) (hE : gE D Wf Wc σ τ put) (hG : GoodIn Ts (wsV own index Cn y ws)) (hw : ws = Cond.code y bytes maxL ret :: ws') (hd : y.cls = Cn ∧ y.cls ≠ "java/lang/invoke/MethodHandle" ∧ y.cls ≠ "java/lang/invoke/VarHandle" ∧ (parseMethodDescriptor y.desc).map (fun d => d.parameters.length) = some n) (hR : rmc.frames + 1 ≤ rm.frames ∧ 8 + (maxL + 11) + rmc.locals ≤ rm.locals ∧ rmc.cells = 0 ∧ rmc.slots = 0) (q0 : Nat) (he : (Wc τ)[q0]? = some (b, .inr (ci, fs))) {TT : u_T} {N : Nat} (hc : vwCl[ci]? = some (Cn, TT, N)) (hn : As.length = n) (hst : st = As.reverse ++ .ref b :: rest) (hW : (rest.map fun v => v.category).sum ≤ 8) (d : decode cc pc = .ok (.invokevirtual index, 3)) (k : ∀ r, f = some r → g (X r) (pc + 3) lv (rest) (put r)) : g (f.bind X) pc lv st σ := by
  obtain ⟨p, e, s, m, args, below, meth, c, A, Q, res, hx, hb, hml, hown, hts, hK, hA, rfl, hret⟩ := C
  intro hres H locs ls hP hD hS hl
  obtain ⟨r, hf, hX⟩ := Option.bind_eq_some_iff.mp hres
  obtain ⟨hPc, hDc, hFc, hback⟩ := hE A H hP hD (fun q h => hA q (Nat.le_trans hS.1 h))
  subst hst
  refine va_callv (va_runV (As := As) (rest := rest) ⟨hx, hb, hml, hown, hts⟩ (hM r hf H.size) (cwV n hts hG hw hR.2.2.1 hR.2.2.2 hd ⟨hR.1, hR.2.1⟩) ⟨gPre_blind, va_recv hK.1 hPc hc he, fun U hU hW9 => ⟨rfl, by rw [hU], by rw [hU]; exact hPc, hK.movedW hW9, hDc.weaken (fun _ _ _ _ => trivial)⟩⟩ rfl hn hl.1 rfl (lv_room hW) d ⟨Nat.zero_le _, Nat.zero_le _⟩) hS (fun q _ h => hFc q h) hFc (fun u t H1 locs1 ht hvm hw9 hB hz1 hk1 hS1 => ?_)
  obtain ⟨hP1, hK1, hD1⟩ := hB
  rw [ht] at hP1
  obtain ⟨hP2, hD2⟩ := hback H1 u hk1 hP1 hD1
  have h := k r hf hX H1 locs1 ls
  rw [hw9] at h
  exact h hP2 hD2 hS1 hl
theorem g_callSi (C : gC l rm own cc Ts nL D tys Wf rt g) {f : Option (Int32 × T')} {X : Int32 × T' → Option R} (hM : ∀ r, f = some r → gMi l y ws rmc D tys Wc As τ r) (hE : gE D Wf Wc σ τ put) (hG : GoodIn Ts (va_wsS own index y ws)) (hw : ws = Cond.code y bytes maxL ret :: ws') (hd : y.cls ≠ "java/lang/invoke/MethodHandle" ∧ y.cls ≠ "java/lang/invoke/VarHandle" ∧ (parseMethodDescriptor y.desc).map (fun d => d.parameters.length) = some n) (hR : rmc.frames + 1 ≤ rm.frames ∧ 8 + (maxL + 11) + rmc.locals ≤ rm.locals ∧ rmc.cells = 0 ∧ rmc.slots = 0) (hn : As.length = n) (hst : st = As.reverse ++ rest) (hW : (rest.map fun v => v.category).sum ≤ 8) (d : decode cc pc = .ok (.invokestatic index, 3)) (k : ∀ r, f = some r → g (X r) (pc + 3) lv (.int r.1 :: rest) (put r.2)) : g (f.bind X) pc lv st σ := by
  obtain ⟨p, e, s, m, args, below, meth, c, A, Q, res, hx, hb, hml, hown, hts, hK, hA, rfl, hret⟩ := C
  intro hres H locs ls hP hD hS hl
  obtain ⟨r, hf, hX⟩ := Option.bind_eq_some_iff.mp hres
  obtain ⟨hPc, hDc, hFc, hback⟩ := hE A H hP hD (fun q h => hA q (Nat.le_trans hS.1 h))
  subst hst
  refine va_calli (va_runS (As := As) (rest := rest) ⟨hx, hb, hml, hown, hts⟩ (hM r hf H.size) (va_cwS n hts hG hw hR.2.2.1 hR.2.2.2 hd ⟨hR.1, hR.2.1⟩) ⟨gPre_blind, fun U hU hW9 => ⟨rfl, by rw [hU], by rw [hU]; exact hPc, hK.movedW hW9, hDc.weaken (fun _ _ _ _ => trivial)⟩⟩ rfl hn hl.1 rfl (lv_room hW) d ⟨Nat.zero_le _, Nat.zero_le _⟩) hS (fun q _ h => hFc q h) hFc (fun v u t H1 locs1 ht hvm hw9 hB hz1 hk1 hS1 => ?_)
  obtain ⟨hP1, hK1, hD1⟩ := hB
  rw [ht] at hP1
  obtain ⟨hP2, hD2⟩ := hback H1 u hk1 hP1 hD1
  have h := k r hf hX H1 locs1 ls
  rw [hw9] at h
  exact h hP2 hD2 hS1 hl
theorem g_callSl (C : gC l rm own cc Ts nL D tys Wf rt g) {f : Option (Int64 × T')} {X : Int64 × T' → Option R} (hM : ∀ r, f = some r → gMl l y ws rmc D tys Wc As τ r) (hE : gE D Wf Wc σ τ put) (hG : GoodIn Ts (va_wsS own index y ws)) (hw : ws = Cond.code y bytes maxL ret :: ws') (hd : y.cls ≠ "java/lang/invoke/MethodHandle" ∧ y.cls ≠ "java/lang/invoke/VarHandle" ∧ (parseMethodDescriptor y.desc).map (fun d => d.parameters.length) = some n) (hR : rmc.frames + 1 ≤ rm.frames ∧ 8 + (maxL + 11) + rmc.locals ≤ rm.locals ∧ rmc.cells = 0 ∧ rmc.slots = 0) (hn : As.length = n) (hst : st = As.reverse ++ rest) (hW : (rest.map fun v => v.category).sum ≤ 8) (d : decode cc pc = .ok (.invokestatic index, 3)) (k : ∀ r, f = some r → g (X r) (pc + 3) lv (.long r.1 :: rest) (put r.2)) : g (f.bind X) pc lv st σ := by
  obtain ⟨p, e, s, m, args, below, meth, c, A, Q, res, hx, hb, hml, hown, hts, hK, hA, rfl, hret⟩ := C
  intro hres H locs ls hP hD hS hl
  obtain ⟨r, hf, hX⟩ := Option.bind_eq_some_iff.mp hres
  obtain ⟨hPc, hDc, hFc, hback⟩ := hE A H hP hD (fun q h => hA q (Nat.le_trans hS.1 h))
  subst hst
  refine va_calll (va_runS (As := As) (rest := rest) ⟨hx, hb, hml, hown, hts⟩ (hM r hf H.size) (va_cwS n hts hG hw hR.2.2.1 hR.2.2.2 hd ⟨hR.1, hR.2.1⟩) ⟨gPre_blind, fun U hU hW9 => ⟨rfl, by rw [hU], by rw [hU]; exact hPc, hK.movedW hW9, hDc.weaken (fun _ _ _ _ => trivial)⟩⟩ rfl hn hl.1 rfl (lv_room hW) d ⟨Nat.zero_le _, Nat.zero_le _⟩) hS (fun q _ h => hFc q h) hFc (fun v u t H1 locs1 ht hvm hw9 hB hz1 hk1 hS1 => ?_)
  obtain ⟨hP1, hK1, hD1⟩ := hB
  rw [ht] at hP1
  obtain ⟨hP2, hD2⟩ := hback H1 u hk1 hP1 hD1
  have h := k r hf hX H1 locs1 ls
  rw [hw9] at h
  exact h hP2 hD2 hS1 hl
theorem g_callSv (C : gC l rm own cc Ts nL D tys Wf rt g) {f : Option (T')} {X : T' → Option R} (hM : ∀ r, f = some r → gMv l y ws rmc D tys Wc As τ r) (hE : gE D Wf Wc σ τ put) (hG : GoodIn Ts (va_wsS own index y ws)) (hw : ws = Cond.code y bytes maxL ret :: ws') (hd : y.cls ≠ "java/lang/invoke/MethodHandle" ∧ y.cls ≠ "java/lang/invoke/VarHandle" ∧ (parseMethodDescriptor y.desc).map (fun d => d.parameters.length) = some n) (hR : rmc.frames + 1 ≤ rm.frames ∧ 8 + (maxL + 11) + rmc.locals ≤ rm.locals ∧ rmc.cells = 0 ∧ rmc.slots = 0) (hn : As.length = n) (hst : st = As.reverse ++ rest) (hW : (rest.map fun v => v.category).sum ≤ 8) (d : decode cc pc = .ok (.invokestatic index, 3)) (k : ∀ r, f = some r → g (X r) (pc + 3) lv (rest) (put r)) : g (f.bind X) pc lv st σ := by
  obtain ⟨p, e, s, m, args, below, meth, c, A, Q, res, hx, hb, hml, hown, hts, hK, hA, rfl, hret⟩ := C
  intro hres H locs ls hP hD hS hl
  obtain ⟨r, hf, hX⟩ := Option.bind_eq_some_iff.mp hres
  obtain ⟨hPc, hDc, hFc, hback⟩ := hE A H hP hD (fun q h => hA q (Nat.le_trans hS.1 h))
  subst hst
  refine va_callv (va_runS (As := As) (rest := rest) ⟨hx, hb, hml, hown, hts⟩ (hM r hf H.size) (va_cwS n hts hG hw hR.2.2.1 hR.2.2.2 hd ⟨hR.1, hR.2.1⟩) ⟨gPre_blind, fun U hU hW9 => ⟨rfl, by rw [hU], by rw [hU]; exact hPc, hK.movedW hW9, hDc.weaken (fun _ _ _ _ => trivial)⟩⟩ rfl hn hl.1 rfl (lv_room hW) d ⟨Nat.zero_le _, Nat.zero_le _⟩) hS (fun q _ h => hFc q h) hFc (fun u t H1 locs1 ht hvm hw9 hB hz1 hk1 hS1 => ?_)
  obtain ⟨hP1, hK1, hD1⟩ := hB
  rw [ht] at hP1
  obtain ⟨hP2, hD2⟩ := hback H1 u hk1 hP1 hD1
  have h := k r hf hX H1 locs1 ls
  rw [hw9] at h
  exact h hP2 hD2 hS1 hl
theorem g_callNi (C : gC l rm own cc Ts nL D tys Wf rt g) {f : Option (Int32 × T')} {X : Int32 × T' → Option R} (hM : ∀ r, f = some r → gMi l y ws rmc D tys Wc As τ r) (hE : gE D Wf Wc σ τ put) (hG : GoodIn Ts ws) (hNw : Cond.methodLinkNest own index y host ∈ nestWs) (hini : Cond.initialized y.cls ∈ Ts) (hstat : Cond.static y ∈ Ts) (hw : ws = Cond.code y bytes maxL ret :: ws') (hd : y.cls ≠ "java/lang/invoke/MethodHandle" ∧ y.cls ≠ "java/lang/invoke/VarHandle" ∧ (parseMethodDescriptor y.desc).map (fun d => d.parameters.length) = some n) (hR : rmc.frames + 1 ≤ rm.frames ∧ 8 + (maxL + 11) + rmc.locals ≤ rm.locals ∧ rmc.cells = 0 ∧ rmc.slots = 0) (hn : As.length = n) (hst : st = As.reverse ++ rest) (hW : (rest.map fun v => v.category).sum ≤ 8) (d : decode cc pc = .ok (.invokestatic index, 3)) (k : ∀ r, f = some r → g (X r) (pc + 3) lv (.int r.1 :: rest) (put r.2)) : g (f.bind X) pc lv st σ := by
  obtain ⟨p, e, s, m, args, below, meth, c, A, Q, res, hx, hb, hml, hown, hts, hK, hA, rfl, hret⟩ := C
  intro hres H locs ls hP hD hS hl
  obtain ⟨r, hf, hX⟩ := Option.bind_eq_some_iff.mp hres
  obtain ⟨hPc, hDc, hFc, hback⟩ := hE A H hP hD (fun q h => hA q (Nat.le_trans hS.1 h))
  subst hst
  refine va_calli (va_runSN (As := As) (rest := rest) ⟨hx, hb, hml, hown, hts⟩ (hM r hf H.size) ⟨va_cnB n hts hG hw hR.2.2.1 hR.2.2.2 (hK.2 _ hNw) (hts _ hini) hd ⟨hR.1, hR.2.1⟩, hts _ hstat, trivial⟩ ⟨gPre_blind, fun U hU hW9 => ⟨rfl, by rw [hU], by rw [hU]; exact hPc, hK.movedW hW9, hDc.weaken (fun _ _ _ _ => trivial)⟩⟩ rfl hn hl.1 rfl (lv_room hW) d ⟨Nat.zero_le _, Nat.zero_le _⟩) hS (fun q _ h => hFc q h) hFc (fun v u t H1 locs1 ht hvm hw9 hB hz1 hk1 hS1 => ?_)
  obtain ⟨hP1, hK1, hD1⟩ := hB
  rw [ht] at hP1
  obtain ⟨hP2, hD2⟩ := hback H1 u hk1 hP1 hD1
  have h := k r hf hX H1 locs1 ls
  rw [hw9] at h
  exact h hP2 hD2 hS1 hl
theorem g_callNl (C : gC l rm own cc Ts nL D tys Wf rt g) {f : Option (Int64 × T')} {X : Int64 × T' → Option R} (hM : ∀ r, f = some r → gMl l y ws rmc D tys Wc As τ r) (hE : gE D Wf Wc σ τ put) (hG : GoodIn Ts ws) (hNw : Cond.methodLinkNest own index y host ∈ nestWs) (hini : Cond.initialized y.cls ∈ Ts) (hstat : Cond.static y ∈ Ts) (hw : ws = Cond.code y bytes maxL ret :: ws') (hd : y.cls ≠ "java/lang/invoke/MethodHandle" ∧ y.cls ≠ "java/lang/invoke/VarHandle" ∧ (parseMethodDescriptor y.desc).map (fun d => d.parameters.length) = some n) (hR : rmc.frames + 1 ≤ rm.frames ∧ 8 + (maxL + 11) + rmc.locals ≤ rm.locals ∧ rmc.cells = 0 ∧ rmc.slots = 0) (hn : As.length = n) (hst : st = As.reverse ++ rest) (hW : (rest.map fun v => v.category).sum ≤ 8) (d : decode cc pc = .ok (.invokestatic index, 3)) (k : ∀ r, f = some r → g (X r) (pc + 3) lv (.long r.1 :: rest) (put r.2)) : g (f.bind X) pc lv st σ := by
  obtain ⟨p, e, s, m, args, below, meth, c, A, Q, res, hx, hb, hml, hown, hts, hK, hA, rfl, hret⟩ := C
  intro hres H locs ls hP hD hS hl
  obtain ⟨r, hf, hX⟩ := Option.bind_eq_some_iff.mp hres
  obtain ⟨hPc, hDc, hFc, hback⟩ := hE A H hP hD (fun q h => hA q (Nat.le_trans hS.1 h))
  subst hst
  refine va_calll (va_runSN (As := As) (rest := rest) ⟨hx, hb, hml, hown, hts⟩ (hM r hf H.size) ⟨va_cnB n hts hG hw hR.2.2.1 hR.2.2.2 (hK.2 _ hNw) (hts _ hini) hd ⟨hR.1, hR.2.1⟩, hts _ hstat, trivial⟩ ⟨gPre_blind, fun U hU hW9 => ⟨rfl, by rw [hU], by rw [hU]; exact hPc, hK.movedW hW9, hDc.weaken (fun _ _ _ _ => trivial)⟩⟩ rfl hn hl.1 rfl (lv_room hW) d ⟨Nat.zero_le _, Nat.zero_le _⟩) hS (fun q _ h => hFc q h) hFc (fun v u t H1 locs1 ht hvm hw9 hB hz1 hk1 hS1 => ?_)
  obtain ⟨hP1, hK1, hD1⟩ := hB
  rw [ht] at hP1
  obtain ⟨hP2, hD2⟩ := hback H1 u hk1 hP1 hD1
  have h := k r hf hX H1 locs1 ls
  rw [hw9] at h
  exact h hP2 hD2 hS1 hl
theorem g_callNv (C : gC l rm own cc Ts nL D tys Wf rt g) {f : Option (T')} {X : T' → Option R} (hM : ∀ r, f = some r → gMv l y ws rmc D tys Wc As τ r) (hE : gE D Wf Wc σ τ put) (hG : GoodIn Ts ws) (hNw : Cond.methodLinkNest own index y host ∈ nestWs) (hini : Cond.initialized y.cls ∈ Ts) (hstat : Cond.static y ∈ Ts) (hw : ws = Cond.code y bytes maxL ret :: ws') (hd : y.cls ≠ "java/lang/invoke/MethodHandle" ∧ y.cls ≠ "java/lang/invoke/VarHandle" ∧ (parseMethodDescriptor y.desc).map (fun d => d.parameters.length) = some n) (hR : rmc.frames + 1 ≤ rm.frames ∧ 8 + (maxL + 11) + rmc.locals ≤ rm.locals ∧ rmc.cells = 0 ∧ rmc.slots = 0) (hn : As.length = n) (hst : st = As.reverse ++ rest) (hW : (rest.map fun v => v.category).sum ≤ 8) (d : decode cc pc = .ok (.invokestatic index, 3)) (k : ∀ r, f = some r → g (X r) (pc + 3) lv (rest) (put r)) : g (f.bind X) pc lv st σ := by
  obtain ⟨p, e, s, m, args, below, meth, c, A, Q, res, hx, hb, hml, hown, hts, hK, hA, rfl, hret⟩ := C
  intro hres H locs ls hP hD hS hl
  obtain ⟨r, hf, hX⟩ := Option.bind_eq_some_iff.mp hres
  obtain ⟨hPc, hDc, hFc, hback⟩ := hE A H hP hD (fun q h => hA q (Nat.le_trans hS.1 h))
  subst hst
  refine va_callv (va_runSN (As := As) (rest := rest) ⟨hx, hb, hml, hown, hts⟩ (hM r hf H.size) ⟨va_cnB n hts hG hw hR.2.2.1 hR.2.2.2 (hK.2 _ hNw) (hts _ hini) hd ⟨hR.1, hR.2.1⟩, hts _ hstat, trivial⟩ ⟨gPre_blind, fun U hU hW9 => ⟨rfl, by rw [hU], by rw [hU]; exact hPc, hK.movedW hW9, hDc.weaken (fun _ _ _ _ => trivial)⟩⟩ rfl hn hl.1 rfl (lv_room hW) d ⟨Nat.zero_le _, Nat.zero_le _⟩) hS (fun q _ h => hFc q h) hFc (fun u t H1 locs1 ht hvm hw9 hB hz1 hk1 hS1 => ?_)
  obtain ⟨hP1, hK1, hD1⟩ := hB
  rw [ht] at hP1
  obtain ⟨hP2, hD2⟩ := hback H1 u hk1 hP1 hD1
  have h := k r hf hX H1 locs1 ls
  rw [hw9] at h
  exact h hP2 hD2 hS1 hl
end GCL
