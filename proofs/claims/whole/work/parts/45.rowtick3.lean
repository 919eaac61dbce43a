section RT4
variable {T : Nat}
theorem Inv_read {A : AS} (h : Inv T A) {g b : Nat} (hg : g < 3) (hb : b < 20) : Inv T (aReadAt A g b) := by
  unfold aReadAt
  split
  · rename_i hc
    have hc2 : A.1 3 b = 0 := by
      unfold aCounts at hc
      simp only [Bool.and_eq_true, decide_eq_true_eq] at hc
      exact hc.2.1
    split
    · exact Inv_aS h (by omega)
    · have h1 := Inv_aS h (k := 2) (i := b) (x := A.1 2 b + 1) (by omega)
      have h3 : (aS A 2 b (A.1 2 b + 1)).1 3 b = 0 := by
        rw [aS_1, st_ne (by omega)]; exact hc2
      generalize aS A 2 b (A.1 2 b + 1) = B at h1 h3
      obtain ⟨i1, i2, i3, i4, i5, i6, i7⟩ := h1
      have s : ∀ k' j', k' ≠ 3 → (aPush (aS B 3 b 1) g b).1 k' j' = B.1 k' j' := fun k' j' e => by rw [aPush_1, aS_1, st_ne (Or.inl e)]
      have s3 : ∀ j', (aPush (aS B 3 b 1) g b).1 3 j' = if j' = b then 1 else B.1 3 j' := fun j' => by
        show st2 B.1 3 b 1 3 j' = _
        by_cases e : j' = b
        · rw [st_eq rfl e, if_pos e]
        · rw [st_ne (Or.inr e), if_neg e]
      have hno : ∀ g', g' < 3 → b ∉ B.2.1 g' := fun g' hg' hm => by
        have := (i4 g' b hg' hm).2
        rw [h3] at this
        exact absurd this (by decide)
      refine ⟨fun b' hb' => ?_, fun b' hb' => ?_, fun v hv => ?_, fun g' x hg' hx => ?_, ?_, i6, fun b' hb' => ?_⟩
      · rw [s 0 b' (by decide)]; exact i1 b' hb'
      · rw [s 1 b' (by decide), s3]
        refine ⟨(i2 b' hb').1, ?_⟩
        by_cases e : b' = b
        · rw [if_pos e]; exact Or.inr rfl
        · rw [if_neg e]; exact (i2 b' hb').2
      · rw [s 5 v (by decide), s 6 v (by decide), s 8 v (by decide)]; exact i3 v hv
      · have hx' : x ∈ (if g' = g then B.2.1 g ++ [b] else B.2.1 g') := hx
        rw [s3]
        by_cases e : g' = g
        · rw [if_pos e] at hx'
          rcases List.mem_append.mp hx' with q | q
          · have := i4 g x hg q
            by_cases e2 : x = b
            · rw [if_pos e2]; exact ⟨this.1, rfl⟩
            · rw [if_neg e2]; exact this
          · have : x = b := by simpa using q
            rw [if_pos this]; exact ⟨by omega, rfl⟩
        · rw [if_neg e] at hx'
          have := i4 g' x hg' hx'
          by_cases e2 : x = b
          · rw [if_pos e2]; exact ⟨this.1, rfl⟩
          · rw [if_neg e2]; exact this
      · have n0 := hno 0 (by decide)
        have n1 := hno 1 (by decide)
        have n2 := hno 2 (by decide)
        have e0 : (aPush (aS B 3 b 1) g b).2.1 0 = if 0 = g then B.2.1 g ++ [b] else B.2.1 0 := rfl
        have e1 : (aPush (aS B 3 b 1) g b).2.1 1 = if 1 = g then B.2.1 g ++ [b] else B.2.1 1 := rfl
        have e2 : (aPush (aS B 3 b 1) g b).2.1 2 = if 2 = g then B.2.1 g ++ [b] else B.2.1 2 := rfl
        rw [e0, e1, e2]
        have hp : ∀ l : List Nat, l.Perm (b :: (B.2.1 0 ++ (B.2.1 1 ++ B.2.1 2))) → l.Nodup := fun l hl => hl.nodup_iff.mpr (List.nodup_cons.mpr ⟨by simp [n0, n1, n2], i5⟩)
        rcases (by omega : g = 0 ∨ g = 1 ∨ g = 2) with rfl | rfl | rfl
        · refine hp _ ?_
          simp only [if_true]
          rw [if_neg (by decide), if_neg (by decide), List.append_assoc]
          exact List.perm_middle
        · refine hp _ ?_
          simp only [if_true]
          rw [if_neg (by decide), if_neg (by decide)]
          have := List.perm_middle (a := b) (l₁ := B.2.1 0 ++ B.2.1 1) (l₂ := B.2.1 2)
          simp only [List.append_assoc, List.cons_append, List.nil_append] at this ⊢
          exact this
        · refine hp _ ?_
          simp only [if_true]
          rw [if_neg (by decide), if_neg (by decide)]
          have := List.perm_middle (a := b) (l₁ := B.2.1 0 ++ (B.2.1 1 ++ B.2.1 2)) (l₂ := [])
          simp only [List.append_assoc, List.cons_append, List.nil_append, List.append_nil] at this ⊢
          exact this
      · rw [s 4 b' (by decide)]; exact i7 b' hb'
  · exact h
theorem aS_self (A : AS) (k i : Nat) : aS A k i (A.1 k i) = A := by
  unfold aS
  have : st2 A.1 k i (A.1 k i) = A.1 := by
    funext k' i'
    by_cases e : k' = k ∧ i' = i
    · rw [st_eq e.1 e.2, e.1, e.2]
    · rw [st_ne (by omega)]
  rw [this]
theorem aS_self' (A : AS) (k i : Nat) {x : Int32} (h : x = A.1 k i) : aS A k i x = A := by rw [h]; exact aS_self A k i
theorem readAt66_spec {row : Nat → Int32} {A : AS} (h : RB row A) (hI : Inv T A) {g b : Nat} (hg : g < 3) (hb : b < 20) {c : Bool} (hc : aCounts A b = c) : ∃ row', fX4_readAt_L66 row (nI g) (nI b) (bI c) (nI (5 * b + 2)) (A.1 2 b) (bI c) = some row' ∧ RB row' (aReadAt A g b) := by
  have hr := RB_bk h (qlen_of hI) hI.ql (k := 2) (by omega) hb (A.1 2 b + bI c)
  simp (disch := omega) only [fX4_readAt_L66, bookAt_0, visitorAt_0, gateAt_0, bookAt_1, visitorAt_1, gateAt_1, bookAt_2, visitorAt_2, gateAt_2, bookAt_3, visitorAt_3, gateAt_3, bookAt_4, visitorAt_4, gateAt_4, gl, Option.bind_some, gd_in, cl_nI, cl_0, cl_1, cl_2, cl_196, cl_197, cl_198, cl_199, cl_200, cl_201, cl_202, cl_203, cl_204, cl_205]
  cases c with
  | false =>
    rw [if_pos (show bI false = 0 from rfl)]
    refine ⟨_, rfl, ?_⟩
    have e : aReadAt A g b = A := by unfold aReadAt; rw [hc]; rfl
    rw [e]
    have e2 : A.1 2 b + bI false = A.1 2 b := by show A.1 2 b + 0 = _; simp
    rw [e2, aS_self] at hr
    rw [e2]
    exact hr
  | true =>
    rw [if_neg (show ¬ bI true = 0 by decide)]
    have e1 : bI true = 1 := rfl
    rw [e1] at hr ⊢
    have hI1 : Inv T (aS A 2 b (A.1 2 b + 1)) := Inv_aS hI (by omega)
    have ec : aCounts A b = true := hc
    have ea : aReadAt A g b = if A.1 2 b + 1 < A.1 12 0 then aS A 2 b (A.1 2 b + 1) else aPush (aS (aS A 2 b (A.1 2 b + 1)) 3 b 1) g b := by unfold aReadAt; rw [if_pos ec]
    rw [ea]
    rw [hr.bk (by omega) hb, hr.2.2.2.2.1.1]
    have s2 : (aS A 2 b (A.1 2 b + 1)).1 2 b = A.1 2 b + 1 := by rw [aS_1, st_eq rfl rfl]
    have s12 : (aS A 2 b (A.1 2 b + 1)).1 12 0 = A.1 12 0 := by rw [aS_1, st_ne (Or.inl (by decide))]
    rw [s2, s12]
    by_cases e : A.1 2 b + 1 < A.1 12 0
    · rw [if_pos e, if_pos e]
      exact ⟨_, rfl, hr⟩
    · rw [if_neg e, if_neg e]
      have hIr := Inv_read hI hg hb
      rw [ea, if_neg e] at hIr
      have hq9 := hIr.qlen hg
      have hql : (A.2.1 g ++ [b]).length ≤ 20 := by
        have : (aPush (aS (aS A 2 b (A.1 2 b + 1)) 3 b 1) g b).2.1 g = A.2.1 g ++ [b] := by show (if g = g then _ else _) = _; rw [if_pos rfl]; rfl
        rw [this] at hq9
        exact hq9
      rw [List.length_append] at hql
      simp only [List.length_cons, List.length_nil] at hql
      have hr3 := RB_bk hr (qlen_of hI1) hI1.ql (k := 3) (by omega) hb 1
      have w2 := (hr3.2.2.1 g hg).2.2.1
      have w2' : upd (upd row (5 * b + 2) (A.1 2 b + 1)) (5 * b + 3) 1 (124 + 4 * g + 2) = nI (A.2.1 g).length := w2
      rw [w2']
      simp (disch := omega) only [row_at, nI_add, gd_in, cl_nI]
      rw [up_ne (by omega), w2']
      simp (disch := omega) only [nI_1]
      refine ⟨_, rfl, ?_⟩
      refine RB_q (row' := upd (upd (upd (upd row (5 * b + 2) (A.1 2 b + 1)) (5 * b + 3) 1) (136 + 20 * g + (A.2.1 g).length) (nI b)) (124 + 4 * g + 2) (nI ((A.2.1 g).length + 1))) hr3 (fun g hg => qlen_of hI1 g hg) hI1.ql hg (q' := A.2.1 g ++ [b]) (by simp; omega) (fun j hj1 hj2 => ?_) ?_ (fun i hi => ?_)
      · rw [up_ne hj1, up_ne (by omega)]
      · rw [up_eq rfl]; simp
      · rw [List.length_append] at hi
        simp only [List.length_cons, List.length_nil] at hi
        rw [up_ne (by omega)]
        by_cases e9 : i = (A.2.1 g).length
        · subst e9; rw [up_eq rfl, getD_append_at]
        · rw [up_ne (by omega), getD_append_l (by omega)]
          exact hr3.2.2.2.1 g i hg (by show i < (A.2.1 g).length; omega)
theorem readAt46_spec {row : Nat → Int32} {A : AS} (h : RB row A) (hI : Inv T A) {g b : Nat} (hg : g < 3) (hb : b < 20) {c : Bool} (hc : aCounts A b = c) : ∃ row', fX4_readAt_L46 row (nI g) (nI b) (bI c) = some row' ∧ RB row' (aReadAt A g b) := by
  simp (disch := omega) only [fX4_readAt_L46, bookAt_0, visitorAt_0, gateAt_0, bookAt_1, visitorAt_1, gateAt_1, bookAt_2, visitorAt_2, gateAt_2, bookAt_3, visitorAt_3, gateAt_3, bookAt_4, visitorAt_4, gateAt_4, gl, Option.bind_some, gd_in, cl_nI]
  rw [h.bk (by omega) hb]
  cases c with
  | false =>
    rw [if_pos (show bI false = 0 from rfl)]
    exact readAt66_spec h hI hg hb hc
  | true =>
    rw [if_neg (show ¬ bI true = 0 by decide)]
    exact readAt66_spec h hI hg hb hc
theorem readAt_spec {row : Nat → Int32} {A : AS} (h : RB row A) (hI : Inv T A) {g b : Nat} (hg : g < 3) (hb : b < 20) (hh : ¬ A.1 0 b = 0) : ∃ row', fX4_readAt row (nI g) (nI b) = some row' ∧ RB row' (aReadAt A g b) := by
  rcases hold_cases hI hb with ⟨e, -⟩ | ⟨v, hv, e, e1, e2, e3, -⟩
  · exact absurd e hh
  · simp (disch := omega) only [fX4_readAt, bookAt_0, visitorAt_0, gateAt_0, bookAt_1, visitorAt_1, gateAt_1, bookAt_2, visitorAt_2, gateAt_2, bookAt_3, visitorAt_3, gateAt_3, bookAt_4, visitorAt_4, gateAt_4, gl, Option.bind_some, gd_in, cl_nI]
    rw [h.bk (by omega) hb, h.bk (by omega) hb, h.bk (by omega) hb, e1]
    simp (disch := omega) only [bookAt_0, visitorAt_0, gateAt_0, bookAt_1, visitorAt_1, gateAt_1, bookAt_2, visitorAt_2, gateAt_2, bookAt_3, visitorAt_3, gateAt_3, bookAt_4, visitorAt_4, gateAt_4, Option.bind_some, gd_in, cl_nI]
    rw [h.vs (by omega) hv]
    simp only [show 5 + 3 = 8 from rfl]
    have hcn : aCounts A b = (decide (A.1 1 b = 0) && (decide (A.1 3 b = 0) && decide (A.1 8 v = 1))) := by unfold aCounts; rw [e2]
    by_cases c1 : A.1 1 b = 0
    · rw [if_pos c1]
      by_cases c2 : A.1 3 b = 0
      · rw [if_pos c2]
        by_cases c3 : A.1 8 v = 1
        · rw [if_pos c3]
          exact readAt46_spec h hI hg hb (c := true) (by rw [hcn]; simp [c1, c2, c3])
        · rw [if_neg c3]
          exact readAt46_spec h hI hg hb (c := false) (by rw [hcn]; simp [c3])
      · rw [if_neg c2]
        exact readAt46_spec h hI hg hb (c := false) (by rw [hcn]; simp [c2])
    · rw [if_neg c1]
      exact readAt46_spec h hI hg hb (c := false) (by rw [hcn]; simp [c1])
theorem Inv_readStep {A : AS} (h : Inv T A) {g b : Nat} (hg : g < 3) (hb : b < 20) : Inv T (aReadStep g A b) := by
  unfold aReadStep
  split
  · exact Inv_read h hg hb
  · exact h
theorem readL {k41 : (Nat → Int32) → Int32 → Option (Nat → Int32)} {g : Nat} (hg : g < 3) : ∀ (m b f : Nat) (row : Nat → Int32) (A : AS), b + m = 20 → m < f → RB row A → Inv T A → ∃ row', (fX4_tick_L48 k41 f row (nI g) (nI b) = k41 row' (nI (g + 1))) ∧ RB row' (fr (aReadStep g) m b A) ∧ Inv T (fr (aReadStep g) m b A) := by
  intro m
  induction m with
  | zero =>
    intro b f row A hb hf h hI
    obtain ⟨f, rfl⟩ : ∃ z, f = z + 1 := ⟨f - 1, by omega⟩
    have hb : b = 20 := by omega
    subst hb
    refine ⟨row, ?_, h, hI⟩
    simp (disch := omega) only [fX4_tick_L48, lel_3, lel_6, lel_10, lel_20, lel_120, lel_233, nI_1]
    rw [if_pos (Nat.le_refl 20)]
  | succ m ih =>
    intro b f row A hb hf h hI
    obtain ⟨f, rfl⟩ : ∃ z, f = z + 1 := ⟨f - 1, by omega⟩
    have hb2 : b < 20 := by omega
    rw [fr_succ]
    have hI2 := Inv_readStep hI hg hb2
    simp (disch := omega) only [fX4_tick_L48, lel_3, lel_6, lel_10, lel_20, lel_120, lel_233]
    rw [if_neg (by omega), readsBook_spec h hI hg hb2, Option.bind_some, nI_1]
    have ea : aReadStep g A b = if aReadsBook A g b then aReadAt A g b else A := rfl
    cases hc : aReadsBook A g b with
    | false =>
      rw [if_pos (show (bI false, row).1 = 0 from rfl)]
      rw [ea, hc] at hI2 ⊢
      exact ih (b + 1) f row A (by omega) (by omega) h hI
    | true =>
      rw [if_neg (show ¬ (bI true, row).1 = 0 from show ¬ bI true = 0 by decide)]
      have hh : ¬ A.1 0 b = 0 := by
        unfold aReadsBook at hc
        simp only [Bool.and_eq_true, Bool.not_eq_true', decide_eq_false_iff_not] at hc
        exact hc.1
      obtain ⟨row1, e1, h1⟩ := readAt_spec h hI hg hb2 hh
      rw [e1, Option.bind_some]
      rw [ea, hc] at hI2 ⊢
      exact ih (b + 1) f row1 _ (by omega) (by omega) h1 hI2
theorem readGL : ∀ (m g f : Nat) (row : Nat → Int32) (A : AS), g + m = 3 → m < f → RB row A → Inv T A → ∃ row', (fX4_tick_L41 f row (nI g) = fX4_tick_L83 gFuel row' 0) ∧ RB row' (fr aReadGate m g A) ∧ Inv T (fr aReadGate m g A) := by
  intro m
  induction m with
  | zero =>
    intro g f row A hg hf h hI
    obtain ⟨f, rfl⟩ : ∃ z, f = z + 1 := ⟨f - 1, by omega⟩
    have hg : g = 3 := by omega
    subst hg
    refine ⟨row, ?_, h, hI⟩
    simp (disch := omega) only [fX4_tick_L41, lel_3, lel_6, lel_10, lel_20, lel_120, lel_233]
    rw [if_pos (Nat.le_refl 3)]
  | succ m ih =>
    intro g f row A hg hf h hI
    obtain ⟨f, rfl⟩ : ∃ z, f = z + 1 := ⟨f - 1, by omega⟩
    rw [fr_succ]
    simp (disch := omega) only [fX4_tick_L41, lel_3, lel_6, lel_10, lel_20, lel_120, lel_233]
    rw [if_neg (by omega)]
    obtain ⟨row1, e1, h1, hI1⟩ := readL (k41 := fX4_tick_L41 f) (by omega : g < 3) 20 0 gFuel row A rfl (by decide) h hI
    have e1' : fX4_tick_L48 (fX4_tick_L41 f) gFuel row (nI g) 0 = fX4_tick_L41 f row1 (nI (g + 1)) := e1
    rw [e1']
    exact ih (g + 1) f row1 _ (by omega) (by omega) h1 hI1
end RT4
