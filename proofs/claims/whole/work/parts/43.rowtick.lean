/-! the reference's tick over a row that shows A -/
section RT
variable {row : Nat → Int32} {A : AS} {T : Nat}
theorem getD_lt {l : List Nat} {i : Nat} (h : i < l.length) : l.getD i 0 = l[i] := by
  rw [List.getD_eq_getElem?_getD, List.getElem?_eq_getElem h]; rfl
theorem take_succ_getD {l : List Nat} {k : Nat} (h : k < l.length) : l.take (k + 1) = l.take k ++ [l.getD k 0] := by
  rw [getD_lt h, List.take_succ_eq_append_getElem h]
theorem getD_append_l {l m : List Nat} {i : Nat} (h : i < l.length) : (l ++ m).getD i 0 = l.getD i 0 := by
  rw [List.getD_eq_getElem?_getD, List.getD_eq_getElem?_getD, List.getElem?_append_left h]
theorem getD_append_at {l : List Nat} {x : Nat} : (l ++ [x]).getD l.length 0 = x := by
  rw [List.getD_eq_getElem?_getD, List.getElem?_append_right (Nat.le_refl _)]; simp
/-- a gate's waiting row without b: the inner loop -/
theorem forgetL {R : Type} (k18 : (Nat → Int32) → Int32 → Int32 → Option (Nat → Int32)) (q : List Nat) (b g : Nat) (hg : g < 3) (hq : q.length ≤ 20) (hqb : ∀ i, i < q.length → q.getD i 0 < 20) (hb : b < 20) :
    ∀ (m k f : Nat) (row' : Nat → Int32), k + m = q.length → m < f →
      (∀ j, (j < 136 + 20 * g ∨ 156 + 20 * g ≤ j) → row' j = row j) → row' (124 + 4 * g + 2) = nI q.length →
      (∀ i, i < ((q.take k).filter (fun x => x != b)).length → row' (136 + 20 * g + i) = nI (((q.take k).filter (fun x => x != b)).getD i 0)) →
      (∀ i, k ≤ i → i < q.length → row' (136 + 20 * g + i) = nI (q.getD i 0)) →
      ∃ row'' : Nat → Int32, fX4_forget_L28 k18 f row' (nI b) (nI g) (nI ((q.take k).filter (fun x => x != b)).length) (nI k) = k18 row'' (nI b) (nI (g + 1)) ∧
        (∀ j, j ≠ 124 + 4 * g + 2 → (j < 136 + 20 * g ∨ 156 + 20 * g ≤ j) → row'' j = row j) ∧ row'' (124 + 4 * g + 2) = nI (q.filter (fun x => x != b)).length ∧
        ∀ i, i < (q.filter (fun x => x != b)).length → row'' (136 + 20 * g + i) = nI ((q.filter (fun x => x != b)).getD i 0) := by
  intro m
  induction m with
  | zero =>
    intro k f row' hk hf h1 h2 h3 h4
    obtain ⟨f, rfl⟩ : ∃ z, f = z + 1 := ⟨f - 1, by omega⟩
    have hk : k = q.length := by omega
    subst hk
    rw [List.take_length] at h3 ⊢
    simp (disch := omega) only [fX4_forget_L28, bookAt_0, visitorAt_0, gateAt_0, bookAt_1, visitorAt_1, gateAt_1, bookAt_2, visitorAt_2, gateAt_2, bookAt_3, visitorAt_3, gateAt_3, bookAt_4, visitorAt_4, gateAt_4, gl, Option.bind_some, gd_in, cl_nI]
    rw [h2, if_pos (nI_le (Nat.le_refl _) (by omega)), nI_1]
    refine ⟨_, rfl, fun j hj1 hj2 => ?_, ?_, fun i hi => ?_⟩
    · rw [up_ne hj1]; exact h1 j hj2
    · rw [up_eq rfl]
    · have := List.length_filter_le (fun x => x != b) q
      rw [up_ne (by omega)]; exact h3 i hi
  | succ m ih =>
    intro k f row' hk hf h1 h2 h3 h4
    obtain ⟨f, rfl⟩ : ∃ z, f = z + 1 := ⟨f - 1, by omega⟩
    have hkl : k < q.length := by omega
    have hfl : ((q.take k).filter (fun x => x != b)).length ≤ k := by
      have := List.length_filter_le (fun x => x != b) (q.take k)
      rw [List.length_take] at this
      omega
    have hx := hqb k hkl
    have hx2 := h4 k (Nat.le_refl _) hkl
    simp (disch := omega) only [fX4_forget_L28, bookAt_0, visitorAt_0, gateAt_0, bookAt_1, visitorAt_1, gateAt_1, bookAt_2, visitorAt_2, gateAt_2, bookAt_3, visitorAt_3, gateAt_3, bookAt_4, visitorAt_4, gateAt_4, gl, Option.bind_some, gd_in, cl_nI, row_at, nI_add]
    rw [h2, if_neg (nI_ge hkl (by omega)), hx2]
    have ht := take_succ_getD hkl
    by_cases e : q.getD k 0 = b
    · rw [if_pos (by rw [e]), nI_p0, nI_1]
      have hflt : (q.take (k + 1)).filter (fun x => x != b) = (q.take k).filter (fun x => x != b) := by
        rw [ht, List.filter_append, e]; simp
      have := ih (k + 1) f (upd row' (136 + 20 * g + ((q.take k).filter (fun x => x != b)).length) (nI (q.getD k 0))) (by omega) (by omega) (fun j hj => ?_) ?_ (fun i hi => ?_) (fun i hi1 hi2 => ?_)
      · rw [hflt] at this; exact this
      · rw [up_ne (by omega)]; exact h1 j hj
      · rw [up_ne (by omega)]; exact h2
      · rw [hflt] at hi ⊢
        rw [up_ne (by omega)]; exact h3 i hi
      · rw [up_ne (by omega)]; exact h4 i (by omega) hi2
    · rw [if_neg (fun z => e ((nI_inj (by omega) (by omega)).mp z)), nI_1, nI_1]
      have hflt : (q.take (k + 1)).filter (fun x => x != b) = (q.take k).filter (fun x => x != b) ++ [q.getD k 0] := by
        have f1 : ∀ z, z ≠ b → [z].filter (fun x => x != b) = [z] := fun z hz => by simp [hz]
        rw [ht, List.filter_append, f1 _ e]
      have hlen : ((q.take (k + 1)).filter (fun x => x != b)).length = ((q.take k).filter (fun x => x != b)).length + 1 := by rw [hflt]; simp
      have := ih (k + 1) f (upd row' (136 + 20 * g + ((q.take k).filter (fun x => x != b)).length) (nI (q.getD k 0))) (by omega) (by omega) (fun j hj => ?_) ?_ (fun i hi => ?_) (fun i hi1 hi2 => ?_)
      · rw [hlen] at this; exact this
      · rw [up_ne (by omega)]; exact h1 j hj
      · rw [up_ne (by omega)]; exact h2
      · rw [hlen] at hi
        rw [hflt]
        by_cases e2 : i = ((q.take k).filter (fun x => x != b)).length
        · subst e2
          rw [up_eq rfl, getD_append_at]
        · rw [up_ne (by omega), getD_append_l (by omega)]; exact h3 i (by omega)
      · rw [up_ne (by omega)]; exact h4 i (by omega) hi2
end RT
section RT2
variable {row : Nat → Int32} {A : AS} {T : Nat}
def aFq (A : AS) (b g : Nat) : AS := (A.1, (fun g' => if g' < g then (A.2.1 g').filter (fun x => x != b) else A.2.1 g'), A.2.2)
theorem forgetG' {A0 : AS} (hI0 : Inv T A0) {b : Nat} (hb : b < 20) {S : gS} : ∀ (m g f : Nat) (row' : Nat → Int32), g + m = 3 → m < f → RB row' (aFq (S, A0.2) b g) → ∃ row'', fX4_forget_L18 f row' (nI b) (nI g) = some row'' ∧ RB row'' (aFq (S, A0.2) b 3) := by
  generalize hA : ((S, A0.2) : AS) = A
  have hI : ∀ g, g < 3 → (A.2.1 g).length ≤ 20 := fun g hg => by rw [← hA]; exact hI0.qlen hg
  have hIl : A.2.2.length ≤ 10 := by rw [← hA]; exact hI0.ql
  have hIq : ∀ g i, g < 3 → i < (A.2.1 g).length → (A.2.1 g).getD i 0 < 20 := fun g i hg hi => by rw [← hA] at hi ⊢; exact hI0.qlt hg hi
  intro m
  induction m with
  | zero =>
    intro g f row' hg hf h
    obtain ⟨f, rfl⟩ : ∃ z, f = z + 1 := ⟨f - 1, by omega⟩
    have hg : g = 3 := by omega
    subst hg
    refine ⟨row', ?_, h⟩
    simp (disch := omega) only [fX4_forget_L18, lel_3, lel_6, lel_10, lel_20, lel_120, lel_233]
    rw [if_pos (Nat.le_refl 3)]
  | succ m ih =>
    intro g f row' hg hf h
    obtain ⟨f, rfl⟩ : ∃ z, f = z + 1 := ⟨f - 1, by omega⟩
    simp (disch := omega) only [fX4_forget_L18, lel_3, lel_6, lel_10, lel_20, lel_120, lel_233]
    rw [if_neg (by omega)]
    have hq0 : (aFq A b g).2.1 g = A.2.1 g := by show (if g < g then _ else _) = _; rw [if_neg (by omega)]
    have hl : (A.2.1 g).length ≤ 20 := hI g (by omega)
    have t2 := (h.2.2.1 g (by omega)).2.2.1
    rw [hq0] at t2
    have t4 : ∀ i, i < (A.2.1 g).length → row' (136 + 20 * g + i) = nI ((A.2.1 g).getD i 0) := fun i hi => by
      have := h.2.2.2.1 g i (by omega) (by rw [hq0]; exact hi)
      rw [hq0] at this; exact this
    obtain ⟨row'', e, f1, f2, f3⟩ := forgetL (row := row') (R := Unit) (fX4_forget_L18 f) (A.2.1 g) b g (by omega) hl (fun i hi => hIq g i (by omega) hi) hb (A.2.1 g).length 0 gFuel row' (by omega) (by have := fuel_ge; omega) (fun _ _ => rfl) t2 (fun i hi => by simp at hi) (fun i _ hi => t4 i hi)
    rw [List.take_zero, List.filter_nil, List.length_nil] at e
    have e' : fX4_forget_L28 (fX4_forget_L18 f) gFuel row' (nI b) (nI g) 0 0 = fX4_forget_L18 f row'' (nI b) (nI (g + 1)) := e
    rw [e']
    refine ih (g + 1) f row'' (by omega) (by omega) ?_
    have hfq : ∀ g', g' < 3 → ((aFq A b g).2.1 g').length ≤ 20 := fun g' hg' => by
      show (if g' < g then _ else _ : List Nat).length ≤ 20
      have := hI g' hg'
      by_cases q : g' < g
      · rw [if_pos q]; exact Nat.le_trans (List.length_filter_le _ _) this
      · rw [if_neg q]; exact this
    have hr := RB_q h hfq hIl (by omega) (q' := (A.2.1 g).filter (fun x => x != b)) (Nat.le_trans (List.length_filter_le _ _) hl) (fun j hj1 hj2 => f1 j hj1 hj2) f2 f3
    have ef : (fun g' => if g' = g then (A.2.1 g).filter (fun x => x != b) else (aFq A b g).2.1 g') = (aFq A b (g + 1)).2.1 := by
      funext g'
      show (if g' = g then _ else if g' < g then _ else _) = if g' < g + 1 then _ else _
      by_cases q : g' = g
      · subst q; simp
      · by_cases q2 : g' < g
        · have : g' < g + 1 := by omega
          simp [q, q2, this]
        · have : ¬ g' < g + 1 := by omega
          simp [q, q2, this]
    rw [ef] at hr
    exact hr
theorem forget_spec (h : RB row A) (hI : Inv T A) {b : Nat} (hb : b < 20) : ∃ row', fX4_forget row (nI b) = some row' ∧ RB row' (aForget A b) := by
  simp (disch := omega) only [fX4_forget, bookAt_0, visitorAt_0, gateAt_0, bookAt_1, visitorAt_1, gateAt_1, bookAt_2, visitorAt_2, gateAt_2, bookAt_3, visitorAt_3, gateAt_3, bookAt_4, visitorAt_4, gateAt_4, gl, Option.bind_some, gd_in, cl_nI]
  have r1 := RB_bk h (qlen_of hI) hI.ql (k := 2) (by omega) hb 0
  have r2 := RB_bk (A := aS A 2 b 0) r1 (qlen_of hI) hI.ql (k := 3) (by omega) hb 0
  have e0 : aFq (aS (aS A 2 b 0) 3 b 0) b 0 = aS (aS A 2 b 0) 3 b 0 := by
    unfold aFq aS
    simp
  obtain ⟨row', e, hr⟩ := forgetG' (A0 := A) hI hb (S := (aS (aS A 2 b 0) 3 b 0).1) 3 0 gFuel _ rfl (by decide) (by show RB _ (aFq (aS (aS A 2 b 0) 3 b 0) b 0); rw [e0]; exact r2)
  refine ⟨row', e, ?_⟩
  exact RB_congQ (q := (aFq (aS (aS A 2 b 0) 3 b 0) b 3).2.1) hr (fun g hg => by show _ = if g < 3 then _ else _; rw [if_pos hg]; rfl)
end RT2
