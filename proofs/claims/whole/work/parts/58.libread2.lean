section LP
variable {T : Nat} {σ : gS} {A : AS}
theorem near_cases : ∀ g, g < 3 → ∀ g', g' < 3 → ((if (0 : Int32) ≤ nI g' - nI g then nI g' - nI g else 0 - (nI g' - nI g)) = 0 ∧ nI g' - nI g = 0 ∧ (-1 ≤ (nI g' - nI g).toInt ∧ (nI g' - nI g).toInt ≤ 1)) ∨ ((if (0 : Int32) ≤ nI g' - nI g then nI g' - nI g else 0 - (nI g' - nI g)) = 1 ∧ nI g' - nI g ≠ 0 ∧ (-1 ≤ (nI g' - nI g).toInt ∧ (nI g' - nI g).toInt ≤ 1)) ∨ ((if (0 : Int32) ≤ nI g' - nI g then nI g' - nI g else 0 - (nI g' - nI g)) ≠ 0 ∧ (if (0 : Int32) ≤ nI g' - nI g then nI g' - nI g else 0 - (nI g' - nI g)) ≠ 1 ∧ ¬ (-1 ≤ (nI g' - nI g).toInt ∧ (nI g' - nI g).toInt ≤ 1)) := by decide +kernel
theorem reaches_s (h : RA σ A) (hI : Inv T A) {g v : Nat} (hg : g < 3) (hv : v < 6) (hw : A.1 5 v = 1) : fX1_reaches σ (nI g) (nI v) = some (bI (aReads A g v), σ) := by
  obtain ⟨c1, c2, c3⟩ := (h.2.2.2.2.1 v hv).2 hw
  obtain ⟨⟨g', hg', e6⟩, -⟩ := (hI.2.2.1 v hv).2 hw
  unfold fX1_reaches
  simp (disch := omega) only [gl, gd_in, cl_nI]
  rw [h.bagC hv, Option.bind_some, c1, c2, (h.2.2.2.2.2.1 g hg).1, e6]
  have en : (2 : Int32) * (if (0 : Int32) ≤ A.1 7 v then A.1 7 v else 0 - A.1 7 v) + nI (bagN A v) = aNeeds A v := by
    unfold aNeeds; rw [Int32.zero_sub]
  rw [en]
  unfold aReads aNear
  rw [decide_eq_true hw, Bool.true_and, e6]
  rcases near_cases g hg g' hg' with ⟨k1, k2, k3⟩ | ⟨k1, k2, k3⟩ | ⟨k1, k2, k3⟩
  · rw [if_pos k1, decide_eq_true k3, if_pos k2, Bool.true_and]
    by_cases e : A.1 9 g < aNeeds A v
    · rw [if_pos e, decide_eq_true e]; rfl
    · rw [if_neg e, decide_eq_false e]; rfl
  · rw [k1, if_neg (by decide), if_pos rfl, decide_eq_true k3, if_neg k2, Bool.true_and]
    by_cases e : A.1 9 g / 2 < aNeeds A v
    · rw [if_pos e, decide_eq_true e]; rfl
    · rw [if_neg e, decide_eq_false e]; rfl
  · rw [if_neg k1, if_neg k2, decide_eq_false k3]; rfl
theorem readL5 (h : RA σ A) (hI : Inv T A) {g : Nat} (hg : g < 3) (mm : Bool) : ∀ (m v f : Nat) (w : Int32), v + m = 6 → m < f → isM w (fun b => ∃ v', v' < v ∧ A.1 0 b = nI (v' + 1) ∧ aReads A g v' = true ∧ (mm = true → A.1 8 v' = 1)) → ∃ w', fX1_booksRead_L5 f σ (nI g) (bI mm) w (nI v) = some (w', σ) ∧ isM w' (fun b => ∃ v', v' < 6 ∧ A.1 0 b = nI (v' + 1) ∧ aReads A g v' = true ∧ (mm = true → A.1 8 v' = 1)) := by
  intro m
  induction m with
  | zero =>
    intro v f w hv hf hw
    obtain ⟨f, rfl⟩ : ∃ z, f = z + 1 := ⟨f - 1, by omega⟩
    have : v = 6 := by omega
    subst this
    exact ⟨w, rfl, hw⟩
  | succ m ih =>
    intro v f w hvm hf hw
    obtain ⟨f, rfl⟩ : ∃ z, f = z + 1 := ⟨f - 1, by omega⟩
    have hv : v < 6 := by omega
    have skip : (aReads A g v = false ∨ (mm = true ∧ A.1 8 v ≠ 1)) → ∃ w', fX1_booksRead_L5 f σ (nI g) (bI mm) w (nI (v + 1)) = some (w', σ) ∧ isM w' (fun b => ∃ v', v' < 6 ∧ A.1 0 b = nI (v' + 1) ∧ aReads A g v' = true ∧ (mm = true → A.1 8 v' = 1)) := fun q => by
      refine ih (v + 1) f w (by omega) (by omega) (isM_cong hw (fun i hi => ?_))
      constructor
      · rintro ⟨v', a, b⟩; exact ⟨v', by omega, b⟩
      · rintro ⟨v', a, b, c, d⟩
        by_cases e : v' = v
        · subst e
          rcases q with q | ⟨q1, q2⟩
          · rw [q] at c; exact absurd c (by decide)
          · exact absurd (d q1) q2
        · exact ⟨v', by omega, b, c, d⟩
    have take : aReads A g v = true → (mm = true → A.1 8 v = 1) → ∃ w', fX1_booksRead_L5 f σ (nI g) (bI mm) (w ||| σ 10 v) (nI (v + 1)) = some (w', σ) ∧ isM w' (fun b => ∃ v', v' < 6 ∧ A.1 0 b = nI (v' + 1) ∧ aReads A g v' = true ∧ (mm = true → A.1 8 v' = 1)) := fun q1 q2 => by
      refine ih (v + 1) f _ (by omega) (by omega) (isM_cong (isM_or hw (h.bag hv)) (fun i hi => ?_))
      constructor
      · rintro (⟨v', a, b⟩ | b)
        · exact ⟨v', by omega, b⟩
        · exact ⟨v, by omega, b, q1, q2⟩
      · rintro ⟨v', a, b, c⟩
        by_cases e : v' = v
        · subst e; exact Or.inr b
        · exact Or.inl ⟨v', by omega, b, c⟩
    simp only [fX1_booksRead_L5]
    rw [if_neg (fun q => absurd ((lel_6 (by omega)).mp q) (by omega)), gd_in hv (by decide)]
    simp (disch := omega) only [cl_nI, nI_1]
    rw [h.wh hv]
    by_cases e : A.1 5 v = 1
    · have both : (mm = true → A.1 8 v = 1) → ∃ w', fX1_booksRead_L37 (fX1_booksRead_L5 f) σ (nI g) (bI mm) w (nI v) = some (w', σ) ∧ isM w' (fun b => ∃ v', v' < 6 ∧ A.1 0 b = nI (v' + 1) ∧ aReads A g v' = true ∧ (mm = true → A.1 8 v' = 1)) := fun q => by
        unfold fX1_booksRead_L37
        rw [reaches_s h hI hg hv e, Option.bind_some]
        simp (disch := omega) only [bI_0, gl, gd_in, cl_nI, nI_1]
        cases c : aReads A g v with
        | false => rw [if_pos rfl]; exact skip (Or.inl c)
        | true => rw [if_neg (by decide)]; exact take c q
      rw [if_pos e, gd_in hv (by decide), ((h.2.2.2.2.1 v hv).2 e).2.2]
      rcases ((hI.2.2.1 v hv).2 e).2 with z | z
      · rw [if_pos z]
        cases mm with
        | false => rw [if_pos bI_f]; exact both (fun q => absurd q (by decide))
        | true => rw [if_neg (by decide)]; exact skip (Or.inr ⟨rfl, by rw [z]; decide⟩)
      · rw [if_neg (by rw [z]; decide)]
        exact both (fun _ => z)
    · rw [if_neg e]
      exact skip (Or.inl (by unfold aReads; rw [decide_eq_false e]; rfl))
theorem booksRead_s (h : RA σ A) (hI : Inv T A) {g : Nat} (hg : g < 3) (mm : Bool) : ∃ w, fX1_booksRead σ (nI g) (bI mm) = some (w, σ) ∧ isM w (fun b => aReadsBook A g b = true ∧ (mm = true → A.1 8 (aHolder A b) = 1)) := by
  obtain ⟨w, k1, k2⟩ := readL5 h hI hg mm 6 0 gFuel 0 rfl (by decide) (isM_cong isM_0 (fun i _ => ⟨fun q => q.elim, fun ⟨_, q, _⟩ => absurd q (Nat.not_lt_zero _)⟩))
  refine ⟨w, k1, isM_cong k2 (fun b hb => ?_)⟩
  unfold aReadsBook
  rcases hold_cases hI hb with ⟨e, e2⟩ | ⟨v, hv, e, e2, e3, e4, -⟩
  · constructor
    · rintro ⟨v', a, b, c⟩
      exact absurd b (of_decide_eq_false (e2 v' a))
    · rintro ⟨q, _⟩; rw [decide_eq_true e] at q; exact absurd q (by simp)
  · rw [decide_eq_false e4, e3]
    constructor
    · rintro ⟨v', a, b, c, d⟩
      have : v' = v := by rw [e, nI_inj (by omega) (by omega)] at b; omega
      subst this
      exact ⟨by rw [c]; rfl, d⟩
    · rintro ⟨q, d⟩
      exact ⟨v, hv, e, by simpa using q, d⟩
def aCnt (A : AS) (g b : Nat) : Bool := aReadsBook A g b && aCounts A b
theorem readStep_cnt (A : AS) (g b : Nat) : aReadStep g A b = if aCnt A g b = true then (if A.1 2 b + 1 < A.1 12 0 then aS A 2 b (A.1 2 b + 1) else aPush (aS (aS A 2 b (A.1 2 b + 1)) 3 b 1) g b) else A := by
  unfold aReadStep aReadAt aCnt
  cases aReadsBook A g b <;> cases aCounts A b <;> rfl
theorem readStep_1 (A : AS) (g b : Nat) {k i : Nat} (hk : k ≠ 2) (hi : k ≠ 3 ∨ i ≠ b) : (aReadStep g A b).1 k i = A.1 k i := by
  rw [readStep_cnt]
  split
  · split
    · rw [aS_1, st_ne (Or.inl hk)]
    · rw [aPush_1, aS_1, st_ne hi, aS_1, st_ne (Or.inl hk)]
  · rfl
theorem cnt_cong {A B : AS} {g b : Nat} (e : ∀ k i, k ≠ 2 → (k ≠ 3 ∨ i = b) → B.1 k i = A.1 k i) : aCnt B g b = aCnt A g b := by
  unfold aCnt aReadsBook aReads aNear aNeeds aCounts aHolder bagN holds
  simp (disch := decide) only [e 0 _ (by decide) (Or.inl (by decide)), e 5 _ (by decide) (Or.inl (by decide)), e 6 _ (by decide) (Or.inl (by decide)), e 7 _ (by decide) (Or.inl (by decide)), e 8 _ (by decide) (Or.inl (by decide)), e 9 _ (by decide) (Or.inl (by decide)), e 1 _ (by decide) (Or.inl (by decide)), e 3 b (by decide) (Or.inr rfl)]
theorem push_s (h : RA σ A) {g b : Nat} (hg : g < 3) (hl : ∀ g', g' < 3 → (A.2.1 g').length ≤ 20) (hlen : (A.2.1 g).length < 20) : ∃ σ', fX0_putAtEnd σ (nI g) (nI b) = some σ' ∧ RA σ' (aPush A g b) ∧ σ' 9 14 = σ 9 14 := by
  have w4 := (h.2.2.2.2.2.1 g hg).2.2.2
  unfold fX0_putAtEnd
  simp (disch := omega) only [gl, gd_in, cl_nI]
  rw [w4, if_neg (fun q => absurd ((lel_20 (by omega)).mp q) (by omega))]
  simp (disch := omega) only [gd_in, cl_nI, a20]
  have t : st2 σ 5 (20 * g + (A.2.1 g).length) (nI b) 4 g = nI (A.2.1 g).length := by rw [st_ne (Or.inl (by decide))]; exact w4
  rw [t, nI_1]
  refine ⟨_, rfl, ?_, by rw [st_ne (Or.inl (by decide)), st_ne (Or.inl (by decide))]⟩
  unfold aPush
  refine RA_q h (fun k j e1 e2 => by rw [st_ne (Or.inl e1), st_ne (Or.inl e2)]) (fun g' hg' => ?_) (fun g' i hg' hi => ?_)
  · by_cases q : g' = g
    · rw [st_eq rfl q, if_pos q]; simp
    · rw [st_ne (Or.inr q), if_neg q, st_ne (Or.inl (by decide))]
      exact (h.2.2.2.2.2.1 g' hg').2.2.2
  · rw [st_ne (Or.inl (by decide))]
    by_cases q : g' = g
    · rw [if_pos q] at hi ⊢
      subst q
      by_cases q2 : i = (A.2.1 g').length
      · subst q2
        rw [st_eq rfl rfl, getD_append_at]
      · have hi2 : i < (A.2.1 g').length := by simp at hi; omega
        rw [st_ne (Or.inr (by omega)), getD_append_l hi2]
        exact h.2.2.2.2.2.2.1 g' i hg' hi2
    · rw [if_neg q] at hi ⊢
      have := hl g' hg'
      rw [st_ne (Or.inr (by omega))]
      exact h.2.2.2.2.2.2.1 g' i hg' hi
theorem readL23 {A0 : AS} {u : Int32} {g : Nat} (hg : g < 3) (hu : isM u (fun b => aCnt A0 g b = true)) : ∀ (m i f : Nat) (σ : gS) (A : AS), i + m = 20 → m < f → RA σ A → Inv T A → (∀ k j, k ≠ 2 → (k ≠ 3 ∨ i ≤ j) → A.1 k j = A0.1 k j) → ∃ σ', fX1_readBooks_L23 f σ (nI g) u (nI i) = some σ' ∧ RA σ' (fr (aReadStep g) m i A) ∧ Inv T (fr (aReadStep g) m i A) ∧ σ' 9 14 = σ 9 14 := by
  intro m
  induction m with
  | zero =>
    intro i f σ A hi hf h hI hA
    obtain ⟨f, rfl⟩ : ∃ z, f = z + 1 := ⟨f - 1, by omega⟩
    have : i = 20 := by omega
    subst this
    exact ⟨σ, rfl, h, hI, rfl⟩
  | succ m ih =>
    intro i f σ A hi hf h hI hA
    obtain ⟨f, rfl⟩ : ∃ z, f = z + 1 := ⟨f - 1, by omega⟩
    have hi2 : i < 20 := by omega
    simp only [fX1_readBooks_L23]
    rw [if_neg (fun q => absurd ((lel_20 (by omega)).mp q) (by omega))]
    have ec : aCnt A g i = aCnt A0 g i := cnt_cong (fun k j a b => hA k j a (by omega))
    by_cases u0 : u = 0
    · rw [if_pos u0]
      have hn := (isM_zero hu).mp u0
      have idn : ∀ (m i : Nat) (A : AS), i + m = 20 → (∀ k j, k ≠ 2 → (k ≠ 3 ∨ i ≤ j) → A.1 k j = A0.1 k j) → fr (aReadStep g) m i A = A := by
        intro m
        induction m with
        | zero => intro i A _ _; rfl
        | succ m ih2 =>
          intro i A hi hA
          have ec : aCnt A g i = aCnt A0 g i := cnt_cong (fun k j a b => hA k j a (by omega))
          have es : aReadStep g A i = A := by rw [readStep_cnt, if_neg (by rw [ec]; exact hn i (by omega))]
          rw [fr_succ, es]
          exact ih2 (i + 1) A (by omega) (fun k j a b => hA k j a (by omega))
      rw [idn (m + 1) i A hi hA]
      exact ⟨σ, rfl, h, hI, rfl⟩
    · rw [if_neg u0, isM_has hu hi2, Option.bind_some]
      simp (disch := omega) only [bI_0, gl, gd_in, cl_nI, nI_1]
      rw [fr_succ]
      have hI2 : Inv T (aReadStep g A i) := Inv_readStep hI hg hi2
      have hA2 : ∀ k j, k ≠ 2 → (k ≠ 3 ∨ i + 1 ≤ j) → (aReadStep g A i).1 k j = A0.1 k j := fun k j a b => by
        rw [readStep_1 A g i a (by omega)]; exact hA k j a (by omega)
      by_cases c : aCnt A0 g i = true
      · rw [decide_eq_true c, if_neg (by decide), (h.2.2.2.1 i hi2).1, st_eq rfl rfl]
        have h1 := RA_rd h i (A.1 2 i + 1)
        have es := readStep_cnt A g i
        rw [ec, if_pos c] at es
        have t1 : st2 σ 15 i (A.1 2 i + 1) 9 10 = A.1 12 0 := by rw [st_ne (Or.inl (by decide))]; exact h.2.2.2.2.2.2.2.1.1
        have t2 : st2 σ 15 i (A.1 2 i + 1) 9 14 = σ 9 14 := st_ne (Or.inl (by decide))
        rw [t1]
        by_cases q : A.1 2 i + 1 < A.1 12 0
        · rw [if_pos q] at es
          rw [if_pos q]
          rw [es] at hI2 hA2 ⊢
          obtain ⟨σ', j1, j2, j3, j4⟩ := ih (i + 1) f _ _ (by omega) (by omega) h1 hI2 hA2
          exact ⟨σ', j1, j2, j3, j4.trans t2⟩
        · rw [if_neg q] at es
          rw [if_neg q, bit_spec, Option.bind_some]
          have h2 := RA_told (x := 1) (b := i) h1 (w := st2 σ 15 i (A.1 2 i + 1) 9 9 ||| bitI i) (isM_cong (isM_or h1.2.2.1 (isM_bit hi2)) (fun j hj => by
            by_cases e : j = i
            · rw [st_eq rfl e]; simp [e]
            · rw [st_ne (Or.inr e)]; simp [e]))
          have hln : (A.2.1 g).length < 20 := by
            have := hI2.qlen hg
            rw [es] at this
            have t : (aPush (aS (aS A 2 i (A.1 2 i + 1)) 3 i 1) g i).2.1 g = A.2.1 g ++ [i] := if_pos rfl
            rw [t] at this
            simp at this
            omega
          obtain ⟨σ3, k1, k2, k3⟩ := push_s (b := i) h2 hg (fun g' hg' => hI.qlen (g := g') hg') hln
          rw [k1, Option.bind_some]
          rw [es] at hI2 hA2 ⊢
          obtain ⟨σ', j1, j2, j3, j4⟩ := ih (i + 1) f _ _ (by omega) (by omega) k2 hI2 hA2
          exact ⟨σ', j1, j2, j3, by rw [j4, k3, st_ne (by decide)]; exact t2⟩
      · have es := readStep_cnt A g i
        rw [ec, if_neg c] at es
        rw [decide_eq_false c, if_pos rfl]
        rw [es] at hI2 hA2 ⊢
        exact ih (i + 1) f σ A (by omega) (by omega) h hI2 hA2
theorem readBooks_s (h : RA σ A) (hI : Inv T A) {g : Nat} (hg : g < 3) : ∃ σ', fX1_readBooks σ (nI g) = some σ' ∧ RA σ' (aReadGate A g) ∧ Inv T (aReadGate A g) ∧ σ' 9 14 = σ 9 14 := by
  obtain ⟨w, k1, k2⟩ := booksRead_s h hI hg true
  have hu : isM ((w &&& ((σ 9 8) ^^^ (-1 : Int32))) &&& ((σ 9 9) ^^^ (-1 : Int32))) (fun b => aCnt A g b = true) := isM_cong (isM_sub (isM_sub k2 h.2.1) h.2.2.1) (fun b hb => by
    unfold aCnt aCounts
    rw [Bool.and_eq_true, Bool.and_eq_true, Bool.and_eq_true, decide_eq_true_eq, decide_eq_true_eq, decide_eq_true_eq]
    have z1 : A.1 1 b = 0 ↔ ¬ A.1 1 b = 1 := by
      rcases (hI.2.1 b hb).1 with z | z <;> rw [z] <;> decide
    have z3 : A.1 3 b = 0 ↔ ¬ A.1 3 b = 1 := by
      rcases (hI.2.1 b hb).2 with z | z <;> rw [z] <;> decide
    rw [z1, z3]
    constructor
    · rintro ⟨⟨⟨a, b⟩, c⟩, d⟩; exact ⟨a, c, d, b rfl⟩
    · rintro ⟨a, c, d, b⟩; exact ⟨⟨⟨a, fun _ => b⟩, c⟩, d⟩)
  obtain ⟨σ', j1, j2, j3, j4⟩ := readL23 (A0 := A) hg hu 20 0 gFuel σ A rfl (by decide) h hI (fun _ _ _ _ => rfl)
  unfold fX1_readBooks
  refine bd_ex k1 (gl_ex fun t9 h9 => ⟨σ', ?_, ⟨j2, j3, j4⟩⟩)
  rw [h9]
  exact j1
theorem fr_keep {f : AS → Nat → AS} {k : Nat} (hs : ∀ A b, (f A b).1 k = A.1 k) : ∀ (m b : Nat) (A : AS), (fr f m b A).1 k = A.1 k := by
  intro m
  induction m with
  | zero => intro b A; rfl
  | succ m ih => intro b A; rw [fr_succ, ih, hs]
theorem readGate_keep (A : AS) (g : Nat) {k : Nat} (hk : k ≠ 2) (hk3 : k ≠ 3) : (aReadGate A g).1 k = A.1 k := by
  unfold aReadGate
  exact fr_keep (f := aReadStep g) (fun A b => by funext i; exact readStep_1 A g b hk (Or.inl hk3)) 20 0 A
theorem readGLs : ∀ (m g f : Nat) (σ : gS) (A : AS), g + m = 3 → m < f → RA σ A → Inv T A → ∃ σ', fX1_passTick_L45 f σ (nI g) = fX1_passTick_L63 gFuel σ' 0 ∧ RA σ' (fr aReadGate m g A) ∧ Inv T (fr aReadGate m g A) ∧ σ' 9 14 = σ 9 14 := by
  intro m
  induction m with
  | zero =>
    intro g f σ A hg hf h hI
    obtain ⟨f, rfl⟩ : ∃ z, f = z + 1 := ⟨f - 1, by omega⟩
    have : g = 3 := by omega
    subst this
    exact ⟨σ, rfl, h, hI, rfl⟩
  | succ m ih =>
    intro g f σ A hgm hf h hI
    obtain ⟨f, rfl⟩ : ∃ z, f = z + 1 := ⟨f - 1, by omega⟩
    simp only [fX1_passTick_L45]
    rw [if_neg (fun q => absurd ((lel_3 (by omega)).mp q) (by omega)), nI_1]
    obtain ⟨σ1, k1, k2, k3, k4⟩ := readBooks_s h hI (g := g) (by omega)
    rw [k1, Option.bind_some, fr_succ]
    obtain ⟨σ', j1, j2, j3, j4⟩ := ih (g + 1) f σ1 _ (by omega) (by omega) k2 k3
    exact ⟨σ', j1, j2, j3, j4.trans k4⟩
end LP
