section GA
variable {T T' : Nat} {A A' : AS} {s s' : ST} {r r' : gS}
theorem readSetL (hB : RB (r 3) A) (hI : Inv T A) {g : Nat} (hg : g < 3) : ∀ (m i f : Nat) (w : Int32), i + m = 20 → m < f → isM w (fun b => b < i ∧ aReadsBook A g b = true) → ∃ w', fX4_readSet_L4 f r (nI g) w (nI i) = some (w', r) ∧ isM w' (fun b => aReadsBook A g b = true) := by
  intro m
  induction m with
  | zero =>
    intro i f w hi hf hw
    obtain ⟨f, rfl⟩ : ∃ z, f = z + 1 := ⟨f - 1, by omega⟩
    have : i = 20 := by omega
    subst this
    exact ⟨w, rfl, isM_cong hw (fun b hb => ⟨fun q => q.2, fun q => ⟨hb, q⟩⟩)⟩
  | succ m ih =>
    intro i f w hi hf hw
    obtain ⟨f, rfl⟩ : ∃ z, f = z + 1 := ⟨f - 1, by omega⟩
    simp only [fX4_readSet_L4]
    rw [if_neg (fun q => absurd ((lel_20 (by omega)).mp q) (by omega)), readsBook_spec hB hI hg (by omega), Option.bind_some]
    simp only [gl, sf_self, nI_1]
    cases e : aReadsBook A g i with
    | true =>
      rw [if_neg (show ¬ bI true = 0 by decide)]
      refine ih (i + 1) f _ (by omega) (by omega) (isM_cong (isM_or hw (isM_bit (b := i) (by omega))) (fun b hb => ?_))
      constructor
      · rintro (⟨x, y⟩ | y)
        · exact ⟨by omega, y⟩
        · subst y; exact ⟨by omega, e⟩
      · rintro ⟨x, y⟩
        by_cases q : b = i
        · exact Or.inr q
        · exact Or.inl ⟨by omega, y⟩
    | false =>
      rw [if_pos bI_f, or0]
      refine ih (i + 1) f _ (by omega) (by omega) (isM_cong hw (fun b hb => ?_))
      constructor
      · rintro ⟨x, y⟩; exact ⟨by omega, y⟩
      · rintro ⟨x, y⟩
        refine ⟨?_, y⟩
        by_cases q : b = i
        · subst q; rw [e] at y; exact absurd y (by decide)
        · omega
theorem gate_step (h : TopA T s r A) (p q : Int32) : Step T cdY (fX3_gate s p q) (fX4_gate r p q) := by
  have no : ∀ z : Int32, (z = 1 ∨ z = 2) → fX4_gate_L29 r p q z = some (0, st2 r 0 0 z) := fun z hz => by
    unfold fX4_gate_L29
    rcases hz with e | e <;> subst e <;> rfl
  unfold fX3_gate fX4_gate
  by_cases hg : 0 ≤ p.toInt ∧ p.toInt < 3
  · rw [tb_in _ _ _ (by rw [reqG, if_pos hg]), mG, decide_eq_true hg, Option.bind_some, if_neg (show ¬ bI true = 0 by decide), inI_spec q 0 5 0 5 (by decide) (by decide), Option.bind_some]
    obtain ⟨g, hg3, eg⟩ := in_nI (n := 3) hg
    subst eg
    obtain ⟨hG, hA, hB, -⟩ := id h
    have hI := hG.1
    have hB0 : RB ((st2 r 0 0 0) 3) A := by rw [row0]; exact hB
    have ei : (nI g).toNatClampNeg = g := cl_nI (by omega)
    have ga := hA.2.2.2.2.2.1 g hg3
    have gb := hB.2.2.1 g hg3
    by_cases hq : 0 ≤ q.toInt ∧ q.toInt ≤ 5
    · rw [decide_eq_true hq, if_neg (show ¬ bI true = 0 by decide)]
      obtain ⟨w, hw, ew⟩ := in_nI (p := q) (n := 6) (by omega)
      subst ew
      have cell : ∀ k, k < 4 → (fX4_gateAt (nI g) (nI k)).bind (fun r8 => (gd (inb r8.1 233) (some (((st2 r 0 0 0) 3 r8.1.toNatClampNeg), st2 r 0 0 0)))) = some (r 3 (124 + 4 * g + k), st2 r 0 0 0) := fun k hk => by
        rw [gateAt_spec, Option.bind_some, gd_in (by omega) (by decide)]
        simp only [row0]
        rw [cl_nI (by omega)]
      unfold fX4_gate_L29
      rw [refused_0, Option.bind_some, if_pos rfl]
      simp only [ei]
      rcases (by omega : w = 0 ∨ w = 1 ∨ w = 2 ∨ w = 3 ∨ w = 4 ∨ w = 5) with rfl | rfl | rfl | rfl | rfl | rfl
      · rw [if_pos (show nI 0 = 0 from rfl), gd_in hg3 (by decide), if_neg (show ¬ nI 0 = 3 by decide), if_neg (show ¬ nI 0 = 4 by decide), if_neg (show ¬ nI 0 = 5 by decide)]
        exact Step_yes h (v := A.1 9 g) (by rw [ga.1]) ((cell 0 (by omega)).trans (by rw [gb.1]))
      · rw [if_neg (show ¬ nI 1 = 0 by decide), if_pos (show nI 1 = 1 from rfl), gd_in hg3 (by decide), if_neg (show ¬ nI 1 = 3 by decide), if_neg (show ¬ nI 1 = 4 by decide), if_neg (show ¬ nI 1 = 5 by decide)]
        exact Step_yes h (v := A.1 10 g) (by rw [ga.2.1]) ((cell 1 (by omega)).trans (by rw [gb.2.1]))
      · rw [if_neg (show ¬ nI 2 = 0 by decide), if_neg (show ¬ nI 2 = 1 by decide), if_pos (show nI 2 = 2 from rfl), gd_in hg3 (by decide), if_neg (show ¬ nI 2 = 3 by decide), if_neg (show ¬ nI 2 = 4 by decide), if_neg (show ¬ nI 2 = 5 by decide)]
        exact Step_yes h (v := nI (A.2.1 g).length) (by rw [ga.2.2.2]) ((cell 2 (by omega)).trans (by rw [gb.2.2.1]))
      · rw [if_neg (show ¬ nI 3 = 0 by decide), if_neg (show ¬ nI 3 = 1 by decide), if_neg (show ¬ nI 3 = 2 by decide), if_pos (show nI 3 = 3 from rfl), if_pos (show nI 3 = 3 from rfl), firstWait_s hA hI hg3, Option.bind_some]
        simp only [gl]
        refine Step_yes h rfl ?_
        rw [gateAt_2, Option.bind_some, gd_in (by omega) (by decide)]
        simp only [row0]
        rw [cl_nI (by omega), gb.2.2.1]
        have h4 := hB.2.2.2.1 g 0 hg3
        rcases hc : A.2.1 g with _ | ⟨b, t⟩
        · rw [if_pos (by decide)]
        · rw [hc] at h4
          have hlen := qlen_of hI g hg3
          rw [hc] at hlen
          simp only [List.length_cons] at hlen h4
          rw [if_neg (fun z => by have := (nI_le0 (by simp only [List.length_cons]; omega)).mp z; simp at this), row_at, gd_in (by omega) (by decide), cl_nI (by omega)]
          have := h4 (by omega)
          simp only [Nat.add_zero] at this
          rw [this]; rfl
      · rw [if_neg (show ¬ nI 4 = 0 by decide), if_neg (show ¬ nI 4 = 1 by decide), if_neg (show ¬ nI 4 = 2 by decide), if_neg (show ¬ nI 4 = 3 by decide), if_pos (show nI 4 = 4 from rfl), gd_in hg3 (by decide), if_neg (show ¬ nI 4 = 3 by decide), if_pos (show nI 4 = 4 from rfl)]
        exact Step_yes h (v := A.1 11 g) (by rw [ga.2.2.1]) ((cell 3 (by omega)).trans (by rw [gb.2.2.2]))
      · rw [if_neg (show ¬ nI 5 = 0 by decide), if_neg (show ¬ nI 5 = 1 by decide), if_neg (show ¬ nI 5 = 2 by decide), if_neg (show ¬ nI 5 = 3 by decide), if_neg (show ¬ nI 5 = 4 by decide), if_pos (show nI 5 = 5 from rfl), if_neg (show ¬ nI 5 = 3 by decide), if_neg (show ¬ nI 5 = 4 by decide), if_pos (show nI 5 = 5 from rfl)]
        obtain ⟨u, k1, k2⟩ := booksRead_s hA hI hg3 false
        obtain ⟨u', j1, j2⟩ := readSetL (r := st2 r 0 0 0) hB0 hI hg3 20 0 gFuel 0 rfl (by decide) (isM_cong isM_0 (fun i _ => ⟨fun q => q.elim, fun q => absurd q.1 (Nat.not_lt_zero _)⟩))
        have k1' : fX1_booksRead s.2.2.1 (nI g) 0 = some (u, s.2.2.1) := k1
        have j1' : fX4_readSet (st2 r 0 0 0) (nI g) = some (u', st2 r 0 0 0) := j1
        have e : u = u' := isM_inj (isM_cong k2 (fun b _ => ⟨fun q => q.1, fun q => ⟨q, fun z => absurd z (by decide)⟩⟩)) j2
        rw [k1', Option.bind_some, j1', Option.bind_some, e]
        exact Step_yes h rfl rfl
    · rw [decide_eq_false hq, if_pos bI_f]
      have n0 : ∀ w : Nat, w < 6 → ¬ q = nI w := fun w hw z => hq (by
        subst z
        have : (nI w).toInt = (w : Int) := Int32.toInt_ofNat_of_lt (by omega)
        omega)
      rw [if_neg (show ¬ q = 0 from n0 0 (by omega)), if_neg (show ¬ q = 1 from n0 1 (by omega)), if_neg (show ¬ q = 2 from n0 2 (by omega)), if_neg (show ¬ q = 3 from n0 3 (by omega)), if_neg (show ¬ q = 4 from n0 4 (by omega)), if_neg (show ¬ q = 5 from n0 5 (by omega))]
      exact Step_no h (n := 1) rfl rfl (by decide) (no 2 (Or.inr rfl))
  · rw [tb_out _ _ _ (by rw [reqG, if_neg hg]), mG, decide_eq_false hg, Option.bind_some, if_pos bI_f]
    exact Step_no h (n := 3) rfl rfl (by decide) (no 1 (Or.inl rfl))
end GA
