section LS
variable {T T' : Nat} {A A' : AS} {s s' : ST} {r r' : gS}
theorem leastL {g : Nat} (hg : g < 3) (hG : Good T A) : ∀ (m i f : Nat) (s : ST) (r : gS), i + m = 16 → m < f → RA s.2.2.1 A → RB (r 3) A → ∃ z t r', fX3_leastStrength_L6 f s (nI g) (nI i) = some (.inr (z, (s.1, s.2.1, s.2.2.1, t, s.2.2.2.2))) ∧ fX4_leastStrength_L23 f r (nI g) (nI i) = some (z, r') ∧ ∀ k, k ≠ 4 → r' k = r k := by
  intro m
  induction m with
  | zero =>
    intro i f s r hi hf hA hB
    obtain ⟨f, rfl⟩ : ∃ z, f = z + 1 := ⟨f - 1, by omega⟩
    have : i = 16 := by omega
    subst this
    simp only [fX3_leastStrength_L6, fX4_leastStrength_L23]
    rw [if_pos (by decide), if_pos (by decide)]
    exact ⟨-9, s.2.2.2.1, r, rfl, rfl, fun _ _ => rfl⟩
  | succ m ih =>
    intro i f s r hi hf hA hB
    obtain ⟨f, rfl⟩ : ∃ z, f = z + 1 := ⟨f - 1, by omega⟩
    have l1 : ¬ (15 : Int32) < nI i := fun q => by have := (lt_nI (a := 15) (b := i) (by omega) (by omega)).mp q; omega
    have l2 : ¬ (16 : Int32) ≤ nI i := fun q => by have := (le_nI (a := 16) (b := i) (by omega) (by omega)).mp q; omega
    obtain ⟨t, a1, a2, -⟩ := copy_s s.2.2.2.1 hA (qlen_of hG.1)
    have hI9 : Inv T (aS A 9 g (nI i)) := Inv_aS hG.1 (by omega)
    have hP9 : InvP (aS A 9 g (nI i)) := InvP_aS hG.2 (by decide) (by decide)
    obtain ⟨w, b1, b2⟩ := slipsOf_s (RA_str a2 g (nI i)) hI9 hP9
    obtain ⟨r1, c1, c2, c3⟩ := tryIt_s hB hG.1
    have hB4 : RB ((st2 r1 4 (124 + 4 * g + 0) (nI i)) 4) (aS A 9 g (nI i)) := by
      rw [st2_row]
      exact RB_gt c3 (qlen_of hG.1) hG.1.ql (k := 0) (by omega) hg (nI i)
    have hB3 : RB ((st2 r1 4 (124 + 4 * g + 0) (nI i)) 3) A := by
      rw [show (st2 r1 4 (124 + 4 * g + 0) (nI i)) 3 = r 3 from (funext fun j => st_ne (Or.inl (by decide))).trans (c2 3 (by decide))]
      exact hB
    obtain ⟨u, d1, d2, d3⟩ := slipSet_s (A := A) (B := aNoSl (aS A 9 g (nI i))) hB3 (RB_noSl hB4) hG.1 (Inv_noSl hI9)
    have e : w.1 = u.1 := slips_same hI9 hP9 b2 (isM_cong d2 (fun b _ => by
      unfold aSlipB
      simp (disch := decide) only [aS_1, st2k]))
    have fr4 : ∀ k, k ≠ 4 → u.2 k = r k := fun k hk => by
      rw [d3 k hk]
      refine (funext fun j => st_ne (Or.inl hk)).trans (c2 k hk)
    simp only [fX3_leastStrength_L6, fX4_leastStrength_L23]
    rw [if_neg l1, if_neg l2, a1, Option.bind_some, c1, Option.bind_some, gateAt_0, Option.bind_some]
    simp only [gl]
    rw [gd_in hg (by decide), gd_in (by omega) (by decide)]
    have ei : (nI g).toNatClampNeg = g := cl_nI (by omega)
    have ej : (nI (124 + 4 * g + 0)).toNatClampNeg = 124 + 4 * g + 0 := cl_nI (by omega)
    simp only [ei, ej]
    rw [b1, Option.bind_some, d1, Option.bind_some, e, nI_1]
    by_cases z : u.1 = 0
    · rw [if_pos z, if_pos z]
      exact ⟨nI i, w.2, u.2, rfl, rfl, fr4⟩
    · rw [if_neg z, if_neg z]
      obtain ⟨z', t', r2, j1, j2, j3⟩ := ih (i + 1) f (s.1, s.2.1, s.2.2.1, w.2, s.2.2.2.2) u.2 (by omega) (by omega) hA (by rw [fr4 3 (by decide)]; exact hB)
      exact ⟨z', t', r2, j1, j2, fun k hk => (j3 k hk).trans (fr4 k hk)⟩
theorem least_step (h : TopA T s r A) (p : Int32) : Step T cdO (fX3_leastStrength s p) (fX4_leastStrength r p) := by
  unfold fX3_leastStrength fX4_leastStrength
  by_cases hv : 0 ≤ p.toInt ∧ p.toInt < 3
  · rw [tb_in _ _ _ (by rw [reqG, if_pos hv]), mG, decide_eq_true hv, Option.bind_some, if_neg (show ¬ bI true = 0 by decide)]
    obtain ⟨g, hg, eg⟩ := in_nI (n := 3) hv
    subst eg
    obtain ⟨hG, hA, hB, -⟩ := id h
    unfold fX4_leastStrength_L13
    rw [refused_0, Option.bind_some, if_pos rfl]
    obtain ⟨z, t, r', j1, j2, j3⟩ := leastL hg hG 16 0 gFuel s (st2 r 0 0 0) rfl (by decide) hA (by rw [row0]; exact hB)
    exact ⟨(s.1, s.2.1, s.2.2.1, t, s.2.2.2.2), z, r', j2, ⟨A, TopA_upd (s' := (s.1, s.2.1, s.2.2.1, t, s.2.2.2.2)) h (Nat.le_refl _) rfl rfl rfl hA (by rw [j3 3 (by decide), row0]; exact hB) hG (fun k j x y z => by rw [j3 k y, st_ne (by omega)])⟩, Or.inr ⟨j1, by rw [j3 0 (by decide)]; rfl⟩⟩
  · rw [tb_out _ _ _ (by rw [reqG, if_neg hv]), mG, decide_eq_false hv, Option.bind_some, if_pos bI_f]
    exact Step_no h (n := 3) (z := 1) (v := 0) rfl rfl (by decide) rfl
end LS
