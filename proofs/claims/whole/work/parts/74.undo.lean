section UN
variable {T T' : Nat} {A A' : AS} {s s' : ST} {r r' : gS}
/-- the law's number where one kind alone is caught -/
def cd1 : Nat → Nat := cdL 2 2
theorem undo_step (h : TopA T s r A) : Step T cd1 (fX3_undo s) (fX4_undo r) := by
  obtain ⟨hG, hA, hB, ⟨n, Ar, c1, c2, hn, hr, hinj, hrem⟩, ⟨As, hS⟩, hT⟩ := id h
  unfold fX3_undo fX4_undo
  rw [c1, c2]
  by_cases e : n = 0
  · subst e
    rw [if_neg (show ¬ (0 : Int32) < nI 0 by decide), if_pos (show nI 0 = 0 from rfl)]
    unfold fX4_undo_L13
    rw [refused_1, Option.bind_some, if_neg (show ¬ ((1 : Int32), st2 r 0 0 1).1 = 0 by show ¬ (1 : Int32) = 0; decide)]
    exact Step_no h (n := 2) rfl rfl (by decide) rfl
  · obtain ⟨n, rfl⟩ : ∃ z, n = z + 1 := ⟨n - 1, by omega⟩
    have l0 : (0 : Int32) < nI (n + 1) := (lt_nI (a := 0) (b := n + 1) (by omega) (by omega)).mpr (by omega)
    have l1 : ¬ nI (n + 1) = 0 := fun q => by have := (nI_inj (a := n + 1) (b := 0) (by omega) (by omega)).mp q; omega
    rw [if_pos l0, if_neg l1]
    obtain ⟨dG, dA, dB⟩ := hrem n (by omega)
    obtain ⟨t, a1, a2, -⟩ := copy_s s.2.2.1 dA (qlen_of dG.1)
    have hcl : ∃ s', (gl (nI (n + 1) - (1 : Int32)) (fun t1 => (gl ((st2 s.1 0 4 t1), s.2) (fun u2 => (gd (inb (u2.1 0 4) 14) (gl (u2.2.2.2.2.2 (u2.1 0 4).toNatClampNeg) (fun q3 => (gd (q3 < 16) ((fX1_copyFrom (u2.2.2.1, u2.2.2.2.2.1 q3)).bind fun r5 => (gl (u2.1, u2.2.1, r5.1, u2.2.2.2.1, kUp u2.2.2.2.2.1 q3 r5.2, u2.2.2.2.2.2) (fun u6 => (some (.inr ((u6.1 0 4), u6) : (Nat × ST) ⊕ (Int32 × ST)))))))))))))) = some (.inr (nI n, s')) ∧ (s'.1 = st2 s.1 0 4 (nI n) ∧ s'.2.1 = s.2.1 ∧ s'.2.2.1 = t ∧ s'.2.2.2.2.1 = s.2.2.2.2.1 ∧ s'.2.2.2.2.2 = s.2.2.2.2.2) := by
      have e0 : nI (n + 1) - (1 : Int32) = nI n := nI_pred n
      have e1 : st2 s.1 0 4 (nI n) 0 4 = nI n := st_eq rfl rfl
      simp only [gl, e0, e1]
      rw [gd_in (by omega) (by decide)]
      simp (disch := omega) only [cl_nI]
      rw [gd_t (show s.2.2.2.2.2 n < 16 by have := hr n (by omega); omega), a1, Option.bind_some]
      refine ⟨_, rfl, rfl, rfl, rfl, ?_, rfl⟩
      show kUp s.2.2.2.2.1 (s.2.2.2.2.2 n) (s.2.2.2.2.1 (s.2.2.2.2.2 n)) = _
      funext j
      by_cases q : j = s.2.2.2.2.2 n
      · rw [q, kUp_eq]
      · rw [kUp_ne q]
    obtain ⟨s', k1, k2, k3, k4, k5, k6⟩ := hcl
    obtain ⟨row, p1, p2, -⟩ := X4_copy_3262_233_spec (r 5) (r 3) (s := 233 * n) (d := 0) (n := 233) (by omega) (by omega)
    have href : ∃ r', fX4_undo_L13 r 0 = some (nI n, r') ∧ ((∀ k j, k ≠ 3 → ¬ (k = 0 ∧ j = 0) → ¬ (k = 0 ∧ j = 10) → r' k j = r k j) ∧ r' 0 0 = 0 ∧ r' 0 10 = nI n ∧ r' 3 = row) := by
      unfold fX4_undo_L13
      rw [refused_0, Option.bind_some, if_pos rfl]
      have e0 : (st2 r 0 0 0) 0 10 - (1 : Int32) = nI n := by rw [st_ne (by decide), c2, nI_pred]
      have e5 : (st2 (st2 r 0 0 0) 0 10 (nI n)) 5 = r 5 := funext fun j => by rw [st_ne (Or.inl (by decide)), st_ne (Or.inl (by decide))]
      have e3 : (st2 (st2 r 0 0 0) 0 10 (nI n)) 3 = r 3 := funext fun j => by rw [st_ne (Or.inl (by decide)), st_ne (Or.inl (by decide))]
      have e10 : (st2 (st2 r 0 0 0) 0 10 (nI n)) 0 10 = nI n := st_eq rfl rfl
      have em : (233 : Int32) * nI n = nI (233 * n) := by rw [li_233, pk_mul]
      simp only [gl, e0, e5, e3, e10, em]
      have p1' : fX4_copy_3262_233 (r 5, r 3) (nI (233 * n)) 0 233 = some (r 5, row) := p1
      rw [p1', Option.bind_some]
      refine ⟨stf (stf (st2 (st2 r 0 0 0) 0 10 (nI n)) 5 (r 5)) 3 row, ?_, fun k j x y z => ?_, ?_, ?_, ?_⟩
      · show some (stf (stf (st2 (st2 r 0 0 0) 0 10 (nI n)) 5 (r 5)) 3 row 0 10, stf (stf (st2 (st2 r 0 0 0) 0 10 (nI n)) 5 (r 5)) 3 row) = _
        rw [sf_ne (show (0 : Nat) ≠ 3 by decide), sf_ne (show (0 : Nat) ≠ 5 by decide), e10]
      · rw [sf_ne x]
        by_cases q : k = 5
        · subst q; rw [sf_eq]
        · rw [sf_ne q, st_ne (by omega), st_ne (by omega)]
      · rw [sf_ne (by decide), sf_ne (by decide), st_ne (by decide), st_eq rfl rfl]
      · rw [sf_ne (by decide), sf_ne (by decide), st_eq rfl rfl]
      · rw [sf_eq]
    obtain ⟨r', m1, m2, m3, m4, m5⟩ := href
    have g5 : r' 5 = r 5 := funext fun j => m2 5 j (by decide) (by omega) (by omega)
    have g6 : r' 6 = r 6 := funext fun j => m2 6 j (by decide) (by omega) (by omega)
    have g7 : r' 7 = r 7 := funext fun j => m2 7 j (by decide) (by omega) (by omega)
    have g1 : r' 1 = r 1 := funext fun j => m2 1 j (by decide) (by omega) (by omega)
    obtain ⟨len, q1, q2, q3, q4⟩ := hT
    refine ⟨s', nI n, r', m1, ⟨Ar n, dG, by rw [k4]; exact a2, ?_, ⟨n, Ar, by rw [k2, st_eq rfl rfl], m4, ?_⟩, ⟨As, ?_⟩, len, q1, by rw [k3]; exact q2, by rw [m2 0 2 (by decide) (by omega) (by omega)]; exact q3, by rw [k3, g1]; exact q4⟩, Or.inr ⟨k1, m3⟩⟩
    · rw [m5]
      exact RB_agree dB dG.1 (fun j hj => by rw [p2 j (by omega) (by omega)]; exact congrArg (r 5) (by omega))
    · rw [k5, k6, g5]
      exact ⟨by omega, hr, hinj, fun i hi => hrem i (by omega)⟩
    · rw [k2, k5, g6, g7]
      intro k hk
      have := hS k hk
      rw [st_ne (Or.inl (by decide))]
      exact this
theorem clearText_step (h : TopA T s r A) : ∃ v s' r', fX3_clearText s = some (v, s') ∧ fX4_clearText r = some (v, r') ∧ Top T s' r' := by
  obtain ⟨hG, hA, hB, hR, hS, len, q1, q2, q3, q4⟩ := id h
  obtain ⟨n, Ar, c1, c2, c3⟩ := hR
  obtain ⟨As, c4⟩ := hS
  have e2 : (st2 r 0 0 0) 0 2 = nI len := by rw [st_ne (by decide)]; exact q3
  have g : ∀ k j, ¬ (k = 0 ∧ j = 0) → ¬ (k = 0 ∧ j = 2) → (st2 (st2 r 0 0 0) 0 2 0) k j = r k j := fun k j a b => by rw [st_ne (by omega), st_ne (by omega)]
  have g3 : (st2 (st2 r 0 0 0) 0 2 0) 3 = r 3 := funext fun j => g 3 j (by omega) (by omega)
  have g5 : (st2 (st2 r 0 0 0) 0 2 0) 5 = r 5 := funext fun j => g 5 j (by omega) (by omega)
  have g6 : (st2 (st2 r 0 0 0) 0 2 0) 6 = r 6 := funext fun j => g 6 j (by omega) (by omega)
  have g7 : (st2 (st2 r 0 0 0) 0 2 0) 7 = r 7 := funext fun j => g 7 j (by omega) (by omega)
  refine ⟨nI len, (s.1, st2 s.2.1 0 1 0, s.2.2), st2 (st2 r 0 0 0) 0 2 0, ?_, ?_, A, hG, hA, by rw [g3]; exact hB, ⟨n, Ar, c1, by rw [g 0 10 (by omega) (by omega)]; exact c2, by rw [g5]; exact c3⟩, ⟨As, by rw [g6, g7]; exact c4⟩, 0, by omega, (st_eq rfl rfl : st2 s.2.1 0 1 0 0 1 = 0), (st_eq rfl rfl : st2 (st2 r 0 0 0) 0 2 0 0 2 = 0), fun i hi => absurd hi (Nat.not_lt_zero _)⟩
  · unfold fX3_clearText fX2_empty
    simp only [gl, Option.bind_some]
    rw [q2]
  · unfold fX4_clearText
    simp only [gl]
    rw [e2]
end UN
