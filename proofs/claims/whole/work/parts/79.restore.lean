section RE
variable {T T' : Nat} {A A' : AS} {s s' : ST} {r r' : gS}
theorem restore_step (h : TopA T s r A) (p : Int32) : Step T cdX (fX3_restore s p) (fX4_restore r p) := by
  have no : ∀ z : Int32, (z = 1 ∨ z = 2) → fX4_restore_L29 r p z = some (0, st2 r 0 0 z) := fun z hz => by
    unfold fX4_restore_L29
    rcases hz with e | e <;> subst e <;> rfl
  obtain ⟨hG, hA, hB, ⟨n, Ar, c1, c2, hn, hr, hinj, hrem⟩, ⟨As, hS⟩, len, q1, q2, q3, q4⟩ := id h
  unfold fX3_restore fX4_restore
  rw [inI_spec p 0 1 0 1 (by decide) (by decide), Option.bind_some]
  by_cases hp : 0 ≤ p.toInt ∧ p.toInt < 2
  · obtain ⟨v, hv, ev⟩ := in_nI (p := p) (n := 2) hp
    rw [tb_in _ _ _ (by rw [reqS, if_pos hp]), decide_eq_true (show 0 ≤ p.toInt ∧ p.toInt ≤ 1 by omega), if_neg (show ¬ bI true = 0 by decide)]
    subst ev
    have hv0 : (nI v).toNatClampNeg = v := cl_nI (by omega)
    obtain ⟨w1, w2, w3⟩ := hS v hv
    rw [gd_in hv (by decide), gd_in hv (by decide), gd_in hv (by decide)]
    simp only [hv0]
    rw [w2]
    rcases w1 with w1 | w1
    · rw [w1, if_pos rfl, tb_out _ _ _ (show fX3_requireAllowed 0 = some (.inl (2, ())) from rfl)]
      exact Step_no h (n := 2) rfl rfl (by decide) (no 2 (Or.inr rfl))
    · obtain ⟨dG, dA, dB⟩ := w3 w1
      rw [w1, if_neg (by decide), tb_in _ _ _ (show fX3_requireAllowed 1 = some (.inr ()) from rfl)]
      obtain ⟨t, a1, a2, -⟩ := copy_s s.2.2.1 dA (qlen_of dG.1)
      obtain ⟨row, p1, p2, -⟩ := X4_copy_466_233_spec (r 6) (r 3) (s := 233 * v) (d := 0) (n := 233) (by omega) (by omega)
      have em : (233 : Int32) * nI v = nI (233 * v) := by rw [li_233, pk_mul]
      have e6 : (st2 r 0 0 0) 6 = r 6 := funext fun j => st_ne (Or.inl (by decide))
      have p1' : fX4_copy_466_233 (r 6, r 3) (nI (233 * v)) 0 233 = some (r 6, row) := p1
      have hB2 : RB row (As v) := RB_agree dB dG.1 (fun j hj => by rw [p2 j (by omega) (by omega)]; exact congrArg (r 6) (by omega))
      have href : fX4_restore_L29 r (nI v) 0 = some ((As v).1 12 2, st2 (stf (stf (st2 r 0 0 0) 6 (r 6)) 3 row) 0 10 0) := by
        unfold fX4_restore_L29
        rw [refused_0, Option.bind_some, if_pos rfl]
        simp only [row0, e6, em, p1', Option.bind_some, gl]
        rw [cl_198, st_ne (Or.inl (by decide)), sf_eq, hB2.2.2.2.2.1.2.2.1]
      have kup : kUp s.2.2.2.2.1 (14 + v) (s.2.2.2.2.1 (14 + v)) = s.2.2.2.2.1 := by
        funext j
        by_cases q : j = 14 + v
        · rw [q, kUp_eq]
        · rw [kUp_ne q]
      have t911 : t 9 11 = (As v).1 12 2 := a2.2.2.2.2.2.2.2.1.2.2.1
      have hcl : (gl (14 + v) (fun q1 => (gd (q1 < 16) ((fX1_copyFrom (s.2.2.1, s.2.2.2.2.1 q1)).bind fun r3 => (gl (s.1, s.2.1, r3.1, s.2.2.2.1, kUp s.2.2.2.2.1 q1 r3.2, s.2.2.2.2.2) (fun u4 => (gl ((st2 u4.1 0 4 (0 : Int32)), u4.2) (fun u5 => (some (.inr ((u5.2.2.1 9 11), u5) : (Nat × ST) ⊕ (Int32 × ST))))))))))) = some (.inr ((As v).1 12 2, (st2 s.1 0 4 0, s.2.1, t, s.2.2.2.1, s.2.2.2.2.1, s.2.2.2.2.2))) := by
        simp only [gl]
        rw [gd_t (by omega), a1, Option.bind_some]
        simp only [t911, kup]
      have g : ∀ k j, k ≠ 3 → ¬ (k = 0 ∧ j = 0) → ¬ (k = 0 ∧ j = 10) → (st2 (stf (stf (st2 r 0 0 0) 6 (r 6)) 3 row) 0 10 0) k j = r k j := fun k j x y z => by
        rw [st_ne (by omega), sf_ne x]
        by_cases e : k = 6
        · subst e; rw [sf_eq]
        · rw [sf_ne e, st_ne (by omega)]
      have g3 : (st2 (stf (stf (st2 r 0 0 0) 6 (r 6)) 3 row) 0 10 0) 3 = row := funext fun j => by rw [st_ne (Or.inl (by decide)), sf_eq]
      have g6 : (st2 (stf (stf (st2 r 0 0 0) 6 (r 6)) 3 row) 0 10 0) 6 = r 6 := funext fun j => g 6 j (by decide) (by omega) (by omega)
      have g7 : (st2 (stf (stf (st2 r 0 0 0) 6 (r 6)) 3 row) 0 10 0) 7 = r 7 := funext fun j => g 7 j (by decide) (by omega) (by omega)
      have g1 : (st2 (stf (stf (st2 r 0 0 0) 6 (r 6)) 3 row) 0 10 0) 1 = r 1 := funext fun j => g 1 j (by decide) (by omega) (by omega)
      refine ⟨(st2 s.1 0 4 0, s.2.1, t, s.2.2.2.1, s.2.2.2.2.1, s.2.2.2.2.2), (As v).1 12 2, st2 (stf (stf (st2 r 0 0 0) 6 (r 6)) 3 row) 0 10 0, href, ⟨As v, dG, a2, by rw [g3]; exact hB2, ⟨0, Ar, (st_eq rfl rfl : st2 s.1 0 4 0 0 4 = 0), (st_eq rfl rfl : st2 (stf (stf (st2 r 0 0 0) 6 (r 6)) 3 row) 0 10 0 0 10 = 0), by omega, hr, hinj, fun i hi => absurd hi (Nat.not_lt_zero _)⟩, ⟨As, ?_⟩, len, q1, q2, (g 0 2 (by decide) (by omega) (by omega)).trans q3, by rw [g1]; exact q4⟩, Or.inr ⟨hcl, ?_⟩⟩
      · rw [g6, g7]
        intro k hk
        have := hS k hk
        show (st2 s.1 0 4 0 1 k = 0 ∨ st2 s.1 0 4 0 1 k = 1) ∧ r 7 k = st2 s.1 0 4 0 1 k ∧ (st2 s.1 0 4 0 1 k = 1 → _)
        rw [st_ne (σ := s.1) (k := 0) (j := 4) (k' := 1) (j' := k) (x := 0) (Or.inl (by decide))]
        exact this
      · rw [st_ne (by decide), sf_ne (by decide), sf_ne (by decide), st_eq rfl rfl]
  · rw [tb_out _ _ _ (by rw [reqS, if_neg hp]), decide_eq_false (show ¬ (0 ≤ p.toInt ∧ p.toInt ≤ 1) by omega), if_pos bI_f]
    exact Step_no h (n := 3) rfl rfl (by decide) (no 1 (Or.inl rfl))
end RE
