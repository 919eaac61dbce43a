section SS
variable {T T' : Nat} {A A' : AS} {s s' : ST} {r r' : gS}
theorem tryIt_s (hB : RB (r 3) A) (hI : Inv T A) : ∃ r', fX4_tryIt r = some r' ∧ ((∀ k, k ≠ 4 → r' k = r k) ∧ RB (r' 4) A) := by
  obtain ⟨row, k1, k2, -⟩ := X4_copy_233_233_spec (r 3) (r 4) (s := 0) (d := 0) (n := 233) (by omega) (by omega)
  unfold fX4_tryIt
  refine bd_ex (v := (r 3, row)) k1 (gl_ex fun u2 h2 => ⟨u2, rfl, fun k hk => ?_, ?_⟩)
  · rw [h2]
    show stf (stf r 3 (r 3)) 4 row k = _
    rw [sf_self, sf_ne hk]
  · rw [h2]
    show RB (stf (stf r 3 (r 3)) 4 row 4) A
    rw [sf_eq]
    exact RB_agree hB hI (fun j hj => by rw [k2 j (by omega) (by omega)]; exact congrArg (r 3) (by omega))
/-- a call without refusal and without a thrown value -/
theorem slips_step (h : TopA T s r A) : ∃ v s' r', fX3_slips s = some (v, s') ∧ fX4_slips r = some (v, r') ∧ Top T s' r' := by
  obtain ⟨hG, hA, hB, -⟩ := id h
  obtain ⟨t, a1, a2, -⟩ := copy_s s.2.2.2.1 hA (qlen_of hG.1)
  obtain ⟨w, b1, b2⟩ := slipsOf_s a2 hG.1 hG.2
  obtain ⟨r1, c1, c2, c3⟩ := tryIt_s (r := st2 r 0 0 0) (A := A) (by rw [row0]; exact hB) hG.1
  obtain ⟨u, d1, d2, d3⟩ := slipSet_s (A := A) (B := aNoSl A) (by rw [c2 3 (by decide), row0]; exact hB) (RB_noSl c3) hG.1 (Inv_noSl hG.1)
  have e : w.1 = u.1 := slips_same hG.1 hG.2 b2 d2
  refine ⟨u.1, (s.1, s.2.1, s.2.2.1, w.2, s.2.2.2.2), u.2, ?_, ?_, A, TopA_upd (s' := (s.1, s.2.1, s.2.2.1, w.2, s.2.2.2.2)) h (Nat.le_refl _) rfl rfl rfl hA ?_ hG (fun k j x y z => ?_)⟩
  · unfold fX3_slips
    rw [a1, Option.bind_some]
    simp only [gl]
    rw [b1, Option.bind_some, e]
  · unfold fX4_slips
    simp only [gl]
    rw [c1, Option.bind_some, d1, Option.bind_some]
  · rw [d3 3 (by decide), c2 3 (by decide), row0]; exact hB
  · rw [d3 k y, c2 k y, st_ne (by omega)]
end SS
