section BG2
variable {T T' : Nat} {A A' : AS} {s s' : ST} {r r' : gS}
theorem bestGate_step (h : TopA T s r A) (p : Int32) : Step T cdX (fX3_bestGate s p) (fX4_bestGate r p) := by
  have no : ∀ z : Int32, (z = 1 ∨ z = 2) → fX4_bestGate_L28 r p z = some (0, st2 r 0 0 z) := fun z hz => by
    unfold fX4_bestGate_L28
    rcases hz with e | e <;> subst e <;> rfl
  unfold fX3_bestGate fX4_bestGate
  by_cases hv : 0 ≤ p.toInt ∧ p.toInt < 6
  · rw [tb_in _ _ _ (by rw [reqV, if_pos hv]), mV, decide_eq_true hv, Option.bind_some, if_neg (show ¬ bI true = 0 by decide)]
    obtain ⟨v, hv6, ev⟩ := in_nI (n := 6) hv
    subst ev
    obtain ⟨hG, hA, hB, -⟩ := id h
    rw [isInside_spec hB hv6, Option.bind_some, gd_in hv6 (by decide)]
    simp (disch := omega) only [gl, sf_self, cl_nI]
    rw [hA.wh hv6]
    unfold fX3_bestGate_L21
    by_cases hw : A.1 5 v = 0
    · rw [if_pos hw, decide_eq_true hw, if_neg (show ¬ bI true = 0 by decide), tb_in _ _ _ (show fX3_requireAllowed 1 = some (.inr ()) from rfl)]
      unfold fX4_bestGate_L28
      rw [refused_0, Option.bind_some, if_pos rfl]
      have hB0 : RB ((st2 r 0 0 0) 3) A := by rw [row0]; exact hB
      obtain ⟨t, k1⟩ := saw_s hA hG hv6 (g := 0) (by omega) hw
      have k1' : fX3_shoutsAfterWalk s (nI v) 0 = some (aVal A v 0, (s.1, s.2.1, s.2.2.1, t, s.2.2.2.2)) := k1
      rw [k1', Option.bind_some]
      have key : ∀ f' : Nat, 2 < f' → ∃ q : Int32 × gS, fX4_bestGate_L44 (f' + 1) (st2 r 0 0 0) (nI v) (-9) 0 (nI 0) = some q ∧ (∃ t', fX3_bestGate_L36 gFuel (s.1, s.2.1, s.2.2.1, t, s.2.2.2.2) (nI v) (nI 0) (aVal A v 0) (nI 1) = some (.inr (q.1, (s.1, s.2.1, s.2.2.1, t', s.2.2.2.2))) ∧ ∀ k, k ≠ 4 → q.2 k = (st2 r 0 0 0) k) := by
        intro f' hf'
        simp only [fX4_bestGate_L44]
        rw [if_neg (show ¬ (3 : Int32) ≤ nI 0 by decide)]
        refine refW hB0 hG hv6 (g := 0) (by omega) (fun a u5 => (if (-9 : Int32) = (-9 : Int32) then (fX4_bestGate_L44 f' u5 (nI v) (nI 0) a (nI 0 + (1 : Int32))) else (if (0 : Int32) ≤ a then (fX4_bestGate_L44 f' u5 (nI v) (-9) 0 (nI 0 + (1 : Int32))) else (fX4_bestGate_L44 f' u5 (nI v) (nI 0) a (nI 0 + (1 : Int32)))))) (fun r' hr' => ?_)
        rw [if_pos rfl, nI_1]
        have hB' : RB (r' 3) A := by rw [hr' 3 (by decide)]; exact hB0
        obtain ⟨z, t', r2, j1, j2, j3⟩ := bestL hv6 hG hw 2 1 gFuel f' (s.1, s.2.1, s.2.2.1, t, s.2.2.2.2) r' 0 (aVal A v 0) rfl (by omega) (by decide) hf' hA hB'
        exact ⟨(z, r2), j2, t', j1, fun k hk => (j3 k hk).trans (hr' k hk)⟩
      obtain ⟨q, e1, t', e2, e3⟩ := key 4999 (by decide)
      refine ⟨(s.1, s.2.1, s.2.2.1, t', s.2.2.2.2), q.1, q.2, e1, ⟨A, TopA_upd (s' := (s.1, s.2.1, s.2.2.1, t', s.2.2.2.2)) h (Nat.le_refl _) rfl rfl rfl hA (by rw [e3 3 (by decide)]; exact hB0) hG (fun k j x y z => by rw [e3 k y, st_ne (by omega)])⟩, Or.inr ⟨e2, by rw [e3 0 (by decide)]; rfl⟩⟩
    · rw [if_neg hw, decide_eq_false hw, if_pos bI_f, tb_out _ _ _ (show fX3_requireAllowed 0 = some (.inl (2, ())) from rfl)]
      exact Step_no h (n := 2) rfl rfl (by decide) (no 2 (Or.inr rfl))
  · rw [tb_out _ _ _ (by rw [reqV, if_neg hv]), mV, decide_eq_false hv, Option.bind_some, if_pos bI_f]
    exact Step_no h (n := 3) rfl rfl (by decide) (no 1 (Or.inl rfl))
end BG2
