section AC2
variable {T T' : Nat} {A A' : AS} {s s' : ST} {r r' : gS}
theorem reqG (p : Int32) : fX3_requireGate p = some (if 0 ≤ p.toInt ∧ p.toInt < 3 then .inr () else .inl (3, ())) := by
  have e : fX3_isGate p = some (bI (decide (0 ≤ p.toInt ∧ p.toInt < 3)), ()) := rng_any p (n := 3) (by decide)
  unfold fX3_requireGate
  rw [e, Option.bind_some]
  by_cases c : 0 ≤ p.toInt ∧ p.toInt < 3
  · rw [if_pos c, decide_eq_true c]; rfl
  · rw [if_neg c, decide_eq_false c]; rfl
theorem mG (p : Int32) : fX4_isGate p = some (bI (decide (0 ≤ p.toInt ∧ p.toInt < 3)), ()) := by
  unfold fX4_isGate
  rw [inI_spec p 0 2 0 2 (by decide) (by decide), Option.bind_some, gd_t (bI_01 _)]
  have : decide (0 ≤ p.toInt ∧ p.toInt ≤ 2) = decide (0 ≤ p.toInt ∧ p.toInt < 3) := by
    by_cases c : 0 ≤ p.toInt ∧ p.toInt < 3
    · rw [decide_eq_true c, decide_eq_true (by omega)]
    · rw [decide_eq_false c, decide_eq_false (by omega)]
  rw [this]
theorem mark29 (h : TopA T s r A) {r1 : gS} (k2 : fX4_remember (st2 r 0 0 0) = some r1) (k5 : r1 3 = (st2 r 0 0 0) 3) {b : Nat} (hb : b < 20) {x : Int32} (hx : x = 0 ∨ x = 1) : fX4_mark_L29 r (nI b) x 0 = some (nI (borN (aS A 1 b x)), st2 r1 3 (5 * b + 1) x) ∧ RB (st2 r1 3 (5 * b + 1) x 3) (aS A 1 b x) := by
  obtain ⟨hG, hA, hB, -⟩ := id h
  have hI := hG.1
  have hB1 : RB (st2 r1 3 (5 * b + 1) x 3) (aS A 1 b x) := by
    rw [st2_row, k5, row0]
    exact RB_bk hB (qlen_of hI) hI.ql (k := 1) (by omega) hb _
  refine ⟨?_, hB1⟩
  unfold fX4_mark_L29
  rw [refused_0, Option.bind_some, if_pos rfl, k2, Option.bind_some]
  simp (disch := omega) only [bookAt_1, Option.bind_some, gl, gd_in, cl_nI]
  rw [borrowed_spec hB1 (Inv_bor hI hx), Option.bind_some]
  simp only [sf_self]
theorem borrow_step (h : TopA T s r A) (q : Int32) : Step T cdX (fX3_borrow s q) (fX4_borrow r q) := by
  have no : ∀ z : Int32, (z = 1 ∨ z = 2) → fX4_mark_L29 r q 1 z = some (0, st2 r 0 0 z) := fun z hz => by
    unfold fX4_mark_L29
    rcases hz with e | e <;> subst e <;> rfl
  unfold fX3_borrow fX4_borrow fX4_mark
  by_cases hb : 0 ≤ q.toInt ∧ q.toInt < 20
  · rw [tb_in _ _ _ (by rw [reqB, if_pos hb]), mB, decide_eq_true hb, Option.bind_some, if_neg (show ¬ bI true = 0 by decide)]
    obtain ⟨b, hb20, eb⟩ := in_nI (n := 20) hb
    obtain ⟨hG, hA, hB, -⟩ := id h
    have hI := hG.1
    subst eb
    rw [canBor_s hA hI (by omega), canBorrow_spec hB hI hb20, decide_eq_true hb20, Bool.true_and]
    simp only [Option.bind_some, gl, sf_self]
    cases hc : aCanBorrow A b 1 with
    | false =>
      rw [tb_out _ _ _ (reqA false), if_pos bI_f, no 2 (Or.inr rfl)]
      exact Step_no h (n := 2) rfl rfl (by decide) rfl
    | true =>
      rw [tb_in _ _ _ (reqA true), if_neg (show ¬ bI true = 0 by decide)]
      obtain ⟨s1, r1, k1, k2, k3, k4, k5, k6⟩ := TopA_rem (TopA_ref h 0)
      have hA1 : RA s1.2.2.1 A := by rw [k4]; exact hA
      obtain ⟨L, t1, t2, -⟩ := tryBor_s hA1 hI (b := b) (by omega) (c := true) (by rw [hc, decide_eq_true hb20]; rfl)
      have t2' : RA L (aS A 1 b 1) := t2
      have hk : fX3_remember (s.1, s.2.1, s.2.2.1, s.2.2.2) = some s1 := k1
      rw [hk, Option.bind_some, t1, Option.bind_some, isM_count t2'.2.1, Option.bind_some]
      obtain ⟨m1, m2⟩ := mark29 h k2 k5 hb20 (x := 1) (Or.inr rfl)
      rw [m1, Option.bind_some]
      refine ⟨(s1.1, s1.2.1, L, s1.2.2.2), _, _, rfl, ⟨_, TopA_upd (s' := (s1.1, s1.2.1, L, s1.2.2.2)) k3 (Nat.le_refl _) rfl rfl rfl t2' m2 ⟨Inv_bor hI (Or.inr rfl), InvP_aS hG.2 (by decide) (by decide)⟩ (fun k j c1 _ _ => st_ne (Or.inl c1))⟩, Or.inr ⟨rfl, ?_⟩⟩
      show st2 r1 3 (5 * b + 1) 1 0 0 = 0
      rw [st_ne (Or.inl (by decide)), k6]; rfl
  · rw [tb_out _ _ _ (by rw [reqB, if_neg hb]), mB, decide_eq_false hb, Option.bind_some, if_pos bI_f, no 1 (Or.inl rfl)]
    exact Step_no h (n := 3) rfl rfl (by decide) rfl
theorem bring_step (h : TopA T s r A) (q : Int32) : Step T cdX (fX3_bringBack s q) (fX4_bringBack r q) := by
  have no : ∀ z : Int32, (z = 1 ∨ z = 2) → fX4_mark_L29 r q 0 z = some (0, st2 r 0 0 z) := fun z hz => by
    unfold fX4_mark_L29
    rcases hz with e | e <;> subst e <;> rfl
  unfold fX3_bringBack fX4_bringBack fX4_mark
  by_cases hb : 0 ≤ q.toInt ∧ q.toInt < 20
  · rw [tb_in _ _ _ (by rw [reqB, if_pos hb]), mB, decide_eq_true hb, Option.bind_some, if_neg (show ¬ bI true = 0 by decide)]
    obtain ⟨b, hb20, eb⟩ := in_nI (n := 20) hb
    obtain ⟨hG, hA, hB, -⟩ := id h
    have hI := hG.1
    subst eb
    rw [canBring_s hA hI (by omega), canBorrow_spec hB hI hb20, decide_eq_true hb20, Bool.true_and]
    simp only [Option.bind_some, gl, sf_self]
    cases hc : aCanBorrow A b 0 with
    | false =>
      rw [tb_out _ _ _ (reqA false), if_pos bI_f, no 2 (Or.inr rfl)]
      exact Step_no h (n := 2) rfl rfl (by decide) rfl
    | true =>
      rw [tb_in _ _ _ (reqA true), if_neg (show ¬ bI true = 0 by decide)]
      obtain ⟨s1, r1, k1, k2, k3, k4, k5, k6⟩ := TopA_rem (TopA_ref h 0)
      have hA1 : RA s1.2.2.1 A := by rw [k4]; exact hA
      obtain ⟨L, t1, t2, -⟩ := tryBring_s hA1 hI (b := b) (by omega) (c := true) (by rw [hc, decide_eq_true hb20]; rfl)
      have t2' : RA L (aS A 1 b 0) := t2
      have hk : fX3_remember (s.1, s.2.1, s.2.2.1, s.2.2.2) = some s1 := k1
      rw [hk, Option.bind_some, t1, Option.bind_some, isM_count t2'.2.1, Option.bind_some]
      obtain ⟨m1, m2⟩ := mark29 h k2 k5 hb20 (x := 0) (Or.inl rfl)
      rw [m1, Option.bind_some]
      refine ⟨(s1.1, s1.2.1, L, s1.2.2.2), _, _, rfl, ⟨_, TopA_upd (s' := (s1.1, s1.2.1, L, s1.2.2.2)) k3 (Nat.le_refl _) rfl rfl rfl t2' m2 ⟨Inv_bor hI (Or.inl rfl), InvP_aS hG.2 (by decide) (by decide)⟩ (fun k j c1 _ _ => st_ne (Or.inl c1))⟩, Or.inr ⟨rfl, ?_⟩⟩
      show st2 r1 3 (5 * b + 1) 0 0 0 = 0
      rw [st_ne (Or.inl (by decide)), k6]; rfl
  · rw [tb_out _ _ _ (by rw [reqB, if_neg hb]), mB, decide_eq_false hb, Option.bind_some, if_pos bI_f, no 1 (Or.inl rfl)]
    exact Step_no h (n := 3) rfl rfl (by decide) rfl
theorem walk_step (h : TopA T s r A) (p q : Int32) (out : Bool) : Step T cdX (fX3_walk s p q (bI out)) (fX4_walk r p q (bI out)) := by
  have no : ∀ z : Int32, (z = 1 ∨ z = 2) → fX4_walk_L48 r p q (bI out) z = some (0, st2 r 0 0 z) := fun z hz => by
    unfold fX4_walk_L48
    rcases hz with e | e <;> subst e <;> rfl
  unfold fX3_walk fX4_walk
  by_cases hv : 0 ≤ p.toInt ∧ p.toInt < 6
  · rw [tb_in _ _ _ (by rw [reqV, if_pos hv]), mV, decide_eq_true hv, Option.bind_some, if_neg (show ¬ bI true = 0 by decide)]
    by_cases hq : 0 ≤ q.toInt ∧ q.toInt < 3
    · rw [tb_in _ _ _ (by rw [reqG, if_pos hq]), mG, decide_eq_true hq, Option.bind_some, if_neg (show ¬ bI true = 0 by decide)]
      obtain ⟨v, hv6, ev⟩ := in_nI (n := 6) hv
      obtain ⟨g, hg3, eg⟩ := in_nI (n := 3) hq
      obtain ⟨hG, hA, hB, -⟩ := id h
      have hI := hG.1
      subst ev
      subst eg
      unfold fX4_walk_L19
      rw [if_neg (by decide), canWalk_s hA (by omega) (by omega), canWalk_spec hB hv6, decide_eq_true (⟨hv6, hg3⟩ : v < 6 ∧ g < 3), Bool.true_and]
      simp only [Option.bind_some, gl, sf_self]
      cases hc : aCanWalk A v (bI out) with
      | false =>
        rw [tb_out _ _ _ (reqA false), if_pos bI_f]
        exact Step_no h (n := 2) rfl rfl (by decide) (no 2 (Or.inr rfl))
      | true =>
        rw [tb_in _ _ _ (reqA true), if_neg (show ¬ bI true = 0 by decide)]
        obtain ⟨s1, r1, k1, k2, k3, k4, k5, k6⟩ := TopA_rem (TopA_ref h 0)
        have hA1 : RA s1.2.2.1 A := by rw [k4]; exact hA
        obtain ⟨L, t1, t2, -⟩ := tryWalk_s hA1 (v := v) (g := g) (by omega) (by omega) out (c := true) (by rw [hc, decide_eq_true (⟨hv6, hg3⟩ : v < 6 ∧ g < 3)]; rfl)
        have t2' : RA L (aWalk A v (nI g) out) := t2
        have hk : fX3_remember (s.1, s.2.1, s.2.2.1, s.2.2.2) = some s1 := k1
        rw [hk, Option.bind_some, t1, Option.bind_some, visitorsAt_s t2', Option.bind_some]
        unfold fX4_walk_L48
        rw [refused_0, Option.bind_some, if_pos rfl, k2, Option.bind_some]
        obtain ⟨w, m1, m2, m3⟩ := walkIn_spec (row := r1 3) (A := A) (by rw [k5, row0]; exact hB) hI hv6 (nI g) out
        rw [m1, Option.bind_some, m2]
        refine ⟨(s1.1, s1.2.1, L, s1.2.2.2), _, _, rfl, ⟨_, TopA_upd (s' := (s1.1, s1.2.1, L, s1.2.2.2)) k3 (Nat.le_refl _) rfl rfl rfl t2' (by rw [sf_eq]; exact m3) ⟨Inv_walk hI hg3 out, InvP_walk hG.2 v (nI g) out⟩ (fun k j c1 _ _ => by rw [sf_ne c1])⟩, Or.inr ⟨rfl, ?_⟩⟩
        rw [sf_ne (by decide), k6]; rfl
    · rw [tb_out _ _ _ (by rw [reqG, if_neg hq]), mG, decide_eq_false hq, Option.bind_some, if_pos bI_f]
      unfold fX4_walk_L19
      rw [if_pos rfl]
      exact Step_no h (n := 3) rfl rfl (by decide) (no 1 (Or.inl rfl))
  · rw [tb_out _ _ _ (by rw [reqV, if_neg hv]), mV, decide_eq_false hv, Option.bind_some, if_pos bI_f]
    unfold fX4_walk_L19
    rw [if_pos rfl]
    exact Step_no h (n := 3) rfl rfl (by decide) (no 1 (Or.inl rfl))
end AC2
