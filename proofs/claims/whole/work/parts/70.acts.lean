section AC
variable {T T' : Nat} {A A' : AS} {s s' : ST} {r r' : gS}
theorem Step_mono {code : Nat → Nat} {x : Option ((Nat × ST) ⊕ (Int32 × ST))} {y : Option (Int32 × gS)} (h : Step T code x y) (hT : T ≤ T') : Step T' code x y := by
  obtain ⟨s', v, r', e, ⟨A, hA⟩, d⟩ := h
  exact ⟨s', v, r', e, ⟨A, TopA_upd (s' := s') hA hT rfl rfl rfl hA.2.1 hA.2.2.1 (Good_mono hA.1 hT) (fun _ _ _ _ _ => rfl)⟩, d⟩
theorem row0 (r : gS) (x : Int32) : (st2 r 0 0 x) 3 = r 3 := funext fun j => st_ne (Or.inl (by decide))
theorem putBack_step (h : TopA T s r A) (q : Int32) : Step T cdX (fX3_putBack s q) (fX4_putBack r q) := by
  have no : ∀ z : Int32, (z = 1 ∨ z = 2) → fX4_putBack_L28 r q z = some (0, st2 r 0 0 z) := fun z hz => by
    unfold fX4_putBack_L28
    rcases hz with e | e <;> subst e <;> rfl
  unfold fX3_putBack fX4_putBack
  by_cases hb : 0 ≤ q.toInt ∧ q.toInt < 20
  · rw [tb_in _ _ _ (by rw [reqB, if_pos hb]), mB, decide_eq_true hb, Option.bind_some, if_neg (show ¬ bI true = 0 by decide)]
    obtain ⟨b, hb20, eb⟩ := in_nI (n := 20) hb
    obtain ⟨hG, hA, hB, -⟩ := id h
    have hI := hG.1
    subst eb
    rw [canPut_s hA hI (by omega), canPutBack_spec hB hI hb20, decide_eq_true hb20, Bool.true_and]
    simp only [Option.bind_some, gl, sf_self]
    cases hc : aCanPut A b with
    | false =>
      rw [tb_out _ _ _ (reqA false), if_pos bI_f]
      exact Step_no h (n := 2) rfl rfl (by decide) (no 2 (Or.inr rfl))
    | true =>
      rw [tb_in _ _ _ (reqA true), if_neg (show ¬ bI true = 0 by decide)]
      obtain ⟨s1, r1, k1, k2, k3, k4, k5, k6⟩ := TopA_rem (TopA_ref h 0)
      have hA1 : RA s1.2.2.1 A := by rw [k4]; exact hA
      obtain ⟨L, t1, t2, -⟩ := tryPut_s hA1 hI (b := b) (by omega) (c := true) (by rw [hc, decide_eq_true hb20]; rfl)
      have t2' : RA L (aS A 0 b 0) := t2
      have hk : fX3_remember (s.1, s.2.1, s.2.2.1, s.2.2.2) = some s1 := k1
      rw [hk, Option.bind_some, holderOf_s hA1 hI hb20, Option.bind_some, t1, Option.bind_some]
      unfold fX4_putBack_L28
      rw [refused_0, Option.bind_some, if_pos rfl, k2, Option.bind_some]
      simp (disch := omega) only [bookAt_0, Option.bind_some, gl, gd_in, cl_nI]
      have hB1 : RB (st2 r1 3 (5 * b + 0) 0 3) (aS A 0 b 0) := by
        rw [st2_row, k5, row0]
        exact RB_bk hB (qlen_of hI) hI.ql (k := 0) (by omega) hb20 _
      have ev : aHold A b = r1 3 (5 * b + 0) - 1 := by
        rw [k5, row0, hB.bk (by omega) hb20]
        unfold aHold
        unfold aCanPut at hc
        rw [if_neg (fun z => by rw [decide_eq_true z] at hc; exact absurd hc (by simp))]
      rw [ev]
      refine ⟨(s1.1, s1.2.1, L, s1.2.2.2), _, _, rfl, ⟨_, TopA_upd (s' := (s1.1, s1.2.1, L, s1.2.2.2)) k3 (Nat.le_refl _) rfl rfl rfl t2' hB1 ⟨Inv_hold (k := 0) hI (by omega), InvP_aS hG.2 (by decide) (by decide)⟩ (fun k j c1 _ _ => st_ne (Or.inl c1))⟩, Or.inr ⟨rfl, ?_⟩⟩
      rw [st_ne (Or.inl (by decide)), k6]; rfl
  · rw [tb_out _ _ _ (by rw [reqB, if_neg hb]), mB, decide_eq_false hb, Option.bind_some, if_pos bI_f]
    exact Step_no h (n := 3) rfl rfl (by decide) (no 1 (Or.inl rfl))
theorem turn_step (h : TopA T s r A) (p : Int32) : Step T cdX (fX3_turn s p) (fX4_turn r p) := by
  have no : ∀ z : Int32, (z = 1 ∨ z = 2) → fX4_turn_L28 r p z = some (0, st2 r 0 0 z) := fun z hz => by
    unfold fX4_turn_L28
    rcases hz with e | e <;> subst e <;> rfl
  unfold fX3_turn fX4_turn
  by_cases hv : 0 ≤ p.toInt ∧ p.toInt < 6
  · rw [tb_in _ _ _ (by rw [reqV, if_pos hv]), mV, decide_eq_true hv, Option.bind_some, if_neg (show ¬ bI true = 0 by decide)]
    obtain ⟨v, hv6, ev⟩ := in_nI (n := 6) hv
    obtain ⟨hG, hA, hB, -⟩ := id h
    have hI := hG.1
    subst ev
    rw [canTurn_s hA (by omega), isAtGate_spec hB hv6, decide_eq_true hv6, Bool.true_and]
    simp only [Option.bind_some, gl, sf_self]
    by_cases hc : A.1 5 v = 1
    · rw [decide_eq_true hc, tb_in _ _ _ (reqA true), if_neg (show ¬ bI true = 0 by decide)]
      obtain ⟨s1, r1, k1, k2, k3, k4, k5, k6⟩ := TopA_rem (TopA_ref h 0)
      have hA1 : RA s1.2.2.1 A := by rw [k4]; exact hA
      obtain ⟨L, t1, t2, -⟩ := tryTurn_s hA1 hI (v := v) (by omega) (c := true) (by rw [decide_eq_true hv6, decide_eq_true hc]; rfl)
      have t2' : RA L (aTurn A v) := t2
      have hk : fX3_remember (s.1, s.2.1, s.2.2.1, s.2.2.2) = some s1 := k1
      rw [hk, Option.bind_some, t1, Option.bind_some]
      simp (disch := omega) only [gd_in, cl_nI]
      have hIt := Inv_turn hI hv6 hc
      have w5 : (aTurn A v).1 5 v = 1 := by unfold aTurn; rw [aS_1, st_ne (Or.inl (by decide))]; exact hc
      have w8 : (aTurn A v).1 8 v = 1 - A.1 8 v := by unfold aTurn; rw [aS_1, st_eq rfl rfl]
      have e14 : L 14 v = 1 - A.1 8 v := by rw [((t2'.2.2.2.2.1 v hv6).2 w5).2.2, w8]
      have one : fX3_oneIf (1 - A.1 8 v) = some (1 - A.1 8 v, ()) := by
        rcases ((hI.2.2.1 v hv6).2 hc).2 with z | z <;> rw [z] <;> rfl
      rw [e14, one, Option.bind_some]
      unfold fX4_turn_L28
      rw [refused_0, Option.bind_some, if_pos rfl, k2, Option.bind_some]
      obtain ⟨w, m1, m2, m3⟩ := turnIn_spec (row := r1 3) (A := A) (by rw [k5, row0]; exact hB) hI hv6
      rw [m1, Option.bind_some, m2]
      refine ⟨(s1.1, s1.2.1, L, s1.2.2.2), _, _, rfl, ⟨_, TopA_upd (s' := (s1.1, s1.2.1, L, s1.2.2.2)) k3 (Nat.le_refl _) rfl rfl rfl t2' (by rw [sf_eq]; exact m3) ⟨hIt, InvP_aS hG.2 (by decide) (by decide)⟩ (fun k j c1 _ _ => by rw [sf_ne c1])⟩, Or.inr ⟨rfl, ?_⟩⟩
      rw [sf_ne (by decide), k6]; rfl
    · rw [decide_eq_false hc, tb_out _ _ _ (reqA false), if_pos bI_f]
      exact Step_no h (n := 2) rfl rfl (by decide) (no 2 (Or.inr rfl))
  · rw [tb_out _ _ _ (by rw [reqV, if_neg hv]), mV, decide_eq_false hv, Option.bind_some, if_pos bI_f]
    exact Step_no h (n := 3) rfl rfl (by decide) (no 1 (Or.inl rfl))
theorem ticks_step (h : TopA T s r A) (p : Int32) : Step (T + 2000) cdI (fX3_ticks s p) (fX4_ticks r p) := by
  have no : fX4_ticks_L18 r p 1 = some (0, st2 r 0 0 1) := rfl
  have tn : fX3_isTickNumber p = some (bI (decide (1 ≤ p.toInt ∧ p.toInt ≤ 50)), ()) := by
    unfold fX3_isTickNumber
    have l1 : p < (1 : Int32) ↔ p.toInt < 1 := lt_int p (n := 1) (by decide)
    have l2 : (50 : Int32) < p ↔ 50 < p.toInt := by rw [Int32.lt_iff_toInt_lt]; rfl
    by_cases c : p < (1 : Int32)
    · rw [if_pos c, decide_eq_false (fun q => by have := l1.mp c; omega)]; rfl
    · have c' : ¬ p.toInt < 1 := fun q => c (l1.mpr q)
      rw [if_neg c]
      by_cases d : (50 : Int32) < p
      · rw [if_pos d, decide_eq_false (fun q => by have := l2.mp d; omega)]; rfl
      · have d' : ¬ 50 < p.toInt := fun q => d (l2.mpr q)
        rw [if_neg d, decide_eq_true (by omega)]; rfl
  unfold fX3_ticks fX4_ticks
  rw [tn, inI_spec p 1 50 1 50 (by decide) (by decide), Option.bind_some, Option.bind_some]
  by_cases hp : 1 ≤ p.toInt ∧ p.toInt ≤ 50
  · rw [decide_eq_true hp, if_neg (show ¬ bI true = 0 by decide), if_neg (show ¬ bI true = 0 by decide)]
    obtain ⟨n, hn, en⟩ := in_nI (p := p) (n := 51) (by omega)
    subst en
    obtain ⟨hG, hA, hB, -⟩ := id h
    obtain ⟨s1, r1, k1, k2, k3, k4, k5, k6⟩ := TopA_rem (TopA_ref h 0)
    obtain ⟨L, t1, ⟨t2, t3⟩, ⟨t4, t5⟩, -⟩ := passTicks_s (σ := s1.2.2.1) (A := A) (by rw [k4]; exact hA) hG.1 hG.2 (n := n) (by omega)
    rw [k1, Option.bind_some, t1, Option.bind_some]
    unfold fX4_ticks_L18
    rw [refused_0, Option.bind_some, if_pos rfl, k2, Option.bind_some]
    obtain ⟨w, m1, ⟨m2, m3⟩, m4⟩ := ticksIn_spec (row := r1 3) (A := A) (by rw [k5, row0]; exact hB) hG.1 (n := n) (by omega)
    rw [m1, Option.bind_some]
    simp only [gl]
    rw [t2, m2]
    refine ⟨(s1.1, s1.2.1, L.2, s1.2.2.2), _, _, rfl, ⟨_, TopA_upd (s' := (s1.1, s1.2.1, L.2, s1.2.2.2)) k3 (by omega) rfl rfl rfl t3 (by rw [sf_eq]; exact m3) (Good_mono ⟨t4, t5⟩ (by omega)) (fun k j c1 _ _ => by rw [sf_ne c1])⟩, Or.inr ⟨rfl, ?_⟩⟩
    rw [sf_ne (by decide), k6]; rfl
  · rw [decide_eq_false hp, if_pos bI_f, if_pos bI_f]
    exact Step_mono (Step_no h (n := 1) rfl rfl (by decide) no) (by omega)
end AC
