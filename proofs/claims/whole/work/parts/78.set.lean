section SE
variable {T T' : Nat} {A A' : AS} {s s' : ST} {r r' : gS}
def okSet (p q : Int32) : Bool := decide ((0 ≤ p.toInt ∧ p.toInt ≤ 2 ∧ 0 ≤ q.toInt ∧ q.toInt ≤ 15) ∨ (p.toInt = 3 ∧ 1 ≤ q.toInt ∧ q.toInt ≤ 3) ∨ (p.toInt = 4 ∧ 0 ≤ q.toInt ∧ q.toInt ≤ 9))
theorem ifrng (q a b : Int32) {x y : Int} (ha : a.toInt = x) (hb : b.toInt = y) : (if q < a then some ((0 : Int32), ()) else (if b < q then some ((0 : Int32), ()) else some ((1 : Int32), ()))) = some (bI (decide (x ≤ q.toInt ∧ q.toInt ≤ y)), ()) := by
  have l0 : q < a ↔ q.toInt < x := by rw [Int32.lt_iff_toInt_lt, ha]
  have l1 : b < q ↔ y < q.toInt := by rw [Int32.lt_iff_toInt_lt, hb]
  by_cases c : q < a
  · rw [if_pos c, decide_eq_false (fun z => by have := l0.mp c; omega)]; rfl
  · have c' : ¬ q.toInt < x := fun z => c (l0.mpr z)
    rw [if_neg c]
    by_cases d : b < q
    · rw [if_pos d, decide_eq_false (fun z => by have := l1.mp d; omega)]; rfl
    · have d' : ¬ y < q.toInt := fun z => d (l1.mpr z)
      rw [if_neg d, decide_eq_true (by omega)]; rfl
theorem eqI {p : Int32} {n : Nat} (hn : n < 2147483648) : p = nI n ↔ p.toInt = (n : Int) := by
  rw [← Int32.toInt_inj, show (nI n).toInt = (n : Int) from Int32.toInt_ofNat_of_lt hn]
theorem isSet_c (p q : Int32) : fX3_isSetting p q = some (bI (okSet p q), ()) := by
  have e : fX3_isGate p = some (bI (decide (0 ≤ p.toInt ∧ p.toInt < 3)), ()) := rng_any p (n := 3) (by decide)
  have e3 : p = (3 : Int32) ↔ p.toInt = 3 := eqI (n := 3) (by decide)
  have e4 : p = (4 : Int32) ↔ p.toInt = 4 := eqI (n := 4) (by decide)
  unfold fX3_isSetting okSet
  rw [e, Option.bind_some, ifrng q 1 3 (x := 1) (y := 3) (by decide) (by decide), ifrng q 0 9 (x := 0) (y := 9) (by decide) (by decide), ifrng q 0 15 (x := 0) (y := 15) (by decide) (by decide)]
  by_cases c : 0 ≤ p.toInt ∧ p.toInt < 3
  · rw [decide_eq_true c, if_neg (show ¬ bI true = 0 by decide)]
    congr 3
    apply decide_eq_decide.mpr
    omega
  · rw [decide_eq_false c, if_pos bI_f]
    by_cases c3 : p = 3
    · have := e3.mp c3
      rw [if_pos c3]
      congr 3
      apply decide_eq_decide.mpr
      omega
    · rw [if_neg c3]
      have n3 : ¬ p.toInt = 3 := fun z => c3 (e3.mpr z)
      by_cases c4 : p = 4
      · have := e4.mp c4
        rw [if_pos c4]
        congr 3
        apply decide_eq_decide.mpr
        omega
      · rw [if_neg c4]
        have n4 : ¬ p.toInt = 4 := fun z => c4 (e4.mpr z)
        rw [decide_eq_false (by omega)]; rfl
theorem isSet_r (r : gS) (p q : Int32) : fX4_set r p q = fX4_set_L63 r p q (bI (okSet p q)) := by
  have e3 : p = (3 : Int32) ↔ p.toInt = 3 := eqI (n := 3) (by decide)
  have e4 : p = (4 : Int32) ↔ p.toInt = 4 := eqI (n := 4) (by decide)
  have l41 : ¬ (0 ≤ p.toInt ∧ p.toInt ≤ 2 ∧ 0 ≤ q.toInt ∧ q.toInt ≤ 15) → ¬ (p.toInt = 3 ∧ 1 ≤ q.toInt ∧ q.toInt ≤ 3) → fX4_set_L41 r p q = fX4_set_L63 r p q (bI (okSet p q)) := fun n1 n2 => by
    unfold fX4_set_L41 okSet
    by_cases c4 : p = 4
    · have h4 := e4.mp c4
      rw [if_pos c4, inI_spec q 0 9 0 9 (by decide) (by decide), Option.bind_some]
      by_cases c : 0 ≤ q.toInt ∧ q.toInt ≤ 9
      · rw [decide_eq_true c, if_neg (show ¬ bI true = 0 by decide), decide_eq_true (by omega)]; rfl
      · rw [decide_eq_false c, if_pos bI_f, decide_eq_false (by omega)]; rfl
    · have n4 : ¬ p.toInt = 4 := fun z => c4 (e4.mpr z)
      rw [if_neg c4, decide_eq_false (by omega)]; rfl
  have l24 : ¬ (0 ≤ p.toInt ∧ p.toInt ≤ 2 ∧ 0 ≤ q.toInt ∧ q.toInt ≤ 15) → fX4_set_L24 r p q = fX4_set_L63 r p q (bI (okSet p q)) := fun n1 => by
    unfold fX4_set_L24
    by_cases c3 : p = 3
    · have h3 := e3.mp c3
      rw [if_pos c3, inI_spec q 1 3 1 3 (by decide) (by decide), Option.bind_some]
      by_cases c : 1 ≤ q.toInt ∧ q.toInt ≤ 3
      · rw [decide_eq_true c, if_neg (show ¬ bI true = 0 by decide)]
        unfold okSet
        rw [decide_eq_true (by omega)]; rfl
      · rw [decide_eq_false c, if_pos bI_f]; exact l41 n1 (by omega)
    · have n3 : ¬ p.toInt = 3 := fun z => c3 (e3.mpr z)
      rw [if_neg c3]; exact l41 n1 (by omega)
  unfold fX4_set
  rw [inI_spec p 0 2 0 2 (by decide) (by decide), Option.bind_some]
  by_cases c : 0 ≤ p.toInt ∧ p.toInt ≤ 2
  · rw [decide_eq_true c, if_neg (show ¬ bI true = 0 by decide), inI_spec q 0 15 0 15 (by decide) (by decide), Option.bind_some]
    by_cases d : 0 ≤ q.toInt ∧ q.toInt ≤ 15
    · rw [decide_eq_true d, if_neg (show ¬ bI true = 0 by decide)]
      unfold okSet
      rw [decide_eq_true (by omega)]; rfl
    · rw [decide_eq_false d, if_pos bI_f]; exact l24 (by omega)
  · rw [decide_eq_false c, if_pos bI_f]; exact l24 (by omega)
theorem set_step (h : TopA T s r A) (p q : Int32) : Step T cdI (fX3_set s p q) (fX4_set r p q) := by
  unfold fX3_set
  rw [isSet_c, isSet_r, Option.bind_some]
  unfold fX4_set_L63
  cases hc : okSet p q with
  | false =>
    rw [if_pos bI_f, if_pos bI_f]
    exact Step_no h (n := 1) (z := 1) (v := 0) rfl rfl (by decide) rfl
  | true =>
    rw [if_neg (show ¬ bI true = 0 by decide), if_neg (show ¬ bI true = 0 by decide)]
    unfold okSet at hc
    have hc' := of_decide_eq_true hc
    obtain ⟨w, hw, ew⟩ := in_nI (p := p) (n := 5) (by omega)
    subst ew
    obtain ⟨hG, hA, hB, -⟩ := id h
    obtain ⟨s1, r1, k1, k2, k3, k4, k5, k6⟩ := TopA_rem (TopA_ref h 0)
    obtain ⟨L, t1, ⟨t2, t3⟩, -⟩ := change_s (σ := s1.2.2.1) (A := A) (w := w) (x := q) (by rw [k4]; exact hA) hG.1 hw
    rw [k1, Option.bind_some, t1, Option.bind_some]
    unfold fX4_set_L74
    rw [refused_0, Option.bind_some, if_pos rfl, k2, Option.bind_some]
    have r3 : r1 3 = r 3 := by rw [k5, row0]
    have l106 : ∀ j : Nat, j < 233 → fX4_set_L106 r1 q (nI j) = some (r 3 j, st2 r1 3 j q) := fun j hj => by
      unfold fX4_set_L106
      rw [gd_in hj (by decide)]
      simp (disch := omega) only [gl, cl_nI]
      rw [gd_in hj (by decide), r3]
    have fin : ∀ (j : Nat) (B : AS), L.1 = r 3 j → RA L.2 B → RB (upd (r 3) j q) B → Good T B → Step T cdI (some (.inr (L.1, (s1.1, s1.2.1, L.2, s1.2.2.2)))) (some (r 3 j, st2 r1 3 j q)) := fun j B e1 e2 e3 e4 => by
      refine ⟨(s1.1, s1.2.1, L.2, s1.2.2.2), L.1, st2 r1 3 j q, by rw [e1], ⟨B, TopA_upd (s' := (s1.1, s1.2.1, L.2, s1.2.2.2)) k3 (Nat.le_refl _) rfl rfl rfl e2 (by rw [st2_row, r3]; exact e3) e4 (fun k j' c1 _ _ => st_ne (Or.inl c1))⟩, Or.inr ⟨rfl, ?_⟩⟩
      rw [st_ne (Or.inl (by decide)), k6]; rfl
    have q0 := qlen_of hG.1
    have l0 := hG.1.ql
    by_cases e3 : w < 3
    · have n3 : ¬ (3 : Int32) ≤ nI w := fun z => by have := (lel_3 (by omega)).mp z; omega
      rw [if_pos e3] at t2 t3
      rw [if_neg n3, gateAt_0, Option.bind_some]
      show Step T cdI _ (fX4_set_L106 r1 q (nI (124 + 4 * w + 0)))
      rw [l106 _ (by omega)]
      exact fin _ _ (t2.trans (hB.2.2.1 w e3).1.symm) t3 (RB_gt hB q0 l0 (k := 0) (by omega) e3 q) ⟨Inv_aS hG.1 (by omega), InvP_aS hG.2 (by decide) (by decide)⟩
    · have n3 : (3 : Int32) ≤ nI w := (lel_3 (by omega)).mpr (by omega)
      rw [if_neg e3] at t2 t3
      rw [if_pos n3]
      by_cases e4 : w = 3
      · subst e4
        rw [if_pos rfl] at t2 t3
        show Step T cdI _ (fX4_set_L106 r1 q (nI 196))
        rw [l106 _ (by omega)]
        exact fin _ _ (t2.trans hB.2.2.2.2.1.1.symm) t3 (RB_gl hB q0 l0 (i := 196) (j := 0) (by omega) q) ⟨Inv_aS hG.1 (by omega), InvP_aS hG.2 (by decide) (by decide)⟩
      · have : w = 4 := by omega
        subst this
        rw [if_neg (by decide)] at t2 t3
        show Step T cdI _ (fX4_set_L106 r1 q (nI 197))
        rw [l106 _ (by omega)]
        exact fin _ _ (t2.trans hB.2.2.2.2.1.2.1.symm) t3 (RB_gl hB q0 l0 (i := 197) (j := 1) (by omega) q) ⟨Inv_aS hG.1 (by omega), InvP_aS hG.2 (by decide) (by decide)⟩
end SE
