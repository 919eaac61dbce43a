section PT
variable {T T' : Nat} {B : AS} {σ : gS} {s : ST} {r : gS}
/-- one act on what is tried, the class's library and the reference's row -/
def Pt (T : Nat) (B : AS) (r : gS) (x : Option (Int32 × gS)) (y : Option (Int32 × gS)) : Prop := ∃ (c : Bool) (L : gS) (row : Nat → Int32) (B' : AS), x = some (bI c, L) ∧ y = some (bI c, stf r 4 row) ∧ RA L B' ∧ RB row B' ∧ Good T B' ∧ ∀ i, B'.1 11 i = B.1 11 i
/-- the same with the whole object -/
def Pr (T : Nat) (s : ST) (r : gS) (x : Option (Int32 × ST)) (y : Option (Int32 × gS)) : Prop := ∃ (c : Bool) (L : gS) (row : Nat → Int32) (B' : AS), x = some (bI c, (s.1, s.2.1, s.2.2.1, L, s.2.2.2.2)) ∧ y = some (bI c, stf r 4 row) ∧ RA L B' ∧ RB row B' ∧ Good T B'
theorem Pr_mono {x : Option (Int32 × ST)} {y : Option (Int32 × gS)} (h : Pr T s r x y) (hT : T ≤ T') : Pr T' s r x y := by
  obtain ⟨c, L, row, B', h1, h2, h3, h4, h5⟩ := h
  exact ⟨c, L, row, B', h1, h2, h3, h4, Good_mono h5 hT⟩
theorem ifb {α : Type} (c : Bool) (u : α) : (if bI c = 0 then some ((0 : Int32), u) else some ((1 : Int32), u)) = some (bI c, u) := by cases c <;> rfl
theorem mVn {v : Nat} (hv : v < 2147483648) : fX4_isVisitor (nI v) = some (bI (decide (v < 6)), ()) := by
  have : (nI v).toInt = (v : Int) := Int32.toInt_ofNat_of_lt (by omega)
  rw [mV, this]
  by_cases c : v < 6
  · rw [decide_eq_true c, decide_eq_true (by omega)]
  · rw [decide_eq_false c, decide_eq_false (by omega)]
theorem mBn {v : Nat} (hv : v < 2147483648) : fX4_isBook (nI v) = some (bI (decide (v < 20)), ()) := by
  have : (nI v).toInt = (v : Int) := Int32.toInt_ofNat_of_lt (by omega)
  rw [mB, this]
  by_cases c : v < 20
  · rw [decide_eq_true c, decide_eq_true (by omega)]
  · rw [decide_eq_false c, decide_eq_false (by omega)]
theorem mGn {v : Nat} (hv : v < 2147483648) : fX4_isGate (nI v) = some (bI (decide (v < 3)), ()) := by
  have : (nI v).toInt = (v : Int) := Int32.toInt_ofNat_of_lt (by omega)
  rw [mG, this]
  by_cases c : v < 3
  · rw [decide_eq_true c, decide_eq_true (by omega)]
  · rw [decide_eq_false c, decide_eq_false (by omega)]
theorem Pt_no (hB : RB (r 4) B) (hG : Good T B) {x y : Option (Int32 × gS)} {L : gS} (hx : x = some (0, L)) (hL : RA L B) (hy : y = some (0, r)) : Pt T B r x y := ⟨false, L, r 4, B, hx, by rw [sf_self]; exact hy, hL, hB, hG, fun _ => rfl⟩
theorem Pr_no (hA : RA s.2.2.2.1 B) (hB : RB (r 4) B) (hG : Good T B) (c : Bool) {x : Option (Int32 × ST)} {y : Option (Int32 × gS)} (hx : x = some (bI c, s)) (hy : y = some (bI c, r)) : Pr T s r x y := ⟨c, s.2.2.2.1, r 4, B, hx, by rw [sf_self]; exact hy, hA, hB, hG⟩
theorem Pr_Pt {x y : Option (Int32 × gS)} (h : Pt T B r x y) : Pr T s r (x.bind fun r11 => gl (s.1, s.2.1, s.2.2.1, r11.2, s.2.2.2.2) (fun u12 => if r11.1 = 0 then some ((0 : Int32), u12) else some ((1 : Int32), u12))) (y.bind fun r8 => if r8.1 = 0 then some ((0 : Int32), r8.2) else some ((1 : Int32), r8.2)) := by
  obtain ⟨c, L, row, B', h1, h2, h3, h4, h5, -⟩ := h
  subst h1
  subst h2
  exact ⟨c, L, row, B', ifb c _, ifb c _, h3, h4, h5⟩
theorem Pr_if {x : Option (Int32 × ST)} {y : Option (Int32 × gS)} (h : Pr T s r x y) : Pr T s r (x.bind fun r14 => if r14.1 = 0 then some ((0 : Int32), r14.2) else some ((1 : Int32), r14.2)) (y.bind fun r8 => if r8.1 = 0 then some ((0 : Int32), r8.2) else some ((1 : Int32), r8.2)) := by
  obtain ⟨c, L, row, B', h1, h2, h3, h4, h5⟩ := h
  subst h1
  subst h2
  exact ⟨c, L, row, B', ifb c _, ifb c _, h3, h4, h5⟩
theorem Pr_gd {x y : Option (Int32 × gS)} (h : Pt T B r x y) : Pr T s r (x.bind fun r2 => gl (s.1, s.2.1, s.2.2.1, r2.2, s.2.2.2.2) (fun u3 => gd (r2.1 = 0 ∨ r2.1 = 1) (some (r2.1, u3)))) y := by
  obtain ⟨c, L, row, B', h1, h2, h3, h4, h5, -⟩ := h
  subst h1
  exact ⟨c, L, row, B', gd_t (bI_01 c) _, h2, h3, h4, h5⟩
theorem aS11 {k i : Nat} {x : Int32} (h : 11 ≠ k) (j : Nat) : (aS B k i x).1 11 j = B.1 11 j := by rw [aS_1]; exact st_ne (Or.inl h)
theorem st2_stf (r : gS) (k j : Nat) (x : Int32) : st2 r k j x = stf r k (upd (r k) j x) := rfl
theorem pTake (hA : RA σ B) (hB : RB (r 4) B) (hG : Good T B) {v b : Nat} (hv : v < 2147483648) (hb : b < 2147483648) : Pt T B r (fX1_tryTake σ (nI v) (nI b)) (fX4_takes r (nI v) (nI b)) := by
  unfold fX4_takes
  rw [mVn hv, Option.bind_some]
  by_cases c1 : v < 6
  · rw [decide_eq_true c1, if_neg (show ¬ bI true = 0 by decide), mBn hb, Option.bind_some]
    by_cases c2 : b < 20
    · rw [decide_eq_true c2, if_neg (show ¬ bI true = 0 by decide), canTake_spec hB c1 c2, Option.bind_some]
      simp only [gl, sf_self]
      cases hc : aCanTake B v b with
      | false =>
        obtain ⟨L, t1, t2, -⟩ := tryTake_s hA hG.1 hv hb (c := false) (by rw [hc, Bool.and_false])
        rw [if_pos bI_f]
        exact Pt_no hB hG t1 t2 rfl
      | true =>
        obtain ⟨L, t1, t2, -⟩ := tryTake_s hA hG.1 hv hb (c := true) (by rw [hc, decide_eq_true (⟨c1, c2⟩ : v < 6 ∧ b < 20)]; rfl)
        have t2' : RA L (aS B 0 b (nI (v + 1))) := t2
        rw [if_neg (show ¬ bI true = 0 by decide)]
        simp (disch := omega) only [bookAt_0, Option.bind_some, gd_in, cl_nI, nI_1]
        rw [st2_stf]
        exact ⟨true, L, _, _, t1, rfl, t2', RB_bk hB (qlen_of hG.1) hG.1.ql (k := 0) (by omega) c2 _, ⟨Inv_hold hG.1 (by omega), InvP_aS hG.2 (by decide) (by decide)⟩, fun i => aS11 (by decide) i⟩
    · obtain ⟨L, t1, t2, -⟩ := tryTake_s hA hG.1 hv hb (c := false) (by rw [decide_eq_false (show ¬ (v < 6 ∧ b < 20) from fun z => c2 z.2)]; rfl)
      rw [decide_eq_false c2, if_pos bI_f]
      exact Pt_no hB hG t1 t2 rfl
  · obtain ⟨L, t1, t2, -⟩ := tryTake_s hA hG.1 hv hb (c := false) (by rw [decide_eq_false (show ¬ (v < 6 ∧ b < 20) from fun z => c1 z.1)]; rfl)
    rw [decide_eq_false c1, if_pos bI_f]
    exact Pt_no hB hG t1 t2 rfl
theorem pPut (hA : RA σ B) (hB : RB (r 4) B) (hG : Good T B) {b : Nat} (hb : b < 2147483648) : Pt T B r (fX1_tryPutBack σ (nI b)) (fX4_marks r (nI b) 0) := by
  unfold fX4_marks
  rw [mBn hb, Option.bind_some]
  by_cases c2 : b < 20
  · rw [decide_eq_true c2, if_neg (show ¬ bI true = 0 by decide), if_neg (show ¬ (2 : Int32) < 0 by decide), if_pos rfl, canPutBack_spec hB hG.1 c2, Option.bind_some]
    simp only [gl, sf_self]
    cases hc : aCanPut B b with
    | false =>
      obtain ⟨L, t1, t2, -⟩ := tryPut_s hA hG.1 hb (c := false) (by rw [hc, Bool.and_false])
      rw [if_pos bI_f]
      exact Pt_no hB hG t1 t2 rfl
    | true =>
      obtain ⟨L, t1, t2, -⟩ := tryPut_s hA hG.1 hb (c := true) (by rw [hc, decide_eq_true c2]; rfl)
      have t2' : RA L (aS B 0 b 0) := t2
      rw [if_neg (show ¬ bI true = 0 by decide)]
      unfold fX4_marks_L46 fX4_marks_L60
      rw [if_pos rfl]
      simp (disch := omega) only [bookAt_0, Option.bind_some, gd_in, cl_nI, gl]
      rw [if_neg (by decide), st2_stf]
      exact ⟨true, L, _, _, t1, rfl, t2', RB_bk hB (qlen_of hG.1) hG.1.ql (k := 0) (by omega) c2 _, ⟨Inv_hold (k := 0) hG.1 (by omega), InvP_aS hG.2 (by decide) (by decide)⟩, fun i => aS11 (by decide) i⟩
  · obtain ⟨L, t1, t2, -⟩ := tryPut_s hA hG.1 hb (c := false) (by rw [decide_eq_false c2]; rfl)
    rw [decide_eq_false c2, if_pos bI_f]
    exact Pt_no hB hG t1 t2 rfl
theorem pBor (hA : RA σ B) (hB : RB (r 4) B) (hG : Good T B) {b : Nat} (hb : b < 2147483648) : Pt T B r (fX1_tryBorrow σ (nI b)) (fX4_marks r (nI b) 1) := by
  unfold fX4_marks
  rw [mBn hb, Option.bind_some]
  by_cases c2 : b < 20
  · rw [decide_eq_true c2, if_neg (show ¬ bI true = 0 by decide), if_neg (show ¬ (2 : Int32) < 1 by decide), if_neg (by decide), show (2 : Int32) - 1 = 1 from rfl, canBorrow_spec hB hG.1 c2, Option.bind_some]
    simp only [gl, sf_self]
    cases hc : aCanBorrow B b 1 with
    | false =>
      obtain ⟨L, t1, t2, -⟩ := tryBor_s hA hG.1 hb (c := false) (by rw [hc, Bool.and_false])
      rw [if_pos bI_f]
      exact Pt_no hB hG t1 t2 rfl
    | true =>
      obtain ⟨L, t1, t2, -⟩ := tryBor_s hA hG.1 hb (c := true) (by rw [hc, decide_eq_true c2]; rfl)
      have t2' : RA L (aS B 1 b 1) := t2
      rw [if_neg (show ¬ bI true = 0 by decide)]
      unfold fX4_marks_L46 fX4_marks_L60
      rw [if_neg (by decide)]
      simp (disch := omega) only [bookAt_1, Option.bind_some, gd_in, cl_nI, gl]
      rw [if_pos trivial, st2_stf]
      exact ⟨true, L, _, _, t1, rfl, t2', RB_bk hB (qlen_of hG.1) hG.1.ql (k := 1) (by omega) c2 _, ⟨Inv_bor hG.1 (Or.inr rfl), InvP_aS hG.2 (by decide) (by decide)⟩, fun i => aS11 (by decide) i⟩
  · obtain ⟨L, t1, t2, -⟩ := tryBor_s hA hG.1 hb (c := false) (by rw [decide_eq_false c2]; rfl)
    rw [decide_eq_false c2, if_pos bI_f]
    exact Pt_no hB hG t1 t2 rfl
theorem pBring (hA : RA σ B) (hB : RB (r 4) B) (hG : Good T B) {b : Nat} (hb : b < 2147483648) : Pt T B r (fX1_tryBringBack σ (nI b)) (fX4_marks r (nI b) 2) := by
  unfold fX4_marks
  rw [mBn hb, Option.bind_some]
  by_cases c2 : b < 20
  · rw [decide_eq_true c2, if_neg (show ¬ bI true = 0 by decide), if_neg (show ¬ (2 : Int32) < 2 by decide), if_neg (by decide), show (2 : Int32) - 2 = 0 from rfl, canBorrow_spec hB hG.1 c2, Option.bind_some]
    simp only [gl, sf_self]
    cases hc : aCanBorrow B b 0 with
    | false =>
      obtain ⟨L, t1, t2, -⟩ := tryBring_s hA hG.1 hb (c := false) (by rw [hc, Bool.and_false])
      rw [if_pos bI_f]
      exact Pt_no hB hG t1 t2 rfl
    | true =>
      obtain ⟨L, t1, t2, -⟩ := tryBring_s hA hG.1 hb (c := true) (by rw [hc, decide_eq_true c2]; rfl)
      have t2' : RA L (aS B 1 b 0) := t2
      rw [if_neg (show ¬ bI true = 0 by decide)]
      unfold fX4_marks_L46 fX4_marks_L60
      rw [if_neg (by decide)]
      simp (disch := omega) only [bookAt_1, Option.bind_some, gd_in, cl_nI, gl]
      rw [if_neg (by decide), st2_stf]
      exact ⟨true, L, _, _, t1, rfl, t2', RB_bk hB (qlen_of hG.1) hG.1.ql (k := 1) (by omega) c2 _, ⟨Inv_bor hG.1 (Or.inl rfl), InvP_aS hG.2 (by decide) (by decide)⟩, fun i => aS11 (by decide) i⟩
  · obtain ⟨L, t1, t2, -⟩ := tryBring_s hA hG.1 hb (c := false) (by rw [decide_eq_false c2]; rfl)
    rw [decide_eq_false c2, if_pos bI_f]
    exact Pt_no hB hG t1 t2 rfl
theorem pWalk (hA : RA σ B) (hB : RB (r 4) B) (hG : Good T B) {v g : Nat} (hv : v < 2147483648) (hg : g < 2147483648) (out : Bool) : Pt T B r (fX1_tryWalk σ (nI v) (nI g) (bI out)) (fX4_walks r (nI v) (nI g) (bI out)) := by
  unfold fX4_walks
  rw [mVn hv, Option.bind_some]
  by_cases c1 : v < 6
  · rw [decide_eq_true c1, if_neg (show ¬ bI true = 0 by decide), mGn hg, Option.bind_some]
    by_cases c2 : g < 3
    · rw [decide_eq_true c2, if_neg (show ¬ bI true = 0 by decide), canWalk_spec hB c1, Option.bind_some]
      simp only [gl, sf_self]
      cases hc : aCanWalk B v (bI out) with
      | false =>
        obtain ⟨L, t1, t2, -⟩ := tryWalk_s hA hv hg out (c := false) (by rw [hc, Bool.and_false])
        rw [if_pos bI_f]
        exact Pt_no hB hG t1 t2 rfl
      | true =>
        obtain ⟨L, t1, t2, -⟩ := tryWalk_s hA hv hg out (c := true) (by rw [hc, decide_eq_true (⟨c1, c2⟩ : v < 6 ∧ g < 3)]; rfl)
        have t2' : RA L (aWalk B v (nI g) out) := t2
        obtain ⟨w, m1, m2, m3⟩ := walkIn_spec hB hG.1 c1 (nI g) out
        rw [if_neg (show ¬ bI true = 0 by decide), m1, Option.bind_some]
        exact ⟨true, L, _, _, t1, rfl, t2', m3, ⟨Inv_walk hG.1 c2 out, InvP_walk hG.2 v (nI g) out⟩, fun i => by
          unfold aWalk
          rw [aS11 (by decide), aS11 (by decide), aS11 (by decide), aS11 (by decide)]⟩
    · obtain ⟨L, t1, t2, -⟩ := tryWalk_s hA hv hg out (c := false) (by rw [decide_eq_false (show ¬ (v < 6 ∧ g < 3) from fun z => c2 z.2)]; rfl)
      rw [decide_eq_false c2, if_pos bI_f]
      exact Pt_no hB hG t1 t2 rfl
  · obtain ⟨L, t1, t2, -⟩ := tryWalk_s hA hv hg out (c := false) (by rw [decide_eq_false (show ¬ (v < 6 ∧ g < 3) from fun z => c1 z.1)]; rfl)
    rw [decide_eq_false c1, if_pos bI_f]
    exact Pt_no hB hG t1 t2 rfl
theorem pTurn (hA : RA σ B) (hB : RB (r 4) B) (hG : Good T B) {v : Nat} (hv : v < 2147483648) : Pt T B r (fX1_tryTurn σ (nI v)) (fX4_turns r (nI v)) := by
  unfold fX4_turns
  rw [mVn hv, Option.bind_some]
  by_cases c1 : v < 6
  · rw [decide_eq_true c1, if_neg (show ¬ bI true = 0 by decide), isAtGate_spec hB c1, Option.bind_some]
    simp only [gl, sf_self]
    by_cases hw : B.1 5 v = 1
    · obtain ⟨L, t1, t2, -⟩ := tryTurn_s hA hG.1 hv (c := true) (by rw [decide_eq_true c1, decide_eq_true hw]; rfl)
      have t2' : RA L (aTurn B v) := t2
      obtain ⟨w, m1, m2, m3⟩ := turnIn_spec hB hG.1 c1
      rw [decide_eq_true hw, if_neg (show ¬ bI true = 0 by decide), m1, Option.bind_some]
      exact ⟨true, L, _, _, t1, rfl, t2', m3, ⟨Inv_turn hG.1 c1 hw, InvP_aS hG.2 (by decide) (by decide)⟩, fun i => aS11 (by decide) i⟩
    · obtain ⟨L, t1, t2, -⟩ := tryTurn_s hA hG.1 hv (c := false) (by rw [decide_eq_false hw, Bool.and_false])
      rw [decide_eq_false hw, if_pos bI_f]
      exact Pt_no hB hG t1 t2 rfl
  · obtain ⟨L, t1, t2, -⟩ := tryTurn_s hA hG.1 hv (c := false) (by rw [decide_eq_false c1]; rfl)
    rw [decide_eq_false c1, if_pos bI_f]
    exact Pt_no hB hG t1 t2 rfl
theorem pBook (hA : RA s.2.2.2.1 B) (hB : RB (r 4) B) (hG : Good T B) {b k : Nat} (hb : b < 2147483648) (hk : k < 2147483648) : Pr T s r (fX3_doBookCommand s (nI b) (nI k)) (fX4_marks r (nI b) (nI k)) := by
  unfold fX3_doBookCommand
  by_cases c : k ≤ 2
  · rcases (by omega : k = 0 ∨ k = 1 ∨ k = 2) with rfl | rfl | rfl
    · rw [if_pos (show nI 0 = 0 from rfl)]
      exact Pr_gd (pPut hA hB hG hb)
    · rw [if_neg (show ¬ nI 1 = 0 by decide), if_pos (show nI 1 = 1 from rfl)]
      exact Pr_gd (pBor hA hB hG hb)
    · rw [if_neg (show ¬ nI 2 = 0 by decide), if_neg (show ¬ nI 2 = 1 by decide), if_pos (show nI 2 = 2 from rfl)]
      exact Pr_gd (pBring hA hB hG hb)
  · have n0 : ∀ j, j < 3 → ¬ nI k = nI j := fun j hj z => by
      have := (nI_inj hk (by omega)).mp z
      omega
    rw [if_neg (show ¬ nI k = 0 from n0 0 (by omega)), if_neg (show ¬ nI k = 1 from n0 1 (by omega)), if_neg (show ¬ nI k = 2 from n0 2 (by omega))]
    refine Pr_no hA hB hG false rfl ?_
    unfold fX4_marks
    rw [mBn hb, Option.bind_some]
    by_cases c2 : b < 20
    · rw [decide_eq_true c2, if_neg (show ¬ bI true = 0 by decide), if_pos (show (2 : Int32) < nI k from (lt_nI (a := 2) (b := k) (by omega) hk).mpr (by omega))]; rfl
    · rw [decide_eq_false c2, if_pos bI_f]; rfl
end PT
