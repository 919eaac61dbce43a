section VI
variable {T T' : Nat} {A A' : AS} {s s' : ST} {r r' : gS}
/-- IndexOutOfBounds is 1, IllegalArgument is 2 -/
def cdY : Nat → Nat := cdL 3 1
theorem bagSetL (hB : RB (r 3) A) {v : Nat} (hv : v < 6) : ∀ (m i f : Nat) (w : Int32), i + m = 20 → m < f → isM w (fun b => b < i ∧ A.1 0 b = nI (v + 1)) → ∃ w', fX4_bagSet_L4 f r (nI v) w (nI i) = some (w', r) ∧ isM w' (fun b => A.1 0 b = nI (v + 1)) := by
  intro m
  induction m with
  | zero =>
    intro i f w hi hf hw
    obtain ⟨f, rfl⟩ : ∃ z, f = z + 1 := ⟨f - 1, by omega⟩
    have : i = 20 := by omega
    subst this
    exact ⟨w, rfl, isM_cong hw (fun b hb => ⟨fun q => q.2, fun q => ⟨hb, q⟩⟩)⟩
  | succ m ih =>
    intro i f w hi hf hw
    obtain ⟨f, rfl⟩ : ∃ z, f = z + 1 := ⟨f - 1, by omega⟩
    simp (disch := omega) only [fX4_bagSet_L4, bookAt_0, Option.bind_some, gd_in, cl_nI, gl, nI_1]
    rw [if_neg (fun q => absurd ((lel_20 (by omega)).mp q) (by omega)), hB.bk (by omega) (by omega)]
    by_cases e : A.1 0 i = nI (v + 1)
    · rw [if_pos e]
      refine ih (i + 1) f _ (by omega) (by omega) (isM_cong (isM_or hw (isM_bit (b := i) (by omega))) (fun b hb => ?_))
      constructor
      · rintro (⟨x, y⟩ | y)
        · exact ⟨by omega, y⟩
        · subst y; exact ⟨by omega, e⟩
      · rintro ⟨x, y⟩
        by_cases q : b = i
        · exact Or.inr q
        · exact Or.inl ⟨by omega, y⟩
    · rw [if_neg e, or0]
      refine ih (i + 1) f _ (by omega) (by omega) (isM_cong hw (fun b hb => ?_))
      constructor
      · rintro ⟨x, y⟩; exact ⟨by omega, y⟩
      · rintro ⟨x, y⟩
        refine ⟨?_, y⟩
        by_cases q : b = i
        · subst q; exact absurd y e
        · omega
theorem bagSet_s (hA : RA s.2.2.1 A) (hB : RB (r 3) A) {v : Nat} (hv : v < 6) : fX4_bagSet r (nI v) = some (s.2.2.1 10 v, r) := by
  obtain ⟨w, k1, k2⟩ := bagSetL hB hv 20 0 gFuel 0 rfl (by decide) (isM_cong isM_0 (fun i _ => ⟨fun q => q.elim, fun q => absurd q.1 (Nat.not_lt_zero _)⟩))
  rw [isM_inj (hA.bag hv) k2]
  exact k1
/-- a call that answers and changes nothing -/
theorem Step_yes (h : TopA T s r A) {code : Nat → Nat} {x : Option ((Nat × ST) ⊕ (Int32 × ST))} {y : Option (Int32 × gS)} {v : Int32} (hx : x = some (.inr (v, s))) (hy : y = some (v, st2 r 0 0 0)) : Step T code x y := ⟨s, v, _, hy, ⟨A, TopA_ref h 0⟩, Or.inr ⟨hx, st_eq rfl rfl⟩⟩
theorem visitor_step (h : TopA T s r A) (p q : Int32) : Step T cdY (fX3_visitor s p q) (fX4_visitor r p q) := by
  have no : ∀ z : Int32, (z = 1 ∨ z = 2) → fX4_visitor_L29 r p q z = some (0, st2 r 0 0 z) := fun z hz => by
    unfold fX4_visitor_L29
    rcases hz with e | e <;> subst e <;> rfl
  unfold fX3_visitor fX4_visitor
  by_cases hv : 0 ≤ p.toInt ∧ p.toInt < 6
  · rw [tb_in _ _ _ (by rw [reqV, if_pos hv]), mV, decide_eq_true hv, Option.bind_some, if_neg (show ¬ bI true = 0 by decide), inI_spec q 0 4 0 4 (by decide) (by decide), Option.bind_some]
    obtain ⟨v, hv6, ev⟩ := in_nI (n := 6) hv
    subst ev
    obtain ⟨hG, hA, hB, -⟩ := id h
    have hB0 : RB ((st2 r 0 0 0) 3) A := by rw [row0]; exact hB
    have ei : (nI v).toNatClampNeg = v := cl_nI (by omega)
    rw [gd_in hv6 (by decide)]
    simp only [ei]
    rw [hA.wh hv6]
    by_cases hq : 0 ≤ q.toInt ∧ q.toInt ≤ 4
    · rw [decide_eq_true hq, if_neg (show ¬ bI true = 0 by decide)]
      obtain ⟨w, hw, ew⟩ := in_nI (p := q) (n := 5) (by omega)
      subst ew
      have l63 : ∀ k, k < 4 → fX4_visitor_L63 (st2 r 0 0 0) (nI v) (nI k) = some (A.1 (5 + k) v, st2 r 0 0 0) := fun k hk => by
        unfold fX4_visitor_L63
        rw [visitorAt_spec, Option.bind_some, gd_in (by omega) (by decide)]
        simp only [row0]
        rw [cl_nI (by omega), hB.vs hk hv6]
      have at0 := isAtGate_spec hB0 hv6
      have vals : ∀ (b : Bool), decide (A.1 5 v = 1) = b → Step T cdY (fX3_visitor_L22 s (nI v) (nI w) (bI b)) (fX4_visitor_L29 r (nI v) (nI w) 0) := fun b hb => by
        unfold fX3_visitor_L22 fX4_visitor_L29
        rw [refused_0, Option.bind_some, if_pos rfl]
        simp only [ei]
        rcases (by omega : w = 0 ∨ w = 1 ∨ w = 2 ∨ w = 3 ∨ w = 4) with rfl | rfl | rfl | rfl | rfl
        · rw [if_pos (show nI 0 = 0 from rfl), if_neg (show ¬ nI 0 = 4 by decide), if_pos (show nI 0 = 0 from rfl), gd_in hv6 (by decide), l63 0 (by omega)]
          exact Step_yes h (by rw [hA.wh hv6]) rfl
        · rw [if_neg (show ¬ nI 1 = 0 by decide), if_pos (show nI 1 = 1 from rfl), if_neg (show ¬ nI 1 = 4 by decide), if_neg (show ¬ nI 1 = 0 by decide), at0, Option.bind_some, hb]
          simp only [gl, sf_self]
          cases b with
          | false =>
            rw [if_pos bI_f, if_pos bI_f]
            exact Step_yes h rfl rfl
          | true =>
            rw [if_neg (show ¬ bI true = 0 by decide), if_neg (show ¬ bI true = 0 by decide), gd_in hv6 (by decide), l63 1 (by omega)]
            exact Step_yes h (by rw [((hA.2.2.2.2.1 v hv6).2 (of_decide_eq_true hb)).1]) rfl
        · rw [if_neg (show ¬ nI 2 = 0 by decide), if_neg (show ¬ nI 2 = 1 by decide), if_pos (show nI 2 = 2 from rfl), if_neg (show ¬ nI 2 = 4 by decide), if_neg (show ¬ nI 2 = 0 by decide), at0, Option.bind_some, hb]
          simp only [gl, sf_self]
          cases b with
          | false =>
            rw [if_pos bI_f, if_pos bI_f]
            exact Step_yes h rfl rfl
          | true =>
            rw [if_neg (show ¬ bI true = 0 by decide), if_neg (show ¬ bI true = 0 by decide), gd_in hv6 (by decide), l63 2 (by omega)]
            exact Step_yes h (by rw [((hA.2.2.2.2.1 v hv6).2 (of_decide_eq_true hb)).2.1]) rfl
        · rw [if_neg (show ¬ nI 3 = 0 by decide), if_neg (show ¬ nI 3 = 1 by decide), if_neg (show ¬ nI 3 = 2 by decide), if_pos (show nI 3 = 3 from rfl), if_neg (show ¬ nI 3 = 4 by decide), if_neg (show ¬ nI 3 = 0 by decide), at0, Option.bind_some, hb]
          simp only [gl, sf_self]
          cases b with
          | false =>
            rw [if_pos bI_f, if_pos bI_f]
            exact Step_yes h rfl rfl
          | true =>
            have c1 := of_decide_eq_true hb
            have one : fX3_oneIf (A.1 8 v) = some (A.1 8 v, ()) := by
              rcases ((hG.1.2.2.1 v hv6).2 c1).2 with z | z <;> rw [z] <;> rfl
            rw [if_neg (show ¬ bI true = 0 by decide), if_neg (show ¬ bI true = 0 by decide), gd_in hv6 (by decide), l63 3 (by omega), ((hA.2.2.2.2.1 v hv6).2 c1).2.2, one]
            exact Step_yes h rfl rfl
        · rw [if_neg (show ¬ nI 4 = 0 by decide), if_neg (show ¬ nI 4 = 1 by decide), if_neg (show ¬ nI 4 = 2 by decide), if_neg (show ¬ nI 4 = 3 by decide), if_pos (show nI 4 = 4 from rfl), if_pos (show nI 4 = 4 from rfl), gd_in hv6 (by decide), bagSet_s (s := s) hA hB0 hv6]
          exact Step_yes h rfl rfl
      by_cases c : A.1 5 v = 1
      · rw [if_pos c]; exact vals true (decide_eq_true c)
      · rw [if_neg c]; exact vals false (decide_eq_false c)
    · rw [decide_eq_false hq, if_pos bI_f]
      have n0 : ∀ w : Nat, w < 5 → ¬ q = nI w := fun w hw z => hq (by
        subst z
        have : (nI w).toInt = (w : Int) := Int32.toInt_ofNat_of_lt (by omega)
        omega)
      have l22 : ∀ b, fX3_visitor_L22 s (nI v) q b = some (.inl (1, s)) := fun b => by
        unfold fX3_visitor_L22
        rw [if_neg (show ¬ q = 0 from n0 0 (by omega)), if_neg (show ¬ q = 1 from n0 1 (by omega)), if_neg (show ¬ q = 2 from n0 2 (by omega)), if_neg (show ¬ q = 3 from n0 3 (by omega)), if_neg (show ¬ q = 4 from n0 4 (by omega))]
      rw [l22, l22]
      have : (if A.1 5 v = 1 then some (.inl (1, s)) else some (.inl (1, s) : (Nat × ST) ⊕ (Int32 × ST))) = some (.inl (1, s)) := by split <;> rfl
      rw [this]
      exact Step_no h (n := 1) rfl rfl (by decide) (no 2 (Or.inr rfl))
  · rw [tb_out _ _ _ (by rw [reqV, if_neg hv]), mV, decide_eq_false hv, Option.bind_some, if_pos bI_f]
    exact Step_no h (n := 3) rfl rfl (by decide) (no 1 (Or.inl rfl))
end VI
