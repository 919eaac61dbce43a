section BK
variable {T T' : Nat} {A A' : AS} {s s' : ST} {r r' : gS}
theorem oneIf_bI (c : Bool) : fX3_oneIf (bI c) = some (bI c, ()) := by cases c <;> rfl
theorem bI_eq {x : Int32} (h : x = 0 ∨ x = 1) : bI (decide (x = 1)) = x := by
  rcases h with e | e <;> subst e <;> rfl
theorem book_step (h : TopA T s r A) (p q : Int32) : Step T cdY (fX3_book s p q) (fX4_book r p q) := by
  have no : ∀ z : Int32, (z = 1 ∨ z = 2) → fX4_book_L29 r p q z = some (0, st2 r 0 0 z) := fun z hz => by
    unfold fX4_book_L29
    rcases hz with e | e <;> subst e <;> rfl
  unfold fX3_book fX4_book
  by_cases hb : 0 ≤ p.toInt ∧ p.toInt < 20
  · rw [tb_in _ _ _ (by rw [reqB, if_pos hb]), mB, decide_eq_true hb, Option.bind_some, if_neg (show ¬ bI true = 0 by decide), inI_spec q 0 4 0 4 (by decide) (by decide), Option.bind_some]
    obtain ⟨b, hb20, eb⟩ := in_nI (n := 20) hb
    subst eb
    obtain ⟨hG, hA, hB, -⟩ := id h
    have hI := hG.1
    have ei : (nI b).toNatClampNeg = b := cl_nI (by omega)
    by_cases hq : 0 ≤ q.toInt ∧ q.toInt ≤ 4
    · rw [decide_eq_true hq, if_neg (show ¬ bI true = 0 by decide)]
      obtain ⟨w, hw, ew⟩ := in_nI (p := q) (n := 5) (by omega)
      subst ew
      have ref : ∀ x : Int32, (if w = 0 then x = aHold A b else x = A.1 w b) → fX4_book_L29 r (nI b) (nI w) 0 = some (x, st2 r 0 0 0) := fun x hx => by
        unfold fX4_book_L29
        rw [refused_0, Option.bind_some, if_pos rfl]
        by_cases e : w = 0
        · subst e
          rw [if_pos rfl] at hx
          rw [if_pos (show nI 0 ≤ 0 by decide), bookAt_0, Option.bind_some, gd_in (by omega) (by decide), Option.bind_some, gd_in (by omega) (by decide)]
          simp (disch := omega) only [row0, cl_nI]
          rw [hB.bk (by omega) hb20, hx]
          unfold aHold
          by_cases c : A.1 0 b = 0
          · rw [if_pos c, if_pos c]
          · rw [if_neg c, if_neg c]
        · rw [if_neg e] at hx
          rw [if_neg (fun z => e ((nI_le0 (by omega)).mp z)), bookAt_spec, Option.bind_some, gd_in (by omega) (by decide)]
          simp (disch := omega) only [row0, cl_nI]
          rw [hB.bk hw hb20, hx]
      rcases (by omega : w = 0 ∨ w = 1 ∨ w = 2 ∨ w = 3 ∨ w = 4) with rfl | rfl | rfl | rfl | rfl
      · rw [if_pos (show nI 0 = 0 from rfl), holderOf_s hA hI hb20, Option.bind_some]
        exact Step_yes h (v := aHold A b) rfl (ref _ (by rw [if_pos rfl]))
      · rw [if_neg (show ¬ nI 1 = 0 by decide), if_pos (show nI 1 = 1 from rfl), isM_has hA.2.1 hb20, Option.bind_some, oneIf_bI, Option.bind_some, bI_eq (hI.2.1 b hb20).1]
        exact Step_yes h (v := A.1 1 b) rfl (ref _ (by rw [if_neg (by decide)]))
      · rw [if_neg (show ¬ nI 2 = 0 by decide), if_neg (show ¬ nI 2 = 1 by decide), if_pos (show nI 2 = 2 from rfl), gd_in hb20 (by decide)]
        simp only [ei]
        rw [(hA.2.2.2.1 b hb20).1]
        exact Step_yes h (v := A.1 2 b) rfl (ref _ (by rw [if_neg (by decide)]))
      · rw [if_neg (show ¬ nI 3 = 0 by decide), if_neg (show ¬ nI 3 = 1 by decide), if_neg (show ¬ nI 3 = 2 by decide), if_pos (show nI 3 = 3 from rfl), isM_has hA.2.2.1 hb20, Option.bind_some, oneIf_bI, Option.bind_some, bI_eq (hI.2.1 b hb20).2]
        exact Step_yes h (v := A.1 3 b) rfl (ref _ (by rw [if_neg (by decide)]))
      · rw [if_neg (show ¬ nI 4 = 0 by decide), if_neg (show ¬ nI 4 = 1 by decide), if_neg (show ¬ nI 4 = 2 by decide), if_neg (show ¬ nI 4 = 3 by decide), if_pos (show nI 4 = 4 from rfl), gd_in hb20 (by decide)]
        simp only [ei]
        rw [(hA.2.2.2.1 b hb20).2]
        exact Step_yes h (v := A.1 4 b) rfl (ref _ (by rw [if_neg (by decide)]))
    · rw [decide_eq_false hq, if_pos bI_f]
      have n0 : ∀ w : Nat, w < 5 → ¬ q = nI w := fun w hw z => hq (by
        subst z
        have : (nI w).toInt = (w : Int) := Int32.toInt_ofNat_of_lt (by omega)
        omega)
      rw [if_neg (show ¬ q = 0 from n0 0 (by omega)), if_neg (show ¬ q = 1 from n0 1 (by omega)), if_neg (show ¬ q = 2 from n0 2 (by omega)), if_neg (show ¬ q = 3 from n0 3 (by omega)), if_neg (show ¬ q = 4 from n0 4 (by omega))]
      exact Step_no h (n := 1) rfl rfl (by decide) (no 2 (Or.inr rfl))
  · rw [tb_out _ _ _ (by rw [reqB, if_neg hb]), mB, decide_eq_false hb, Option.bind_some, if_pos bI_f]
    exact Step_no h (n := 3) rfl rfl (by decide) (no 1 (Or.inl rfl))
end BK
