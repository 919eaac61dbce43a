section SO
variable {T T' : Nat} {A A' : AS} {s s' : ST} {r r' : gS}
theorem getD_def {α : Type} {l : List α} {k : Nat} (h : k < l.length) (a b : α) : l.getD k a = l.getD k b := by
  rw [List.getD_eq_getElem?_getD, List.getD_eq_getElem?_getD, List.getElem?_eq_getElem h]; rfl
theorem shout_step (h : TopA T s r A) (p q : Int32) : Step T cdI (fX3_shout s p q) (fX4_shout r p q) := by
  have no : fX4_shout_L30 r p q 1 = some (0, st2 r 0 0 1) := rfl
  have l0 : p < 0 ↔ p.toInt < 0 := lt_int p (n := 0) (by decide)
  have l1 : p < (10 : Int32) ↔ p.toInt < 10 := lt_int p (n := 10) (by decide)
  obtain ⟨hG, hA, hB, -⟩ := id h
  unfold fX4_shout
  rw [inI_spec p 0 9 0 9 (by decide) (by decide), Option.bind_some]
  by_cases hp : 0 ≤ p.toInt ∧ p.toInt ≤ 9
  · obtain ⟨k, hk, ek⟩ := in_nI (p := p) (n := 10) (by omega)
    have d0 : ¬ p < 0 := fun z => by have := l0.mp z; omega
    have d1 : p < (10 : Int32) := l1.mpr (by omega)
    rw [decide_eq_true hp, if_neg (show ¬ bI true = 0 by decide), inI_spec q 0 2 0 2 (by decide) (by decide), Option.bind_some]
    unfold fX3_shout
    rw [if_neg d0, if_pos d1]
    subst ek
    by_cases hq : 0 ≤ q.toInt ∧ q.toInt ≤ 2
    · rw [decide_eq_true hq, if_neg (show ¬ bI true = 0 by decide)]
      obtain ⟨w, hw, ew⟩ := in_nI (p := q) (n := 3) (by omega)
      subst ew
      have h9 := hA.2.2.2.2.2.2.2.2.1 k hk
      have hql := hG.1.ql
      have ref : ∀ x : Int32, (if A.2.2.length ≤ k then x = -9 else x = r 3 (203 + 3 * k + w)) → fX4_shout_L30 r (nI k) (nI w) 0 = some (x, st2 r 0 0 0) := fun x hx => by
        unfold fX4_shout_L30
        rw [refused_0, Option.bind_some, if_pos rfl]
        have e0 : (203 : Int32) + (3 : Int32) * nI k + nI w = nI (203 + 3 * k + w) := by rw [li_203, li_3, pk_mul, nI_add, nI_add]
        simp only [row0, cl_202, e0]
        rw [hB.2.2.2.2.2.2.1]
        by_cases c : A.2.2.length ≤ k
        · rw [if_pos c] at hx
          rw [if_pos ((le_nI (by omega) (by omega)).mpr c), hx]
        · rw [if_neg c] at hx
          rw [if_neg (fun z => c ((le_nI (by omega) (by omega)).mp z)), gd_in (by omega) (by decide), cl_nI (by omega), hx]
      have fin : ∀ x : Int32, (if nI w = (0 : Int32) then (gd (inb (nI k) 10) (some (.inr ((s.2.2.1 6 (nI k).toNatClampNeg), s)))) else (if nI w = (1 : Int32) then (gd (inb (nI k) 10) (some (.inr ((s.2.2.1 7 (nI k).toNatClampNeg), s)))) else (if nI w = (2 : Int32) then (gd (inb (nI k) 10) (some (.inr ((s.2.2.1 8 (nI k).toNatClampNeg), s)))) else (some (.inl (1, s) : (Nat × ST) ⊕ (Int32 × ST)))))) = some (.inr (x, s)) → (if A.2.2.length ≤ k then x = -9 else x = r 3 (203 + 3 * k + w)) → Step T cdI (if nI w = (0 : Int32) then (gd (inb (nI k) 10) (some (.inr ((s.2.2.1 6 (nI k).toNatClampNeg), s)))) else (if nI w = (1 : Int32) then (gd (inb (nI k) 10) (some (.inr ((s.2.2.1 7 (nI k).toNatClampNeg), s)))) else (if nI w = (2 : Int32) then (gd (inb (nI k) 10) (some (.inr ((s.2.2.1 8 (nI k).toNatClampNeg), s)))) else (some (.inl (1, s) : (Nat × ST) ⊕ (Int32 × ST)))))) (fX4_shout_L30 r (nI k) (nI w) 0) := fun x e1 e2 =>
        ⟨s, x, _, ref x e2, ⟨A, TopA_ref h 0⟩, Or.inr ⟨e1, st_eq rfl rfl⟩⟩
      have val : ∀ (f : Int32 × Int32 × Int32 → Int32) (x : Int32), x = f (A.2.2.getD k (-9, -9, -9)) → f (-9, -9, -9) = -9 → (k < A.2.2.length → r 3 (203 + 3 * k + w) = f (A.2.2.getD k (0, 0, 0))) → (if A.2.2.length ≤ k then x = -9 else x = r 3 (203 + 3 * k + w)) := fun f x hx hf hr => by
        by_cases c : A.2.2.length ≤ k
        · rw [if_pos c, hx, List.getD_eq_getElem?_getD, List.getElem?_eq_none c]; exact hf
        · rw [if_neg c, hr (by omega), hx, getD_def (by omega) (-9, -9, -9) (0, 0, 0)]
      have h8 := hB.2.2.2.2.2.2.2 k
      have ek : (nI k).toNatClampNeg = k := cl_nI (by omega)
      rcases (by omega : w = 0 ∨ w = 1 ∨ w = 2) with rfl | rfl | rfl
      · refine fin (s.2.2.1 6 k) ?_ (val (fun t => t.1) _ h9.1 rfl (fun c => (h8 c).1))
        rw [if_pos (by decide), gd_in hk (by decide), ek]
      · refine fin (s.2.2.1 7 k) ?_ (val (fun t => t.2.1) _ h9.2.1 rfl (fun c => (h8 c).2.1))
        rw [if_neg (by decide), if_pos (by decide), gd_in hk (by decide), ek]
      · refine fin (s.2.2.1 8 k) ?_ (val (fun t => t.2.2) _ h9.2.2 rfl (fun c => (h8 c).2.2))
        rw [if_neg (by decide), if_neg (by decide), if_pos (by decide), gd_in hk (by decide), ek]
    · rw [decide_eq_false hq, if_pos bI_f]
      have n0 : ∀ w : Nat, w < 3 → ¬ q = nI w := fun w hw z => hq (by
        subst z
        have : (nI w).toInt = (w : Int) := Int32.toInt_ofNat_of_lt (by omega)
        omega)
      rw [if_neg (show ¬ q = 0 from n0 0 (by omega)), if_neg (show ¬ q = 1 from n0 1 (by omega)), if_neg (show ¬ q = 2 from n0 2 (by omega))]
      exact Step_no h (n := 1) rfl rfl (by decide) no
  · have hx : fX3_shout s p q = some (.inl (1, s)) := by
      unfold fX3_shout
      by_cases c : p < 0
      · rw [if_pos c]
      · rw [if_neg c, if_neg (fun z => by have := l1.mp z; have h0 : ¬ p.toInt < 0 := fun z => c (l0.mpr z); omega)]
    rw [hx, decide_eq_false hp, if_pos bI_f]
    exact Step_no h (n := 1) rfl rfl (by decide) no
end SO
