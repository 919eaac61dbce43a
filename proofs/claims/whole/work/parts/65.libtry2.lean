section LT2
variable {T : Nat} {σ : gS} {A : AS}
theorem tryBoB_s (h : RA σ A) (hI : Inv T A) {b : Nat} (hb : b < 20) {c : Bool} (hc : aBookIn A b = c) : ∃ σ', fX1_tryBorrowOrBringBack σ (nI b) = some (bI c, σ') ∧ RA σ' (if c then aS A 1 b (1 - A.1 1 b) else A) ∧ σ' 9 14 = σ 9 14 := by
  unfold fX1_tryBorrowOrBringBack
  rw [isM_has h.2.1 hb, Option.bind_some]
  rcases (hI.2.1 b hb).1 with e | e
  · have ec : (decide (b < 20) && aCanBorrow A b 1) = c := by unfold aCanBorrow; rw [decide_eq_true hb, e, hc]; rfl
    obtain ⟨σ', k1, k2, k3⟩ := tryBor_s h hI (by omega) ec
    rw [decide_eq_false (show ¬ A.1 1 b = 1 by rw [e]; decide), if_pos bI_f, k1, Option.bind_some]
    show ∃ σ', gd (bI c = 0 ∨ bI c = 1) (some (bI c, _)) = some (bI c, σ') ∧ _
    rw [gd_t (bI_01 c)]
    exact ⟨σ', rfl, by rw [e]; exact k2, k3⟩
  · have ec : (decide (b < 20) && aCanBorrow A b 0) = c := by unfold aCanBorrow; rw [decide_eq_true hb, e, hc]; rfl
    obtain ⟨σ', k1, k2, k3⟩ := tryBring_s h hI (by omega) ec
    rw [decide_eq_true e, if_neg (show ¬ bI true = 0 by decide), k1, Option.bind_some]
    show ∃ σ', gd (bI c = 0 ∨ bI c = 1) (some (bI c, _)) = some (bI c, σ') ∧ _
    rw [gd_t (bI_01 c)]
    exact ⟨σ', rfl, by rw [e]; exact k2, k3⟩
theorem tryWEW_s (h : RA σ A) {v g : Nat} (hv : v < 6) (hg : g < 3) {c : Bool} (hc : aCanWalk A v (bI (decide (A.1 5 v = 0))) = c) : ∃ σ', fX1_tryWalkEitherWay σ (nI v) (nI g) = some (bI c, σ') ∧ RA σ' (if c then aWalk A v (nI g) (decide (A.1 5 v = 0)) else A) := by
  unfold fX1_tryWalkEitherWay
  rw [isVisitor_s (by omega), Option.bind_some]
  simp only [bI_0]
  rw [decide_eq_true hv, if_neg (by decide), gd_in hv (by decide)]
  simp (disch := omega) only [cl_nI]
  rw [h.wh hv]
  have key : ∀ out : Bool, decide (A.1 5 v = 0) = out → ∃ σ', fX1_tryWalkEitherWay_L24 σ (nI v) (nI g) (bI out) = some (bI c, σ') ∧ RA σ' (if c then aWalk A v (nI g) out else A) := fun out e => by
    rw [e] at hc
    obtain ⟨σ', k1, k2, -⟩ := tryWalk_s h (v := v) (g := g) (by omega) (by omega) out (c := c) (by rw [decide_eq_true (⟨hv, hg⟩ : v < 6 ∧ g < 3), hc]; rfl)
    unfold fX1_tryWalkEitherWay_L24
    rw [k1, Option.bind_some]
    cases c with
    | true => exact ⟨σ', by rw [if_neg (c := (bI true, σ').1 = 0) (show ¬ bI true = 0 by decide)]; rfl, k2⟩
    | false => exact ⟨σ', by rw [if_pos (show (bI false, σ').1 = 0 by rfl)]; rfl, k2⟩
  by_cases e : A.1 5 v = 0
  · rw [if_pos e, decide_eq_true e]; exact key true (decide_eq_true e)
  · rw [if_neg e, decide_eq_false e]; exact key false (decide_eq_false e)
end LT2
