section RT5
variable {T : Nat}
theorem cryL {row : Nat → Int32} {A : AS} (h : RB row A) (hq : ∀ g, g < 3 → (A.2.1 g).length ≤ 20) (hl : A.2.2.length ≤ 10) {x y : Int32} : ∀ (m f : Nat) (row' : Nat → Int32), m ≤ 27 → m < f → (∀ j, row' j = shL row (m + 2) j) → ∃ row'', fX4_cry_L98 f row' x y (nI (m + 2)) = some row'' ∧ RB row'' (A.1, A.2.1, (x, y, A.1 12 2) :: A.2.2.take 9) := by
  intro m
  induction m with
  | zero =>
    intro f row' hm hf hr
    obtain ⟨f, rfl⟩ : ∃ z, f = z + 1 := ⟨f - 1, by omega⟩
    have c2 : row' 202 = nI A.2.2.length := by rw [hr]; show (if _ then _ else _) = _; rw [if_neg (by omega)]; exact h.2.2.2.2.2.2.1
    have c3 : row' 198 = A.1 12 2 := by rw [hr]; show (if _ then _ else _) = _; rw [if_neg (by omega)]; exact h.2.2.2.2.1.2.2.1
    simp only [fX4_cry_L98, cl_0, cl_1, cl_2, cl_196, cl_197, cl_198, cl_199, cl_200, cl_201, cl_202, cl_203, cl_204, cl_205, gl]
    rw [if_pos (show nI (0 + 2) ≤ 2 from by decide)]
    have c4 : upd (upd (upd row' 203 x) 204 y) 205 (upd (upd row' 203 x) 204 y 198) 202 = nI A.2.2.length := by rw [up_ne (by omega), up_ne (by omega), up_ne (by omega), c2]
    have c5 : upd (upd row' 203 x) 204 y 198 = A.1 12 2 := by rw [up_ne (by omega), up_ne (by omega), c3]
    rw [c4, c5]
    have fin : ∀ w, w = nI (min 9 A.2.2.length + 1) → RB (upd (upd (upd (upd row' 203 x) 204 y) 205 (A.1 12 2)) 202 w) (A.1, A.2.1, (x, y, A.1 12 2) :: A.2.2.take 9) := fun w hw => by
      refine RB_log h hq hl (fun j hj => ?_) ?_ ⟨?_, ?_, ?_⟩ (fun j hj1 hj2 => ?_)
      · rw [up_ne (by omega), up_ne (by omega), up_ne (by omega), up_ne (by omega), hr]; show (if _ then _ else _) = _; rw [if_neg (by omega)]
      · rw [up_eq rfl, hw]
      · rw [up_ne (by omega), up_ne (by omega), up_ne (by omega), up_eq rfl]
      · rw [up_ne (by omega), up_ne (by omega), up_eq rfl]
      · rw [up_ne (by omega), up_eq rfl]
      · rw [up_ne (by omega), up_ne (by omega), up_ne (by omega), up_ne (by omega), hr]; show (if _ then _ else _) = _; rw [if_pos (by omega)]
    by_cases e : 10 ≤ A.2.2.length
    · rw [if_pos ((lel_10 (by omega)).mpr e), nI_p0]
      exact ⟨_, rfl, fin _ (congrArg nI (by omega))⟩
    · rw [if_neg (fun q => e ((lel_10 (by omega)).mp q)), nI_1]
      exact ⟨_, rfl, fin _ (congrArg nI (by omega))⟩
  | succ m ih =>
    intro f row' hm hf hr
    obtain ⟨f, rfl⟩ : ∃ z, f = z + 1 := ⟨f - 1, by omega⟩
    have e1 : (203 : Int32) + nI (m + 1 + 2) = nI (203 + (m + 1 + 2)) := by rw [li_203, nI_add]
    have e2 : nI (203 + (m + 1 + 2)) - 3 = nI (200 + (m + 1 + 2)) := by rw [li_3, sub_nI (by omega)]; exact congrArg nI (by omega)
    have e3 : nI (m + 1 + 2) + (-1) = nI (m + 2) := pk_m1 (m + 2)
    simp (disch := omega) only [fX4_cry_L98, e1, e2, e3, gl, gd_in, cl_nI]
    rw [if_neg (show ¬ nI (m + 1 + 2) ≤ 2 from nI_ge (a := 2) (b := m + 1 + 2) (by omega) (by omega))]
    refine ih f _ (by omega) (by omega) (fun j => ?_)
    show _ = if 203 + (m + 2) < j ∧ j < 233 then row (j - 3) else row j
    by_cases e : j = 203 + (m + 1 + 2)
    · rw [up_eq e, if_pos (by omega), hr]
      show (if _ then _ else _) = _
      rw [if_neg (by omega), e]
      exact congrArg row (by omega)
    · rw [up_ne e, hr]
      show (if 203 + (m + 1 + 2) < j ∧ j < 233 then _ else _) = _
      by_cases q : 203 + (m + 1 + 2) < j ∧ j < 233
      · rw [if_pos q, if_pos (by omega)]
      · rw [if_neg q, if_neg (by omega)]
end RT5
