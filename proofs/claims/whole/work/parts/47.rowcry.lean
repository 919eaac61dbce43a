section RT5
variable {T : Nat}
theorem i32_alc (a b c : Int32) : a + (b + c) = b + (a + c) := by rw [← Int32.add_assoc, Int32.add_comm a b, Int32.add_assoc]
theorem up_comm {f : Nat → Int32} {a b : Nat} {x y : Int32} (h : a ≠ b) : upd (upd f a x) b y = upd (upd f b y) a x := by
  funext j
  unfold upd
  by_cases e1 : j = a
  · have : j ≠ b := by omega
    simp [e1, h]
  · simp [e1]
/-- cries of a gate, and their sum -/
theorem RB_cr {row : Nat → Int32} {A : AS} (h : RB row A) (hq : ∀ g, g < 3 → (A.2.1 g).length ≤ 20) (hl : A.2.2.length ≤ 10) {g0 : Nat} (hg0 : g0 < 3) : RB (upd (upd row (124 + 4 * g0 + 3) (A.1 11 g0 + 1)) 199 (row 199 + 1)) (aS A 11 g0 (A.1 11 g0 + 1)) := by
  obtain ⟨h1, h2, h3, h4, ⟨h5a, h5b, h5c, h5d, h5e⟩, h6, h7, h8⟩ := h
  have s : ∀ k' j', (aS A 11 g0 (A.1 11 g0 + 1)).1 k' j' = st2 A.1 11 g0 (A.1 11 g0 + 1) k' j' := fun _ _ => rfl
  refine ⟨fun k' b' hk' hb' => ?_, fun k' v' hk' hv' => ?_, fun g hg => ?_, fun g i hg hi => ?_, ⟨?_, ?_, ?_, ?_, ?_⟩, ?_, ?_, fun j hj => ?_⟩
  · rw [s, up_ne (by omega), up_ne (by omega), st_ne (by omega), h1 k' b' hk' hb']
  · rw [s, up_ne (by omega), up_ne (by omega), st_ne (by omega), h2 k' v' hk' hv']
  · obtain ⟨t0, t1, t2, t3⟩ := h3 g hg
    simp only [s]
    refine ⟨?_, ?_, ?_, ?_⟩
    · rw [up_ne (by omega), up_ne (by omega), st_ne (by omega), t0]
    · rw [up_ne (by omega), up_ne (by omega), st_ne (by omega), t1]
    · rw [up_ne (by omega), up_ne (by omega)]; exact t2
    · rw [up_ne (by omega)]
      by_cases e : g = g0
      · rw [up_eq (by omega), st_eq rfl e]
      · rw [up_ne (by omega), st_ne (by omega), t3]
  · have := hq g hg
    have hi' : i < (A.2.1 g).length := hi
    rw [up_ne (by omega), up_ne (by omega)]
    exact h4 g i hg hi
  · rw [s, up_ne (by omega), up_ne (by omega), st_ne (by omega), h5a]
  · rw [s, up_ne (by omega), up_ne (by omega), st_ne (by omega), h5b]
  · rw [s, up_ne (by omega), up_ne (by omega), st_ne (by omega), h5c]
  · rw [s, up_ne (by omega), up_ne (by omega), st_ne (by omega), h5d]
  · rw [s, up_ne (by omega), up_ne (by omega), st_ne (by omega), h5e]
  · rw [s, s, s, up_eq rfl, h6]
    rcases (by omega : g0 = 0 ∨ g0 = 1 ∨ g0 = 2) with rfl | rfl | rfl
    · rw [st_eq rfl rfl, st_ne (by omega), st_ne (by omega)]
      simp only [Int32.add_assoc, i32_alc, Int32.add_comm]
    · rw [st_ne (by omega), st_eq rfl rfl, st_ne (by omega)]
      simp only [Int32.add_assoc, i32_alc, Int32.add_comm]
    · rw [st_ne (by omega), st_ne (by omega), st_eq rfl rfl]
      simp only [Int32.add_assoc, i32_alc, Int32.add_comm]
  · rw [up_ne (by omega), up_ne (by omega)]; exact h7
  · have hj' : j < A.2.2.length := hj
    rw [up_ne (by omega), up_ne (by omega), up_ne (by omega), up_ne (by omega), up_ne (by omega), up_ne (by omega)]; exact h8 j hj
/-- the last shouts, one more -/
def shL (row : Nat → Int32) (k : Nat) : Nat → Int32 := fun j => if 203 + k < j ∧ j < 233 then row (j - 3) else row j
theorem RB_log {row row' : Nat → Int32} {A : AS} (h : RB row A) (hq : ∀ g, g < 3 → (A.2.1 g).length ≤ 20) (hl : A.2.2.length ≤ 10) {x y z : Int32} (f1 : ∀ j, j < 202 → row' j = row j) (f2 : row' 202 = nI (min 9 A.2.2.length + 1)) (f3 : row' 203 = x ∧ row' 204 = y ∧ row' 205 = z) (f4 : ∀ j, 206 ≤ j → j < 233 → row' j = row (j - 3)) : RB row' (A.1, A.2.1, (x, y, z) :: A.2.2.take 9) := by
  obtain ⟨h1, h2, h3, h4, ⟨h5a, h5b, h5c, h5d, h5e⟩, h6, h7, h8⟩ := h
  refine ⟨fun k' b' hk' hb' => ?_, fun k' v' hk' hv' => ?_, fun g hg => ?_, fun g i hg hi => ?_, ⟨?_, ?_, ?_, ?_, ?_⟩, ?_, ?_, fun j hj => ?_⟩
  · rw [f1 _ (by omega)]; exact h1 k' b' hk' hb'
  · rw [f1 _ (by omega)]; exact h2 k' v' hk' hv'
  · rw [f1 _ (by omega), f1 _ (by omega), f1 _ (by omega), f1 _ (by omega)]; exact h3 g hg
  · have := hq g hg
    have hi' : i < (A.2.1 g).length := hi
    rw [f1 _ (by omega)]; exact h4 g i hg hi
  · rw [f1 _ (by omega)]; exact h5a
  · rw [f1 _ (by omega)]; exact h5b
  · rw [f1 _ (by omega)]; exact h5c
  · rw [f1 _ (by omega)]; exact h5d
  · rw [f1 _ (by omega)]; exact h5e
  · rw [f1 _ (by omega)]; exact h6
  · rw [f2]; simp [List.length_take]
  · have hj2 : j < (A.2.2.take 9).length + 1 := hj
    rw [List.length_take] at hj2
    cases j with
    | zero => exact f3
    | succ j =>
      have hj3 : j < A.2.2.length := by omega
      have e : (((x, y, z) :: A.2.2.take 9).getD (j + 1) (0, 0, 0)) = A.2.2.getD j (0, 0, 0) := by
        rw [List.getD_cons_succ, List.getD_eq_getElem?_getD, List.getD_eq_getElem?_getD, List.getElem?_take, if_pos (by omega)]
      show row' (203 + 3 * (j + 1)) = (((x, y, z) :: A.2.2.take 9).getD (j + 1) (0, 0, 0)).1 ∧ row' (203 + 3 * (j + 1) + 1) = (((x, y, z) :: A.2.2.take 9).getD (j + 1) (0, 0, 0)).2.1 ∧ row' (203 + 3 * (j + 1) + 2) = (((x, y, z) :: A.2.2.take 9).getD (j + 1) (0, 0, 0)).2.2
      rw [e, f4 _ (by omega) (by omega), f4 _ (by omega) (by omega), f4 _ (by omega) (by omega)]
      have := h8 j hj3
      refine ⟨?_, ?_, ?_⟩
      · rw [← this.1]; congr 1
      · rw [← this.2.1]; congr 1
      · rw [← this.2.2]; congr 1
end RT5
