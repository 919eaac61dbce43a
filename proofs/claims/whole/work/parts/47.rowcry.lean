section RT5
variable {T : Nat}
theorem up_comm {f : Nat → Int32} {a b : Nat} {x y : Int32} (h : a ≠ b) : upd (upd f a x) b y = upd (upd f b y) a x := by
  funext j
  unfold upd
  by_cases e1 : j = a
  · have : j ≠ b := by omega
    simp [e1, h]
  · simp [e1]
/-- cries of a gate, and their sum -/
theorem RB_cr {row : Nat → Int32} {A : AS} (h : RB row A) (hq : ∀ g, g < 3 → (A.2.1 g).length ≤ 20) (hl : A.2.2.length ≤ 10) {g0 : Nat} (hg0 : g0 < 3) : RB (upd (upd row (124 + 4 * g0 + 3) (A.1 11 g0 + 1)) 199 (row 199 + 1)) (aS A 11 g0 (A.1 11 g0 + 1)) := by
  obtain ⟨h1, h2, h3, h4, ⟨h5a, h5b, h5c, h5d, h5e⟩, h6, h7, h8⟩ := h
  have s : ∀ k' j', (aS A 11 g0 (A.1 11 g0 + 1)).1 k' j' = st2 A.1 11 g0 (A.1 11 g0 + 1) k' j' := fun _ _ => rfl
  refine ⟨fun k' b' hk' hb' => ?_, fun k' v' hk' hv' => ?_, fun g hg => ?_, fun g i hg hi => ?_, ⟨?_, ?_, ?_, ?_, ?_⟩, ?_, ?_, fun j hj => ?_⟩
  · rw [s, up_ne (by omega), up_ne (by omega), st_ne (by omega), h1 k' b' hk' hb']
  · rw [s, up_ne (by omega), up_ne (by omega), st_ne (by omega), h2 k' v' hk' hv']
  · obtain ⟨t0, t1, t2, t3⟩ := h3 g hg
    simp only [s]
    refine ⟨?_, ?_, ?_, ?_⟩
    · rw [up_ne (by omega), up_ne (by omega), st_ne (by omega), t0]
    · rw [up_ne (by omega), up_ne (by omega), st_ne (by omega), t1]
    · rw [up_ne (by omega), up_ne (by omega)]; exact t2
    · rw [up_ne (by omega)]
      by_cases e : g = g0
      · rw [up_eq (by omega), st_eq rfl e]
      · rw [up_ne (by omega), st_ne (by omega), t3]
  · have := hq g hg
    have hi' : i < (A.2.1 g).length := hi
    rw [up_ne (by omega), up_ne (by omega)]
    exact h4 g i hg hi
  · rw [s, up_ne (by omega), up_ne (by omega), st_ne (by omega), h5a]
  · rw [s, up_ne (by omega), up_ne (by omega), st_ne (by omega), h5b]
  · rw [s, up_ne (by omega), up_ne (by omega), st_ne (by omega), h5c]
  · rw [s, up_ne (by omega), up_ne (by omega), st_ne (by omega), h5d]
  · rw [s, up_ne (by omega), up_ne (by omega), st_ne (by omega), h5e]
  · rw [s, s, s, up_eq rfl, h6]
    rcases (by omega : g0 = 0 ∨ g0 = 1 ∨ g0 = 2) with rfl | rfl | rfl
    · rw [st_eq rfl rfl, st_ne (by omega), st_ne (by omega)]
      simp only [Int32.add_assoc, Int32.add_left_comm, Int32.add_comm]
    · rw [st_ne (by omega), st_eq rfl rfl, st_ne (by omega)]
      simp only [Int32.add_assoc, Int32.add_left_comm, Int32.add_comm]
    · rw [st_ne (by omega), st_ne (by omega), st_eq rfl rfl]
      simp only [Int32.add_assoc, Int32.add_left_comm, Int32.add_comm]
  · rw [up_ne (by omega), up_ne (by omega)]; exact h7
  · have hj' : j < A.2.2.length := hj
    rw [up_ne (by omega), up_ne (by omega), up_ne (by omega), up_ne (by omega), up_ne (by omega), up_ne (by omega)]; exact h8 j hj
/-- the last shouts, one more -/
def shL (row : Nat → Int32) (k : Nat) : Nat → Int32 := fun j => if 203 + k < j ∧ j < 233 then row (j - 3) else row j
theorem RB_log {row row' : Nat → Int32} {A : AS} (h : RB row A) (hq : ∀ g, g < 3 → (A.2.1 g).length ≤ 20) (hl : A.2.2.length ≤ 10) {x y z : Int32} (f1 : ∀ j, j < 202 → row' j = row j) (f2 : row' 202 = nI (min 9 A.2.2.length + 1)) (f3 : row' 203 = x ∧ row' 204 = y ∧ row' 205 = z) (f4 : ∀ j, 206 ≤ j → j < 233 → row' j = row (j - 3)) : RB row' (A.1, A.2.1, (x, y, z) :: A.2.2.take 9) := by
  obtain ⟨h1, h2, h3, h4, ⟨h5a, h5b, h5c, h5d, h5e⟩, h6, h7, h8⟩ := h
  refine ⟨fun k' b' hk' hb' => ?_, fun k' v' hk' hv' => ?_, fun g hg => ?_, fun g i hg hi => ?_, ⟨?_, ?_, ?_, ?_, ?_⟩, ?_, ?_, fun j hj => ?_⟩
  · rw [f1 _ (by omega)]; exact h1 k' b' hk' hb'
  · rw [f1 _ (by omega)]; exact h2 k' v' hk' hv'
  · rw [f1 _ (by omega), f1 _ (by omega), f1 _ (by omega), f1 _ (by omega)]; exact h3 g hg
  · have := hq g hg
    have hi' : i < (A.2.1 g).length := hi
    rw [f1 _ (by omega)]; exact h4 g i hg hi
  · rw [f1 _ (by omega)]; exact h5a
  · rw [f1 _ (by omega)]; exact h5b
  · rw [f1 _ (by omega)]; exact h5c
  · rw [f1 _ (by omega)]; exact h5d
  · rw [f1 _ (by omega)]; exact h5e
  · rw [f1 _ (by omega)]; exact h6
  · rw [f2]; simp [List.length_take]
  · have hj2 : j < (A.2.2.take 9).length + 1 := hj
    rw [List.length_take] at hj2
    cases j with
    | zero => exact f3
    | succ j =>
      have hj3 : j < A.2.2.length := by omega
      have e : (((x, y, z) :: A.2.2.take 9).getD (j + 1) (0, 0, 0)) = A.2.2.getD j (0, 0, 0) := by
        rw [List.getD_cons_succ, List.getD_eq_getElem?_getD, List.getD_eq_getElem?_getD, List.getElem?_take, if_pos (by omega)]
      show row' (203 + 3 * (j + 1)) = (((x, y, z) :: A.2.2.take 9).getD (j + 1) (0, 0, 0)).1 ∧ row' (203 + 3 * (j + 1) + 1) = (((x, y, z) :: A.2.2.take 9).getD (j + 1) (0, 0, 0)).2.1 ∧ row' (203 + 3 * (j + 1) + 2) = (((x, y, z) :: A.2.2.take 9).getD (j + 1) (0, 0, 0)).2.2
      rw [e, f4 _ (by omega) (by omega), f4 _ (by omega) (by omega), f4 _ (by omega) (by omega)]
      have := h8 j hj3
      refine ⟨?_, ?_, ?_⟩
      · rw [← this.1]; congr 1
      · rw [← this.2.1]; congr 1
      · rw [← this.2.2]; congr 1
theorem cryL {row : Nat → Int32} {A : AS} (h : RB row A) (hq : ∀ g, g < 3 → (A.2.1 g).length ≤ 20) (hl : A.2.2.length ≤ 10) {x y : Int32} : ∀ (m f : Nat) (row' : Nat → Int32), m ≤ 27 → m < f → (∀ j, row' j = shL row (m + 2) j) → ∃ row'', fX4_cry_L98 f row' x y (nI (m + 2)) = some row'' ∧ RB row'' (A.1, A.2.1, (x, y, A.1 12 2) :: A.2.2.take 9) := by
  intro m
  induction m with
  | zero =>
    intro f row' hm hf hr
    obtain ⟨f, rfl⟩ : ∃ z, f = z + 1 := ⟨f - 1, by omega⟩
    have c2 : row' 202 = nI A.2.2.length := by rw [hr]; show (if _ then _ else _) = _; rw [if_neg (by omega)]; exact h.2.2.2.2.2.2.1
    have c3 : row' 198 = A.1 12 2 := by rw [hr]; show (if _ then _ else _) = _; rw [if_neg (by omega)]; exact h.2.2.2.2.1.2.2.1
    simp only [fX4_cry_L98, cl_0, cl_1, cl_2, cl_196, cl_197, cl_198, cl_199, cl_200, cl_201, cl_202, cl_203, cl_204, cl_205, gl]
    rw [if_pos (show nI (0 + 2) ≤ 2 from by decide)]
    have c4 : upd (upd (upd row' 203 x) 204 y) 205 (upd (upd row' 203 x) 204 y 198) 202 = nI A.2.2.length := by rw [up_ne (by omega), up_ne (by omega), up_ne (by omega), c2]
    have c5 : upd (upd row' 203 x) 204 y 198 = A.1 12 2 := by rw [up_ne (by omega), up_ne (by omega), c3]
    rw [c4, c5]
    have fin : ∀ w, w = nI (min 9 A.2.2.length + 1) → RB (upd (upd (upd (upd row' 203 x) 204 y) 205 (A.1 12 2)) 202 w) (A.1, A.2.1, (x, y, A.1 12 2) :: A.2.2.take 9) := fun w hw => by
      refine RB_log h hq hl (fun j hj => ?_) ?_ ⟨?_, ?_, ?_⟩ (fun j hj1 hj2 => ?_)
      · rw [up_ne (by omega), up_ne (by omega), up_ne (by omega), up_ne (by omega), hr]; show (if _ then _ else _) = _; rw [if_neg (by omega)]
      · rw [up_eq rfl, hw]
      · rw [up_ne (by omega), up_ne (by omega), up_ne (by omega), up_eq rfl]
      · rw [up_ne (by omega), up_ne (by omega), up_eq rfl]
      · rw [up_ne (by omega), up_eq rfl]
      · rw [up_ne (by omega), up_ne (by omega), up_ne (by omega), up_ne (by omega), hr]; show (if _ then _ else _) = _; rw [if_pos (by omega)]
    by_cases e : 10 ≤ A.2.2.length
    · rw [if_pos ((lel_10 (by omega)).mpr e), nI_p0]
      exact ⟨_, rfl, fin _ (by congr 1; omega)⟩
    · rw [if_neg (fun q => e ((lel_10 (by omega)).mp q)), nI_1]
      exact ⟨_, rfl, fin _ (by congr 1; omega)⟩
  | succ m ih =>
    intro f row' hm hf hr
    obtain ⟨f, rfl⟩ : ∃ z, f = z + 1 := ⟨f - 1, by omega⟩
    have e1 : (203 : Int32) + nI (m + 1 + 2) = nI (203 + (m + 1 + 2)) := by rw [li_203, nI_add]
    have e2 : nI (203 + (m + 1 + 2)) - 3 = nI (200 + (m + 1 + 2)) := by rw [li_3, sub_nI (by omega)]; congr 1
    have e3 : nI (m + 1 + 2) + (-1) = nI (m + 2) := pk_m1 (m + 2)
    simp (disch := omega) only [fX4_cry_L98, e1, e2, e3, gl, gd_in, cl_nI]
    rw [if_neg (show ¬ nI (m + 1 + 2) ≤ 2 from nI_ge (a := 2) (b := m + 1 + 2) (by omega) (by omega))]
    refine ih f _ (by omega) (by omega) (fun j => ?_)
    show _ = if 203 + (m + 2) < j ∧ j < 233 then row (j - 3) else row j
    by_cases e : j = 203 + (m + 1 + 2)
    · rw [up_eq e, if_pos (by omega), hr]
      show (if _ then _ else _) = _
      rw [if_neg (by omega), e]
      congr 1
    · rw [up_ne e, hr]
      show (if 203 + (m + 1 + 2) < j ∧ j < 233 then _ else _) = _
      by_cases q : 203 + (m + 1 + 2) < j ∧ j < 233
      · rw [if_pos q, if_pos (by omega)]
      · rw [if_neg q, if_neg (by omega)]
theorem cry_spec {row : Nat → Int32} {A : AS} (h : RB row A) (hI : Inv T A) {g b : Nat} {r : List Nat} (hg : g < 3) (hqr : A.2.1 g = b :: r) : ∃ row', fX4_cry row (nI g) = some row' ∧ RB row' (aCry A g b r) := by
  have hql := hI.qlen hg
  rw [hqr, List.length_cons] at hql
  have hb : b < 20 := (hI.2.2.2.1 g b hg (by rw [hqr]; exact List.mem_cons_self)).1
  have w0 := (h.2.2.1 g hg).2.2.1
  rw [hqr, List.length_cons] at w0
  have c0 : row (136 + 20 * g) = nI b := by
    have := h.2.2.2.1 g 0 hg (by rw [hqr]; simp)
    rw [hqr] at this
    exact this
  unfold fX4_cry
  simp (disch := omega) only [row_at, bookAt_0, visitorAt_0, gateAt_0, bookAt_1, visitorAt_1, gateAt_1, bookAt_2, visitorAt_2, gateAt_2, bookAt_3, visitorAt_3, gateAt_3, bookAt_4, visitorAt_4, gateAt_4, gl, Option.bind_some, gd_in, cl_nI, nI_1, cl_0, cl_1, cl_2, cl_196, cl_197, cl_198, cl_199, cl_200, cl_201, cl_202, cl_203, cl_204, cl_205]
  rw [w0, c0]
  have e1 : nI (r.length + 1) - 1 = nI r.length := nI_pred _
  rw [e1, up_eq rfl]
  obtain ⟨row1, k1, k2, k3⟩ := X4_copy_s_spec (upd row (124 + 4 * g + 2) (nI r.length)) (s := 136 + 20 * g + 1) (d := 136 + 20 * g) (n := r.length) (by omega) (by omega)
  rw [k1, Option.bind_some]
  have hr1 : RB row1 (A.1, (fun g' => if g' = g then r else A.2.1 g'), A.2.2) := by
    refine RB_q h (qlen_of hI) hI.ql hg (by omega) (fun j hj1 hj2 => ?_) ?_ (fun i hi => ?_)
    · rw [k3 j (by omega), up_ne hj1]
    · rw [k3 _ (by omega), up_eq rfl]
    · rw [k2 _ (by omega) (by omega), up_ne (by omega)]
      have := h.2.2.2.1 g (i + 1) hg (by rw [hqr]; simp; omega)
      rw [hqr, List.getD_cons_succ] at this
      rw [← this]; congr 1; omega
  generalize hA1 : ((A.1, (fun g' => if g' = g then r else A.2.1 g'), A.2.2) : AS) = A1 at hr1
  have q1 : ∀ g, g < 3 → (A1.2.1 g).length ≤ 20 := fun g' hg' => by
    rw [← hA1]
    show (if g' = g then r else A.2.1 g').length ≤ 20
    by_cases e : g' = g
    · rw [if_pos e]; omega
    · rw [if_neg e]; exact hI.qlen hg'
  have l1 : A1.2.2.length ≤ 10 := by rw [← hA1]; exact hI.ql
  have s1 : A1.1 = A.1 := by rw [← hA1]
  have cr := (hr1.2.2.1 g hg).2.2.2
  rw [cr, s1]
  simp (disch := omega) only [bookAt_0, visitorAt_0, gateAt_0, bookAt_1, visitorAt_1, gateAt_1, bookAt_2, visitorAt_2, gateAt_2, bookAt_3, visitorAt_3, gateAt_3, bookAt_4, visitorAt_4, gateAt_4, Option.bind_some, gd_in, cl_nI]
  have d1 : upd row1 (124 + 4 * g + 3) (A.1 11 g + 1) (5 * b + 4) = A.1 4 b := by rw [up_ne (by omega), hr1.bk (by omega) hb, s1]
  rw [d1]
  have d2 : upd (upd row1 (124 + 4 * g + 3) (A.1 11 g + 1)) (5 * b + 4) (A.1 4 b + 1) 199 = row1 199 := by rw [up_ne (by omega), up_ne (by omega)]
  rw [d2]
  have d3 : upd (upd (upd row1 (124 + 4 * g + 3) (A.1 11 g + 1)) (5 * b + 4) (A.1 4 b + 1)) 199 (row1 199 + 1) 197 = A.1 12 1 := by rw [up_ne (by omega), up_ne (by omega), up_ne (by omega), hr1.2.2.2.2.1.2.1, s1]
  rw [d3, up_comm (a := 5 * b + 4) (b := 199) (by omega)]
  have r2 := RB_cr hr1 q1 l1 hg
  rw [s1] at r2
  have r3 := RB_bk r2 q1 l1 (k := 4) (by omega) hb (A.1 4 b + 1)
  have r4 := RB_gt r3 q1 l1 (k := 1) (by omega) hg (A.1 12 1)
  obtain ⟨row', k4, k5⟩ := cryL r4 q1 l1 (x := nI g) (y := nI b) 27 gFuel _ (by omega) (by decide) (fun j => by show _ = if _ then _ else _; rw [if_neg (by omega)])
  refine ⟨row', k4, ?_⟩
  subst hA1
  have tk : (aS (aS (aS ((A.1, (fun g' => if g' = g then r else A.2.1 g'), A.2.2) : AS) 11 g (A.1 11 g + 1)) 4 b (A.1 4 b + 1)) (9 + 1) g (A.1 12 1)).1 12 2 = A.1 12 2 := by
    rw [aS_1, aS_1, aS_1, st_ne (by omega), st_ne (by omega), st_ne (by omega)]
  rw [tk] at k5
  exact k5
end RT5
