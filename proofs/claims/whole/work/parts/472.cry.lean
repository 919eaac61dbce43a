section RT6
variable {T : Nat}
theorem gl_ex {α β : Type} {x : α} {f : α → Option β} {P : β → Prop} (h : ∀ y, y = x → ∃ r, f y = some r ∧ P r) : ∃ r, gl x f = some r ∧ P r := h x rfl
theorem gd_ex {α : Type} {n N : Nat} {w : Int32} {x : Option α} {P : α → Prop} (hw : w = nI n) (hn : n < N) (hN : N < 2147483648) (h : ∃ r, x = some r ∧ P r) : ∃ r, gd (inb w N) x = some r ∧ P r := by
  obtain ⟨r, h1, h2⟩ := h
  refine ⟨r, ?_, h2⟩
  rw [hw, gd_in hn hN]
  exact h1
theorem bd_ex {α β : Type} {x : Option α} {v : α} {f : α → Option β} {P : β → Prop} (hx : x = some v) (h : ∃ r, f v = some r ∧ P r) : ∃ r, (x.bind f) = some r ∧ P r := by
  rw [hx]; exact h
theorem up_cl {f : Nat → Int32} {a : Nat} {w x : Int32} (hw : w = nI a) (ha : a < 2147483648) : upd f w.toNatClampNeg x = upd f a x := by rw [hw, cl_nI ha]
theorem cl_at {f : Nat → Int32} {a : Nat} {w : Int32} (hw : w = nI a) (ha : a < 2147483648) : f w.toNatClampNeg = f a := by rw [hw, cl_nI ha]
theorem cry_spec {row : Nat → Int32} {A : AS} (h : RB row A) (hI : Inv T A) {g b : Nat} {r : List Nat} (hg : g < 3) (hqr : A.2.1 g = b :: r) : ∃ row', fX4_cry row (nI g) = some row' ∧ RB row' (aCry A g b r) := by
  have hql := hI.qlen hg
  rw [hqr, List.length_cons] at hql
  have hb : b < 20 := (hI.2.2.2.1 g b hg (by rw [hqr]; exact List.mem_cons_self)).1
  have w0 := (h.2.2.1 g hg).2.2.1
  rw [hqr, List.length_cons] at w0
  have c0 : row (136 + 20 * g) = nI b := by
    have := h.2.2.2.1 g 0 hg (by rw [hqr]; simp)
    rw [hqr] at this
    exact this
  have a0 : (136 : Int32) + (20 : Int32) * nI g = nI (136 + 20 * g) := row_at g
  unfold fX4_cry
  refine gd_ex a0 (by omega) (by decide) (gl_ex fun t11 h11 => ?_)
  rw [a0, cl_nI (by omega), c0] at h11
  refine bd_ex (gateAt_2 g) (gd_ex rfl (by omega) (by decide) (gl_ex fun t13 h13 => gd_ex rfl (by omega) (by decide) (gl_ex fun u14 h14 => ?_)))
  rw [cl_nI (by omega), w0, nI_pred] at h13
  rw [cl_nI (by omega), h13] at h14
  refine bd_ex (gateAt_2 g) (gd_ex rfl (by omega) (by decide) ?_)
  have a1 : ((136 : Int32) + (20 : Int32) * nI g) + (1 : Int32) = nI (136 + 20 * g + 1) := by rw [a0, nI_1]
  have a2 : u14 (nI (124 + 4 * g + 2)).toNatClampNeg = nI r.length := by rw [cl_nI (by omega), h14, up_eq rfl]
  rw [a0, nI_1, a2]
  obtain ⟨row1, k1, k2, k3⟩ := X4_copy_s_spec u14 (s := 136 + 20 * g + 1) (d := 136 + 20 * g) (n := r.length) (by omega) (by omega)
  have hr1 : RB row1 (A.1, (fun g' => if g' = g then r else A.2.1 g'), A.2.2) := by
    refine RB_q h (qlen_of hI) hI.ql hg (by omega) (fun j hj1 hj2 => ?_) ?_ (fun i hi => ?_)
    · rw [k3 j (by omega), h14, up_ne hj1]
    · rw [k3 _ (by omega), h14, up_eq rfl]
    · rw [k2 _ (by omega) (by omega), h14, up_ne (by omega)]
      have := h.2.2.2.1 g (i + 1) hg (by rw [hqr]; simp; omega)
      rw [hqr, List.getD_cons_succ] at this
      rw [← this]; exact congrArg row (by omega)
  refine bd_ex k1 ?_
  generalize hA1 : ((A.1, (fun g' => if g' = g then r else A.2.1 g'), A.2.2) : AS) = A1 at hr1
  have q1 : ∀ g, g < 3 → (A1.2.1 g).length ≤ 20 := fun g' hg' => by
    rw [← hA1]
    show (if g' = g then r else A.2.1 g').length ≤ 20
    by_cases e : g' = g
    · rw [if_pos e]; omega
    · rw [if_neg e]; exact hI.qlen hg'
  have l1 : A1.2.2.length ≤ 10 := by rw [← hA1]; exact hI.ql
  have s1 : A1.1 = A.1 := by rw [← hA1]
  have cr := (hr1.2.2.1 g hg).2.2.2
  rw [s1] at cr
  refine bd_ex (gateAt_3 g) (gd_ex rfl (by omega) (by decide) (gl_ex fun t18 h18 => gd_ex rfl (by omega) (by decide) (gl_ex fun u19 h19 => ?_)))
  rw [cl_nI (by omega), cr] at h18
  rw [cl_nI (by omega), h18] at h19
  rw [h11]
  refine bd_ex (bookAt_4 b) (gd_ex rfl (by omega) (by decide) (gl_ex fun t21 h21 => gd_ex rfl (by omega) (by decide) (gl_ex fun u22 h22 => ?_)))
  have d1 : u19 (5 * b + 4) = A.1 4 b := by rw [h19, up_ne (by omega), hr1.bk (by omega) hb, s1]
  rw [cl_nI (by omega), d1] at h21
  rw [cl_nI (by omega), h21] at h22
  refine gl_ex fun t23 h23 => gl_ex fun u24 h24 => bd_ex (gateAt_1 g) (gl_ex fun t26 h26 => gd_ex rfl (by omega) (by decide) (gl_ex fun u27 h27 => ?_))
  rw [cl_199] at h23 h24
  rw [cl_197] at h26
  have d2 : u22 199 = row1 199 := by rw [h22, up_ne (by omega), h19, up_ne (by omega)]
  rw [d2] at h23
  rw [h23] at h24
  have d3 : u24 197 = A.1 12 1 := by rw [h24, up_ne (by omega), h22, up_ne (by omega), h19, up_ne (by omega), hr1.2.2.2.2.1.2.1, s1]
  rw [d3] at h26
  rw [cl_nI (by omega), h26] at h27
  have r2 := RB_cr hr1 q1 l1 hg
  rw [s1] at r2
  have r3 := RB_bk r2 q1 l1 (k := 4) (by omega) hb (A.1 4 b + 1)
  have r4 := RB_gt r3 q1 l1 (k := 1) (by omega) hg (A.1 12 1)
  have e27 : u27 = upd (upd (upd (upd row1 (124 + 4 * g + 3) (A.1 11 g + 1)) 199 (row1 199 + 1)) (5 * b + 4) (A.1 4 b + 1)) (124 + 4 * g + 1) (A.1 12 1) := by
    rw [h27, h24, h22, h19, up_comm (a := 5 * b + 4) (b := 199) (by omega)]
  rw [e27]
  obtain ⟨row', k4, k5⟩ := cryL r4 q1 l1 (x := nI g) (y := nI b) 27 gFuel _ (by omega) (by decide) (fun j => by show _ = if _ then _ else _; rw [if_neg (by omega)])
  refine ⟨row', k4, ?_⟩
  subst hA1
  have tk : (aS (aS (aS ((A.1, (fun g' => if g' = g then r else A.2.1 g'), A.2.2) : AS) 11 g (A.1 11 g + 1)) 4 b (A.1 4 b + 1)) (9 + 1) g (A.1 12 1)).1 12 2 = A.1 12 2 := by
    rw [aS_1, aS_1, aS_1, st_ne (by omega), st_ne (by omega), st_ne (by omega)]
  rw [tk] at k5
  exact k5
end RT6
