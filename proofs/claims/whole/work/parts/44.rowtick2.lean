section RT3
variable {T : Nat}
theorem fr_succ {α : Type} (f : α → Nat → α) (k b : Nat) (a : α) : fr f (k + 1) b a = fr f k (b + 1) (f a b) := rfl
theorem Inv_arr {A : AS} (h : Inv T A) (v : Nat) (out : Bool) (b : Nat) : Inv T (aArr v out A b) := by
  unfold aArr
  split
  · split
    · split
      · split
        · exact Inv_aS h (by omega)
        · exact Inv_aS (Inv_aS h (by omega)) (by omega)
      · exact h
    · exact Inv_forget h b
  · exact h
theorem arriveL {v : Nat} (hv : v < 6) (out : Bool) : ∀ (m b f : Nat) (row : Nat → Int32) (A : AS), b + m = 20 → m < f → RB row A → Inv T A → ∃ row', fX4_arrive_L18 f row (nI v) (bI out) (nI b) = some row' ∧ RB row' (fr (aArr v out) m b A) ∧ Inv T (fr (aArr v out) m b A) := by
  intro m
  induction m with
  | zero =>
    intro b f row A hb hf h hI
    obtain ⟨f, rfl⟩ : ∃ z, f = z + 1 := ⟨f - 1, by omega⟩
    have hb : b = 20 := by omega
    subst hb
    refine ⟨row, ?_, h, hI⟩
    simp (disch := omega) only [fX4_arrive_L18, lel_3, lel_6, lel_10, lel_20, lel_120, lel_233]
    rw [if_pos (Nat.le_refl 20)]
  | succ m ih =>
    intro b f row A hb hf h hI
    obtain ⟨f, rfl⟩ : ∃ z, f = z + 1 := ⟨f - 1, by omega⟩
    have hb2 : b < 20 := by omega
    rw [fr_succ]
    have hI2 := Inv_arr hI v out b
    simp (disch := omega) only [fX4_arrive_L18, lel_3, lel_6, lel_10, lel_20, lel_120, lel_233, bookAt_0, visitorAt_0, gateAt_0, bookAt_1, visitorAt_1, gateAt_1, bookAt_2, visitorAt_2, gateAt_2, bookAt_3, visitorAt_3, gateAt_3, bookAt_4, visitorAt_4, gateAt_4, gl, Option.bind_some, gd_in, cl_nI]
    rw [if_neg (by omega), h.bk (by omega) hb2, nI_1, nI_1]
    by_cases e : A.1 0 b = nI (v + 1)
    · rw [if_pos e]
      have eh : holds A v b = true := decide_eq_true e
      cases out with
      | false =>
        rw [if_pos (show bI false = 0 from rfl)]
        obtain ⟨row1, e1, h1⟩ := forget_spec h hI hb2
        rw [e1, Option.bind_some]
        have ea : aArr v false A b = aForget A b := by unfold aArr; rw [if_pos eh]; rfl
        rw [ea] at hI2 ⊢
        exact ih (b + 1) f row1 _ (by omega) (by omega) h1 hI2
      | true =>
        rw [if_neg (show ¬ bI true = 0 by decide), h.bk (by omega) hb2, h.bk (by omega) hb2]
        by_cases e2 : A.1 1 b = 0
        · rw [if_pos e2]
          by_cases e3 : A.1 3 b = 1
          · rw [if_pos e3]
            have ea : aArr v true A b = aS A 12 3 (A.1 12 3 + 1) := by unfold aArr; rw [if_pos eh, if_pos rfl, if_pos e2, if_pos e3]
            rw [ea] at hI2 ⊢
            have hr := RB_gl h (qlen_of hI) hI.ql (i := 200) (j := 3) (by omega) (A.1 12 3 + 1)
            simp only [cl_0, cl_1, cl_2, cl_196, cl_197, cl_198, cl_199, cl_200, cl_201, cl_202, cl_203, cl_204, cl_205]
            rw [h.2.2.2.2.1.2.2.2.1]
            exact ih (b + 1) f _ _ (by omega) (by omega) hr hI2
          · rw [if_neg e3]
            have ea : aArr v true A b = aS (aS A 12 4 (A.1 12 4 + 1)) 13 b 1 := by unfold aArr; rw [if_pos eh, if_pos rfl, if_pos e2, if_neg e3]
            rw [ea] at hI2 ⊢
            have hr := RB_ghost (RB_gl h (qlen_of hI) hI.ql (i := 201) (j := 4) (by omega) (A.1 12 4 + 1)) b 1
            simp only [cl_0, cl_1, cl_2, cl_196, cl_197, cl_198, cl_199, cl_200, cl_201, cl_202, cl_203, cl_204, cl_205]
            rw [h.2.2.2.2.1.2.2.2.2]
            exact ih (b + 1) f _ _ (by omega) (by omega) hr hI2
        · rw [if_neg e2]
          have ea : aArr v true A b = A := by unfold aArr; rw [if_pos eh, if_pos rfl, if_neg e2]
          rw [ea] at hI2 ⊢
          exact ih (b + 1) f row A (by omega) (by omega) h hI2
    · rw [if_neg e]
      have eh : holds A v b = false := decide_eq_false e
      have ea : aArr v out A b = A := by unfold aArr; rw [eh]; rfl
      rw [ea] at hI2 ⊢
      exact ih (b + 1) f row A (by omega) (by omega) h hI2
theorem arrive_spec {row : Nat → Int32} {A : AS} (h : RB row A) (hI : Inv T A) {v : Nat} (hv : v < 6) (out : Bool) : ∃ row', fX4_arrive row (nI v) (bI out) = some row' ∧ RB row' (aArrive A v out) ∧ Inv T (aArrive A v out) := by
  cases out with
  | false =>
    simp (disch := omega) only [fX4_arrive, bookAt_0, visitorAt_0, gateAt_0, bookAt_1, visitorAt_1, gateAt_1, bookAt_2, visitorAt_2, gateAt_2, bookAt_3, visitorAt_3, gateAt_3, bookAt_4, visitorAt_4, gateAt_4, gl, Option.bind_some, gd_in, cl_nI]
    rw [if_pos (show bI false = 0 from rfl)]
    have hr := RB_vs h (qlen_of hI) hI.ql (k := 0) (by omega) hv 0
    exact arriveL hv false 20 0 gFuel _ _ rfl (by decide) hr (Inv_where hI (Or.inl rfl))
  | true =>
    simp (disch := omega) only [fX4_arrive, bookAt_0, visitorAt_0, gateAt_0, bookAt_1, visitorAt_1, gateAt_1, bookAt_2, visitorAt_2, gateAt_2, bookAt_3, visitorAt_3, gateAt_3, bookAt_4, visitorAt_4, gateAt_4, gl, Option.bind_some, gd_in, cl_nI]
    rw [if_neg (show ¬ bI true = 0 by decide)]
    have hr := RB_vs h (qlen_of hI) hI.ql (k := 0) (by omega) hv 2
    exact arriveL hv true 20 0 gFuel _ _ rfl (by decide) hr (Inv_where hI (Or.inr rfl))
theorem goOn24_spec {row : Nat → Int32} {A : AS} (h : RB row A) (hI : Inv T A) {v : Nat} (hv : v < 6) {z : Int32} (hs : (if A.1 8 v = 1 then (1 : Int32) else -1) = z) : ∃ row', fX4_goOn_L24 row (nI v) (nI (100 + 4 * v + 2)) (A.1 7 v) z = some row' ∧ RB row' (aGoOn A v) ∧ Inv T (aGoOn A v) := by
  have hr := RB_vs h (qlen_of hI) hI.ql (k := 2) (by omega) hv (A.1 7 v + z)
  have hst : aStep A v = aS A (5 + 2) v (A.1 7 v + z) := by unfold aStep; rw [hs]
  have hI1 : Inv T (aStep A v) := by rw [hst]; exact Inv_aS hI (by omega)
  rw [← hst] at hr
  simp (disch := omega) only [fX4_goOn_L24, bookAt_0, visitorAt_0, gateAt_0, bookAt_1, visitorAt_1, gateAt_1, bookAt_2, visitorAt_2, gateAt_2, bookAt_3, visitorAt_3, gateAt_3, bookAt_4, visitorAt_4, gateAt_4, gl, Option.bind_some, gd_in, cl_nI]
  rw [hr.vs (by omega) hv, hr.vs (by omega) hv, inI_spec _ (-3) 3 (-3) 3 (by decide) (by decide)]
  simp only [Option.bind_some, bI_0, show 5 + 2 = 7 from rfl, show 5 + 3 = 8 from rfl]
  have e8 : (aStep A v).1 8 v = A.1 8 v := by rw [hst, aS_1, st_ne (Or.inl (by decide))]
  unfold aGoOn
  by_cases e : -3 ≤ ((aStep A v).1 7 v).toInt ∧ ((aStep A v).1 7 v).toInt ≤ 3
  · rw [if_neg (by simp [e]), if_pos e]
    exact ⟨_, rfl, hr, hI1⟩
  · rw [if_pos (decide_eq_false e), if_neg e, e8]
    by_cases e2 : A.1 8 v = 1
    · rw [if_pos e2, decide_eq_true e2]
      obtain ⟨row', e3, h3, h4⟩ := arrive_spec hr hI1 hv true
      rw [show (1 : Int32) = bI true from rfl, e3]
      exact ⟨row', rfl, h3, h4⟩
    · rw [if_neg e2, decide_eq_false e2]
      obtain ⟨row', e3, h3, h4⟩ := arrive_spec hr hI1 hv false
      rw [show (0 : Int32) = bI false from rfl, e3]
      exact ⟨row', rfl, h3, h4⟩
theorem goOn_spec {row : Nat → Int32} {A : AS} (h : RB row A) (hI : Inv T A) {v : Nat} (hv : v < 6) : ∃ row', fX4_goOn row (nI v) = some row' ∧ RB row' (aGoOn A v) ∧ Inv T (aGoOn A v) := by
  simp (disch := omega) only [fX4_goOn, bookAt_0, visitorAt_0, gateAt_0, bookAt_1, visitorAt_1, gateAt_1, bookAt_2, visitorAt_2, gateAt_2, bookAt_3, visitorAt_3, gateAt_3, bookAt_4, visitorAt_4, gateAt_4, gl, Option.bind_some, gd_in, cl_nI]
  rw [h.vs (by omega) hv, h.vs (by omega) hv]
  simp only [show 5 + 2 = 7 from rfl, show 5 + 3 = 8 from rfl]
  by_cases e : A.1 8 v = 1
  · rw [if_pos e]; exact goOn24_spec h hI hv (if_pos e)
  · rw [if_neg e]; exact goOn24_spec h hI hv (if_neg e)
theorem moveL : ∀ (m v f : Nat) (row : Nat → Int32) (A : AS), v + m = 6 → m < f → RB row A → Inv T A → ∃ row', (fX4_tick_L11 f row (nI v) = fX4_tick_L41 gFuel row' 0) ∧ RB row' (fr aMove m v A) ∧ Inv T (fr aMove m v A) := by
  intro m
  induction m with
  | zero =>
    intro v f row A hv hf h hI
    obtain ⟨f, rfl⟩ : ∃ z, f = z + 1 := ⟨f - 1, by omega⟩
    have hv : v = 6 := by omega
    subst hv
    refine ⟨row, ?_, h, hI⟩
    simp (disch := omega) only [fX4_tick_L11, lel_3, lel_6, lel_10, lel_20, lel_120, lel_233]
    rw [if_pos (Nat.le_refl 6)]
  | succ m ih =>
    intro v f row A hv hf h hI
    obtain ⟨f, rfl⟩ : ∃ z, f = z + 1 := ⟨f - 1, by omega⟩
    have hv2 : v < 6 := by omega
    rw [fr_succ]
    simp (disch := omega) only [fX4_tick_L11, lel_3, lel_6, lel_10, lel_20, lel_120, lel_233, bookAt_0, visitorAt_0, gateAt_0, bookAt_1, visitorAt_1, gateAt_1, bookAt_2, visitorAt_2, gateAt_2, bookAt_3, visitorAt_3, gateAt_3, bookAt_4, visitorAt_4, gateAt_4, gl, Option.bind_some, gd_in, cl_nI]
    rw [if_neg (by omega), h.vs (by omega) hv2, nI_1]
    by_cases e : A.1 5 v = 1
    · rw [if_pos (show A.1 (5 + 0) v = 1 from e)]
      obtain ⟨row1, e1, h1, hI1⟩ := goOn_spec h hI hv2
      rw [e1, Option.bind_some]
      have ea : aMove A v = aGoOn A v := if_pos e
      rw [ea]
      exact ih (v + 1) f row1 _ (by omega) (by omega) h1 hI1
    · rw [if_neg (show ¬ A.1 (5 + 0) v = 1 from e)]
      have ea : aMove A v = A := if_neg e
      rw [ea]
      exact ih (v + 1) f row A (by omega) (by omega) h hI
end RT3
