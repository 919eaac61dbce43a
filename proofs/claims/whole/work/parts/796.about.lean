section AB
variable {T T' : Nat} {A A' : AS} {s s' : ST} {r r' : gS}
theorem refWhoL (hB : RB (r 3) A) (x : Int32) : ∀ (m v f : Nat), v + m = 6 → m < f → fX4_visitorsAt_L4 f r x (nI (fb_ct (fun v => decide (A.1 5 v = x)) v)) (nI v) = some (nI (fb_ct (fun v => decide (A.1 5 v = x)) 6), r) := by
  intro m
  induction m with
  | zero =>
    intro v f hv hf
    obtain ⟨f, rfl⟩ : ∃ z, f = z + 1 := ⟨f - 1, by omega⟩
    have : v = 6 := by omega
    subst this
    simp only [fX4_visitorsAt_L4]
    rw [if_pos (by decide)]
  | succ m ih =>
    intro v f hv hf
    obtain ⟨f, rfl⟩ : ∃ z, f = z + 1 := ⟨f - 1, by omega⟩
    simp (disch := omega) only [fX4_visitorsAt_L4, visitorAt_0, Option.bind_some, gd_in, cl_nI, gl, nI_1, nI_p0]
    rw [if_neg (fun q => absurd ((lel_6 (by omega)).mp q) (by omega)), hB.vs (k := 0) (by omega) (by omega)]
    have hn := ih (v + 1) f (by omega) (by omega)
    rw [fb_ct_succ] at hn
    by_cases e : A.1 (5 + 0) v = x
    · have e' : A.1 5 v = x := e
      rw [if_pos e]
      rw [if_pos (decide_eq_true e')] at hn
      exact hn
    · have e' : ¬ A.1 5 v = x := e
      rw [if_neg e]
      rw [if_neg (show ¬ decide (A.1 5 v = x) = true by rw [decide_eq_false e']; decide)] at hn
      exact hn
theorem refWho (hB : RB (r 3) A) (x : Int32) : fX4_visitorsAt r x = some (nI (fb_ct (fun v => decide (A.1 5 v = x)) 6), r) := refWhoL hB x 6 0 gFuel rfl (by decide)
theorem refWait (hB : RB (r 3) A) : fX4_waiting r = some (nI ((A.2.1 0).length + (A.2.1 1).length + (A.2.1 2).length), r) := by
  have w : ∀ g, g < 3 → r 3 (124 + 4 * g + 2) = nI (A.2.1 g).length := fun g hg => (hB.2.2.1 g hg).2.2.1
  have st : ∀ (g n f : Nat), g < 3 → fX4_waiting_L4 (f + 1) r (nI n) (nI g) = fX4_waiting_L4 f r (nI (n + (A.2.1 g).length)) (nI (g + 1)) := fun g n f hg => by
    simp (disch := omega) only [fX4_waiting_L4, gateAt_2, Option.bind_some, gd_in, cl_nI, gl, nI_1]
    rw [if_neg (fun q => absurd ((lel_3 (by omega)).mp q) (by omega)), w g hg, nI_add]
  have h0 : fX4_waiting r = fX4_waiting_L4 (4999 + 1) r (nI 0) (nI 0) := rfl
  rw [h0, st 0 0 4999 (by omega), st 1 _ 4998 (by omega), st 2 _ 4997 (by omega)]
  have h3 : ∀ (n f : Nat), fX4_waiting_L4 (f + 1) r (nI n) (nI 3) = some (nI n, r) := fun n f => by
    simp only [fX4_waiting_L4]
    rw [if_pos (by decide)]
  rw [h3 _ 4996, Nat.zero_add]
theorem bagsCt (A : AS) (v : Nat) (hI : Inv T A) (hv : v < 6) : fb_ct (fun b => decide (¬ A.1 0 b = 0 ∧ aHolder A b < v + 1)) 20 = fb_ct (fun b => decide (¬ A.1 0 b = 0 ∧ aHolder A b < v)) 20 + bagN A v := by
  unfold bagN
  rw [← fb_ct_or (n := 20) (p := fun b => decide (¬ A.1 0 b = 0 ∧ aHolder A b < v)) (q := holds A v)]
  · refine fb_ct_cong (fun b hb => ?_)
    rcases hold_cases hI hb with ⟨e, h0⟩ | ⟨v', hv', e, e1, e2, e3, h1⟩
    · rw [h0 v hv, e]; rfl
    · rw [h1 v hv, e2]
      by_cases q : v = v'
      · subst q
        rw [decide_eq_true (⟨e3, by omega⟩ : ¬ A.1 0 b = 0 ∧ v < v + 1), decide_eq_true (show v = v from rfl), Bool.or_true]
      · rw [decide_eq_false q, Bool.or_false]
        by_cases c : v' < v
        · rw [decide_eq_true (⟨e3, by omega⟩ : ¬ A.1 0 b = 0 ∧ v' < v + 1), decide_eq_true (⟨e3, c⟩ : ¬ A.1 0 b = 0 ∧ v' < v)]
        · rw [decide_eq_false (show ¬ (¬ A.1 0 b = 0 ∧ v' < v + 1) from fun z => by have := z.2; omega), decide_eq_false (show ¬ (¬ A.1 0 b = 0 ∧ v' < v) from fun z => c z.2)]
  · intro b hb z
    have z1 := of_decide_eq_true z.1
    rcases hold_cases hI hb with ⟨e, h0⟩ | ⟨v', hv', e, e1, e2, e3, h1⟩
    · exact z1.1 e
    · have z2 := z.2
      rw [h1 v hv] at z2
      have := of_decide_eq_true z2
      have z3 := z1.2
      rw [e2] at z3
      omega
theorem inBagsL (hB : RB (r 3) A) (hI : Inv T A) : ∀ (m v f : Nat), v + m = 6 → m < f → fX4_inBags_L4 f r (nI (fb_ct (fun b => decide (¬ A.1 0 b = 0 ∧ aHolder A b < v)) 20)) (nI v) = some (nI (fb_ct (fun b => decide (¬ A.1 0 b = 0)) 20), r) := by
  intro m
  induction m with
  | zero =>
    intro v f hv hf
    obtain ⟨f, rfl⟩ : ∃ z, f = z + 1 := ⟨f - 1, by omega⟩
    have : v = 6 := by omega
    subst this
    simp only [fX4_inBags_L4]
    rw [if_pos (by decide)]
    have : fb_ct (fun b => decide (¬ A.1 0 b = 0 ∧ aHolder A b < 6)) 20 = fb_ct (fun b => decide (¬ A.1 0 b = 0)) 20 := fb_ct_cong (fun b hb => by
      rcases hold_cases hI hb with ⟨e, h0⟩ | ⟨v', hv', e, e1, e2, e3, h1⟩
      · rw [e]; rfl
      · rw [decide_eq_true e3, decide_eq_true (⟨e3, by rw [e2]; exact hv'⟩ : ¬ A.1 0 b = 0 ∧ aHolder A b < 6)])
    rw [this]
  | succ m ih =>
    intro v f hv hf
    obtain ⟨f, rfl⟩ : ∃ z, f = z + 1 := ⟨f - 1, by omega⟩
    simp only [fX4_inBags_L4]
    rw [if_neg (fun q => absurd ((lel_6 (by omega)).mp q) (by omega)), bag_spec hB (by omega), Option.bind_some]
    simp only [gl, sf_self, nI_1, nI_add]
    rw [← bagsCt A v hI (by omega)]
    exact ih (v + 1) f (by omega) (by omega)
theorem inBags_s (hB : RB (r 3) A) (hI : Inv T A) : fX4_inBags r = some (nI (fb_ct (fun b => decide (¬ A.1 0 b = 0)) 20), r) := by
  have := inBagsL hB hI 6 0 gFuel rfl (by decide)
  have z : fb_ct (fun b => decide (¬ A.1 0 b = 0 ∧ aHolder A b < 0)) 20 = 0 := fb_ct_zero.mpr (fun b _ => decide_eq_false (fun q => Nat.not_lt_zero _ q.2))
  rw [z] at this
  exact this
theorem Step_neg {code : Nat → Nat} {c d : Prop} [Decidable c] [Decidable d] {x1 x2 : Option ((Nat × ST) ⊕ (Int32 × ST))} {y1 y2 : Option (Int32 × gS)} (hc : ¬ c) (hd : ¬ d) (h : Step T code x2 y2) : Step T code (if c then x1 else x2) (if d then y1 else y2) := by rw [if_neg hc, if_neg hd]; exact h
theorem Step_pos {code : Nat → Nat} {c d : Prop} [Decidable c] [Decidable d] {x1 x2 : Option ((Nat × ST) ⊕ (Int32 × ST))} {y1 y2 : Option (Int32 × gS)} (hc : c) (hd : d) (h : Step T code x1 y1) : Step T code (if c then x1 else x2) (if d then y1 else y2) := by rw [if_pos hc, if_pos hd]; exact h
theorem about_step (h : TopA T s r A) (p : Int32) : Step T cdI (fX3_about s p) (fX4_about r p) := by
  have no : fX4_about_L18 r p 1 = some (0, st2 r 0 0 1) := rfl
  obtain ⟨hG, hA, hB, -⟩ := id h
  have hI := hG.1
  have hB0 : RB ((st2 r 0 0 0) 3) A := by rw [row0]; exact hB
  unfold fX4_about
  rw [inI_spec p 0 10 0 10 (by decide) (by decide), Option.bind_some]
  by_cases hp : 0 ≤ p.toInt ∧ p.toInt ≤ 10
  · rw [decide_eq_true hp, if_neg (show ¬ bI true = 0 by decide)]
    obtain ⟨k, hk, ek⟩ := in_nI (p := p) (n := 11) (by omega)
    subst ek
    have q5 := hB.2.2.2.2.1
    have a8 := hA.2.2.2.2.2.2.2.1
    unfold fX3_about fX4_about_L18
    rw [refused_0, Option.bind_some, if_pos rfl]
    rcases (by omega : k = 0 ∨ k = 1 ∨ k = 2 ∨ k = 3 ∨ k = 4 ∨ k = 5 ∨ k = 6 ∨ k = 7 ∨ k = 8 ∨ k = 9 ∨ k = 10) with rfl | rfl | rfl | rfl | rfl | rfl | rfl | rfl | rfl | rfl | rfl
    · refine Step_pos rfl rfl ?_
      exact Step_yes h rfl (by simp only [row0, cl_198]; rw [q5.2.2.1, a8.2.2.1])
    all_goals refine Step_neg (by decide) (by decide) ?_
    · refine Step_pos rfl rfl ?_
      rw [shoutC_s hA, Option.bind_some]
      exact Step_yes h rfl (by simp only [row0, cl_199]; rw [hB.2.2.2.2.2.1]; rfl)
    all_goals refine Step_neg (by decide) (by decide) ?_
    · refine Step_pos rfl rfl ?_
      rw [refWait hB0, Option.bind_some]
      have w : ∀ g, g < 3 → s.2.2.1 4 g = nI (A.2.1 g).length := fun g hg => (hA.2.2.2.2.2.1 g hg).2.2.2
      refine Step_yes h (v := nI ((A.2.1 0).length + (A.2.1 1).length + (A.2.1 2).length)) ?_ rfl
      unfold fX0_waitingCount
      rw [cl_0, cl_1, cl_2, w 0 (by omega), w 1 (by omega), w 2 (by omega), nI_add, nI_add]
      rfl
    all_goals refine Step_neg (by decide) (by decide) ?_
    · refine Step_pos rfl rfl ?_
      exact Step_yes h rfl (by simp only [row0, cl_200]; rw [q5.2.2.2.1, a8.2.2.2.1])
    all_goals refine Step_neg (by decide) (by decide) ?_
    · refine Step_pos rfl rfl ?_
      exact Step_yes h rfl (by simp only [row0, cl_201]; rw [q5.2.2.2.2, a8.2.2.2.2])
    all_goals refine Step_neg (by decide) (by decide) ?_
    · refine Step_pos rfl rfl ?_
      rw [isM_count hA.2.1, Option.bind_some, borrowed_spec hB0 hI, Option.bind_some]
      simp only [gl, sf_self]
      exact Step_yes h rfl rfl
    all_goals refine Step_neg (by decide) (by decide) ?_
    · refine Step_pos rfl rfl ?_
      rw [inBags_s hB0 hI, Option.bind_some]
      obtain ⟨w, k1, k2⟩ := booksInBags_s hA hI
      rw [k1, Option.bind_some]
      simp only [gl]
      rw [isM_count k2, Option.bind_some]
      exact Step_yes h rfl rfl
    all_goals refine Step_neg (by decide) (by decide) ?_
    · refine Step_pos rfl rfl ?_
      rw [visitorsWho_s hA, Option.bind_some, refWho hB0, Option.bind_some]
      exact Step_yes h rfl rfl
    all_goals refine Step_neg (by decide) (by decide) ?_
    · refine Step_pos rfl rfl ?_
      rw [visitorsWho_s hA, Option.bind_some, refWho hB0, Option.bind_some]
      exact Step_yes h rfl rfl
    all_goals refine Step_neg (by decide) (by decide) ?_
    · refine Step_pos rfl rfl ?_
      exact Step_yes h rfl (by simp only [row0, cl_196]; rw [q5.1, a8.1])
    · refine Step_neg (by decide) (by decide) ?_
      rw [if_pos (show nI 10 = 10 from rfl)]
      exact Step_yes h rfl (by simp only [row0, cl_197]; rw [q5.2.1, a8.2.1])
  · rw [decide_eq_false hp, if_pos bI_f]
    have n0 : ∀ w : Nat, w < 11 → ¬ p = nI w := fun w hw z => hp (by
      subst z
      have : (nI w).toInt = (w : Int) := Int32.toInt_ofNat_of_lt (by omega)
      omega)
    have hx : fX3_about s p = some (.inl (1, s)) := by
      unfold fX3_about
      rw [if_neg (show ¬ p = 0 from n0 0 (by omega)), if_neg (show ¬ p = 1 from n0 1 (by omega)), if_neg (show ¬ p = 2 from n0 2 (by omega)), if_neg (show ¬ p = 3 from n0 3 (by omega)), if_neg (show ¬ p = 4 from n0 4 (by omega)), if_neg (show ¬ p = 5 from n0 5 (by omega)), if_neg (show ¬ p = 6 from n0 6 (by omega)), if_neg (show ¬ p = 7 from n0 7 (by omega)), if_neg (show ¬ p = 8 from n0 8 (by omega)), if_neg (show ¬ p = 9 from n0 9 (by omega)), if_neg (show ¬ p = 10 from n0 10 (by omega))]
    exact Step_no h (n := 1) hx rfl (by decide) no
end AB
