section LN
variable {T : Nat} {σ : gS} {A : AS}
/-- the books that slipped -/
def RS (σ : gS) (A : AS) : Prop := isM (σ 9 14) (fun b => A.1 13 b = 1)
theorem frdL {w : Int32} {v : Nat} (hw : isM w (fun b => A.1 0 b = nI (v + 1))) : ∀ (m i f : Nat) (σ' : gS), i + m = 20 → m < f → (∀ k j, k ≠ 15 → σ' k j = σ k j) → (∀ j, j < 20 → σ' 15 j = if j < i ∧ holds A v j = true then 0 else σ 15 j) → ∃ σ'' : gS, fX1_forgetReading_L7 f σ' w (nI i) = (fX0_forget (st2 σ'' 9 9 (σ'' 9 9 &&& (w ^^^ (-1 : Int32)))) w).bind some ∧ (∀ k j, k ≠ 15 → σ'' k j = σ k j) ∧ ∀ j, j < 20 → σ'' 15 j = if holds A v j = true then 0 else σ 15 j := by
  intro m
  induction m with
  | zero =>
    intro i f σ' hi hf f1 f2
    obtain ⟨f, rfl⟩ : ∃ z, f = z + 1 := ⟨f - 1, by omega⟩
    simp only [fX1_forgetReading_L7]
    rw [if_pos ((lel_20 (by omega)).mpr (by omega))]
    refine ⟨σ', rfl, f1, fun j hj => ?_⟩
    rw [f2 j hj]
    by_cases e : holds A v j = true
    · rw [if_pos ⟨by omega, e⟩, if_pos e]
    · rw [if_neg (fun z => e z.2), if_neg e]
  | succ m ih =>
    intro i f σ' hi hf f1 f2
    obtain ⟨f, rfl⟩ : ∃ z, f = z + 1 := ⟨f - 1, by omega⟩
    simp only [fX1_forgetReading_L7]
    rw [if_neg (fun q => absurd ((lel_20 (by omega)).mp q) (by omega)), isM_has hw (by omega)]
    simp only [Option.bind_some, bI_0]
    rw [nI_1]
    by_cases e : A.1 0 i = nI (v + 1)
    · have eh : holds A v i = true := decide_eq_true e
      rw [decide_eq_true e, if_neg (by decide), gd_in (by omega) (by decide)]
      simp only [gl]
      rw [cl_nI (by omega)]
      refine ih (i + 1) f _ (by omega) (by omega) (fun k j q => ?_) (fun j hj => ?_)
      · rw [st_ne (Or.inl q)]; exact f1 k j q
      · by_cases q : j = i
        · rw [st_eq rfl q, q, if_pos ⟨by omega, eh⟩]
        · rw [st_ne (Or.inr q), f2 j hj]
          by_cases c : j < i ∧ holds A v j = true
          · rw [if_pos c, if_pos ⟨by omega, c.2⟩]
          · rw [if_neg c, if_neg (fun z => c ⟨by omega, z.2⟩)]
    · have eh : ¬ holds A v i = true := by unfold holds; rw [decide_eq_true_eq]; exact e
      rw [decide_eq_false e, if_pos rfl]
      refine ih (i + 1) f σ' (by omega) (by omega) f1 (fun j hj => ?_)
      rw [f2 j hj]
      by_cases c : j < i ∧ holds A v j = true
      · rw [if_pos c, if_pos ⟨by omega, c.2⟩]
      · rw [if_neg c, if_neg (fun z => c ⟨by
          by_cases q : j = i
          · subst q; exact absurd z.2 eh
          · omega, z.2⟩)]
theorem forgetRd_s (h : RA σ A) (hI : Inv T A) {w : Int32} {v : Nat} (hv : v < 6) (hw : isM w (fun b => A.1 0 b = nI (v + 1))) : ∃ σ', fX1_forgetReading σ w = some σ' ∧ RA σ' (fr (aArr v false) 20 0 A) ∧ σ' 9 14 = σ 9 14 := by
  unfold fX1_forgetReading
  rw [arrF_eq]
  by_cases e : w = 0
  · rw [if_pos e]
    have hn := (isM_zero hw).mp e
    refine ⟨σ, rfl, ?_, rfl⟩
    have hh : ∀ i, i < 20 → holds A v i = false := fun i hi => decide_eq_false (hn i hi)
    have e1 : (fun k i => if (k = 2 ∨ k = 3) ∧ 0 ≤ i ∧ i < 0 + 20 ∧ holds A v i = true then 0 else A.1 k i) = A.1 := by
      funext k i
      rw [if_neg]
      rintro ⟨_, _, a, b⟩
      rw [hh i (by omega)] at b
      exact absurd b (by decide)
    have e2 : (fun g => (A.2.1 g).filter (fun x => !(decide (0 ≤ x ∧ x < 0 + 20) && holds A v x))) = A.2.1 := by
      funext g
      rw [List.filter_eq_self]
      intro x hx
      by_cases q : x < 20
      · rw [hh x q, Bool.and_false]; rfl
      · rw [decide_eq_false (by omega)]; rfl
    rw [e1, e2]; exact h
  · rw [if_neg e]
    obtain ⟨σ1, k1, f1, f2⟩ := frdL (σ := σ) hw 20 0 gFuel σ rfl (by decide) (fun _ _ _ => rfl) (fun j hj => by rw [if_neg (by omega)])
    have k1' : fX1_forgetReading_L7 gFuel σ w 0 = _ := k1
    rw [k1']
    have hr : RA (st2 σ1 9 9 (σ1 9 9 &&& (w ^^^ (-1 : Int32)))) ((fun k i => if (k = 2 ∨ k = 3) ∧ 0 ≤ i ∧ i < 0 + 20 ∧ holds A v i = true then 0 else A.1 k i), A.2) := by
      obtain ⟨h1, h2, h3, h4, h5, h6, h7, h8, h9, h10⟩ := h
      have s : ∀ k i, k ≠ 2 → k ≠ 3 → (if (k = 2 ∨ k = 3) ∧ 0 ≤ i ∧ i < 0 + 20 ∧ holds A v i = true then 0 else A.1 k i) = A.1 k i := fun k i a b => if_neg (fun z => by omega)
      refine ⟨fun v hv => ?_, ?_, ?_, fun b' hb' => ?_, fun v hv => ?_, fun g hg => ?_, fun g i hg hi => ?_, ?_, fun k hk => ?_, fun v hv => ?_⟩
      · simp (disch := decide) only [st2k, f1, s]; exact h1 v hv
      · rw [st_ne (by decide)]; simp (disch := decide) only [f1, s]; exact h2
      · rw [st_eq rfl rfl, f1 9 9 (by decide)]
        refine isM_cong (isM_sub h3 hw) (fun i hi => ?_)
        show _ ↔ (if (3 = 2 ∨ 3 = 3) ∧ 0 ≤ i ∧ i < 0 + 20 ∧ holds A v i = true then (0 : Int32) else A.1 3 i) = 1
        by_cases q : holds A v i = true
        · rw [if_pos ⟨Or.inr rfl, by omega, by omega, q⟩]
          constructor
          · rintro ⟨_, z⟩; exact absurd (of_decide_eq_true q) z
          · intro z; exact absurd z (by decide)
        · rw [if_neg (fun z => q z.2.2.2)]
          constructor
          · intro z; exact z.1
          · intro z; exact ⟨z, fun y => q (decide_eq_true y)⟩
      · refine ⟨?_, by rw [st_ne (by omega), f1 16 _ (by decide)]; exact (h4 b' hb').2.trans (s 4 b' (by decide) (by decide)).symm⟩
        rw [st_ne (by omega), f2 b' hb']
        show _ = (if (2 = 2 ∨ 2 = 3) ∧ 0 ≤ b' ∧ b' < 0 + 20 ∧ holds A v b' = true then (0 : Int32) else A.1 2 b')
        by_cases q : holds A v b' = true
        · rw [if_pos q, if_pos ⟨Or.inl rfl, by omega, by omega, q⟩]
        · rw [if_neg q, if_neg (fun z => q z.2.2.2)]; exact (h4 b' hb').1
      · simp (disch := decide) only [st2k, f1, s]; exact h5 v hv
      · simp (disch := decide) only [st2k, f1, s]; exact h6 g hg
      · simp (disch := decide) only [st2k, f1]; exact h7 g i hg hi
      · rw [st_ne (by decide), st_ne (by decide), st_ne (by decide), st_ne (by decide), st_ne (by decide)]
        simp (disch := decide) only [f1, s]; exact h8
      · simp (disch := decide) only [st2k, f1]; exact h9 k hk
      · simp (disch := decide) only [st2k, f1]; exact h10 v hv
    obtain ⟨σ2, k2, r2, f3⟩ := lforget_s (P := fun x => holds A v x) hr (fun g hg => hI.qlen (g := g) hg) (fun g i hg hi => hI.qlt (g := g) hg hi) (fun x hx => by rw [isM_has hw hx]; rfl)
    refine ⟨σ2, by rw [k2]; rfl, ?_, ?_⟩
    · have e2 : ∀ g, g < 3 → (A.2.1 g).filter (fun x => !(decide (0 ≤ x ∧ x < 0 + 20) && holds A v x)) = (A.2.1 g).filter (fun x => !holds A v x) := fun g hg => by
        refine List.filter_congr (fun x hx => ?_)
        have := (hI.2.2.2.1 g x hg hx).1
        rw [decide_eq_true (by omega), Bool.true_and]
      obtain ⟨h1, h2, h3, h4, h5, h6, h7, h8, h9⟩ := r2
      refine ⟨h1, h2, h3, h4, h5, fun g hg => ?_, fun g i hg hi => ?_, h8, h9⟩
      · have := h6 g hg
        show _ ∧ _ ∧ _ ∧ σ2 4 g = nI ((A.2.1 g).filter (fun x => !(decide (0 ≤ x ∧ x < 0 + 20) && holds A v x))).length
        rw [e2 g hg]; exact this
      · have hi' : i < ((A.2.1 g).filter (fun x => !(decide (0 ≤ x ∧ x < 0 + 20) && holds A v x))).length := hi
        show σ2 5 _ = nI (((A.2.1 g).filter (fun x => !(decide (0 ≤ x ∧ x < 0 + 20) && holds A v x))).getD i 0)
        rw [e2 g hg] at hi' ⊢
        exact h7 g i hg hi'
    · rw [f3 9 14 (by decide) (by decide), st_ne (by decide)]; exact f1 9 14 (by decide)
theorem countOut_s (h : RA σ A) (hI : Inv T A) {v : Nat} (hv : v < 6) : ∃ σ', fX1_countOutside σ (σ 10 v &&& ((σ 9 8) ^^^ (-1 : Int32))) = some σ' ∧ RA σ' (fr (aArr v true) 20 0 A) ∧ (RS σ A → RS σ' (fr (aArr v true) 20 0 A)) := by
  have hm : isM (σ 10 v &&& ((σ 9 8) ^^^ (-1 : Int32))) (fun b => A.1 0 b = nI (v + 1) ∧ A.1 1 b = 0) := isM_cong (isM_sub (h.bag hv) h.2.1) (fun i hi => by
    rcases (hI.2.1 i hi).1 with z | z
    · rw [z]; simp
    · rw [z]; simp)
  generalize σ 10 v &&& ((σ 9 8) ^^^ (-1 : Int32)) = u at hm
  have m1 : isM (u &&& σ 9 9) (fun b => aCau A v b = true) := isM_cong (isM_and hm h.2.2.1) (fun i hi => by
    unfold aCau holds
    rw [Bool.and_eq_true, Bool.and_eq_true, decide_eq_true_eq, decide_eq_true_eq, decide_eq_true_eq, and_assoc])
  have m2 : isM (u &&& (σ 9 9 ^^^ (-1 : Int32))) (fun b => aSli A v b = true) := isM_cong (isM_sub hm h.2.2.1) (fun i hi => by
    unfold aSli holds
    rw [Bool.and_eq_true, Bool.and_eq_true, decide_eq_true_eq, decide_eq_true_eq, Bool.not_eq_true', decide_eq_false_iff_not, and_assoc])
  have c1 : fb_ct (fun i => decide (aCau A v i = true)) 20 = fb_ct (fun i => aCau A v (0 + i)) 20 := fb_ct_cong (fun k _ => by rw [Nat.zero_add]; cases aCau A v k <;> rfl)
  have c2 : fb_ct (fun i => decide (aSli A v i = true)) 20 = fb_ct (fun i => aSli A v (0 + i)) 20 := fb_ct_cong (fun k _ => by rw [Nat.zero_add]; cases aSli A v k <;> rfl)
  unfold fX1_countOutside
  rw [isM_count m1, c1]
  simp only [Option.bind_some, gl]
  have t1 : st2 σ 9 12 (σ 9 12 + nI (fb_ct (fun i => aCau A v (0 + i)) 20)) 9 9 = σ 9 9 := st_ne (by decide)
  rw [t1, isM_count m2, c2]
  simp only [Option.bind_some]
  have t2 : st2 σ 9 12 (σ 9 12 + nI (fb_ct (fun i => aCau A v (0 + i)) 20)) 9 13 = σ 9 13 := st_ne (by decide)
  rw [t2]
  have t3 : ∀ x, st2 (st2 σ 9 12 (σ 9 12 + nI (fb_ct (fun i => aCau A v (0 + i)) 20))) 9 13 x 9 9 = σ 9 9 := fun x => by rw [st_ne (by decide), st_ne (by decide)]
  have t4 : ∀ x, st2 (st2 σ 9 12 (σ 9 12 + nI (fb_ct (fun i => aCau A v (0 + i)) 20))) 9 13 x 9 14 = σ 9 14 := fun x => by rw [st_ne (by decide), st_ne (by decide)]
  rw [t3, t4, h.2.2.2.2.2.2.2.1.2.2.2.1, h.2.2.2.2.2.2.2.1.2.2.2.2]
  have hr := RA_14 (RA_sli (RA_cau h (A.1 12 3 + nI (fb_ct (fun i => aCau A v (0 + i)) 20))) (A.1 12 4 + nI (fb_ct (fun i => aSli A v (0 + i)) 20))) (σ 9 14 ||| (u &&& (σ 9 9 ^^^ (-1 : Int32))))
  refine ⟨_, rfl, ?_, fun hs => ?_⟩
  · rw [arrT_eq]
    have s : ∀ k i, k ≠ 13 → (if k = 12 ∧ i = 3 then A.1 12 3 + nI (fb_ct (fun i => aCau A v (0 + i)) 20) else if k = 12 ∧ i = 4 then A.1 12 4 + nI (fb_ct (fun i => aSli A v (0 + i)) 20) else if k = 13 ∧ 0 ≤ i ∧ i < 0 + 20 ∧ aSli A v i = true then 1 else A.1 k i) = (aS (aS A 12 3 (A.1 12 3 + nI (fb_ct (fun i => aCau A v (0 + i)) 20))) 12 4 (A.1 12 4 + nI (fb_ct (fun i => aSli A v (0 + i)) 20))).1 k i := fun k i hk => by
      rw [aS_1]
      by_cases d1 : k = 12 ∧ i = 3
      · rw [if_pos d1, st_ne (by omega), aS_1, st_eq d1.1 d1.2]
      · rw [if_neg d1]
        by_cases d2 : k = 12 ∧ i = 4
        · rw [if_pos d2, st_eq d2.1 d2.2]
        · rw [if_neg d2, if_neg (fun z => hk z.1), st_ne (by omega), aS_1, st_ne (by omega)]
    obtain ⟨h1, h2, h3, h4, h5, h6, h7, h8, h9⟩ := hr
    refine ⟨fun v hv => ?_, ?_, ?_, fun b' hb' => ?_, fun v hv => ?_, fun g hg => ?_, h7, ?_, h9⟩
    · simp (disch := decide) only [s]; exact h1 v hv
    · simp (disch := decide) only [s]; exact h2
    · simp (disch := decide) only [s]; exact h3
    · simp (disch := decide) only [s]; exact h4 b' hb'
    · simp (disch := decide) only [s]; exact h5 v hv
    · simp (disch := decide) only [s]; exact h6 g hg
    · simp (disch := decide) only [s]; exact h8
  · unfold RS
    rw [arrT_eq, st_eq rfl rfl]
    refine isM_cong (isM_or hs m2) (fun i hi => ?_)
    show _ ↔ (if 13 = 12 ∧ i = 3 then A.1 12 3 + nI (fb_ct (fun i => aCau A v (0 + i)) 20) else if 13 = 12 ∧ i = 4 then A.1 12 4 + nI (fb_ct (fun i => aSli A v (0 + i)) 20) else if 13 = 13 ∧ 0 ≤ i ∧ i < 0 + 20 ∧ aSli A v i = true then 1 else A.1 13 i) = 1
    rw [if_neg (by omega), if_neg (by omega)]
    by_cases q : aSli A v i = true
    · rw [if_pos ⟨rfl, by omega, by omega, q⟩]; simp [q]
    · rw [if_neg (fun z => q z.2.2.2)]; simp [q]
end LN
