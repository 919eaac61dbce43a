section LCl
variable {T : Nat} {σ : gS} {A : AS}
theorem cl44 : ∀ (m i f : Nat) (σ : gS), i + m = 10 → m < f → (∀ k j, 6 ≤ k → k ≤ 8 → j < i → σ k j = -9) → ∃ r, fX0_clear_L44 f σ (nI i) = some r ∧ ((∀ k j, ¬ (6 ≤ k ∧ k ≤ 8) → ¬ (k = 0 ∧ j = 8) → r k j = σ k j) ∧ (∀ k j, 6 ≤ k → k ≤ 8 → j < 10 → r k j = -9) ∧ r 0 8 = 1) := by
  intro m
  induction m with
  | zero =>
    intro i f σ hi hf h
    obtain ⟨f, rfl⟩ : ∃ z, f = z + 1 := ⟨f - 1, by omega⟩
    simp only [fX0_clear_L44]
    rw [if_pos ((lel_10 (by omega)).mpr (by omega))]
    refine gl_ex fun u h1 => ⟨u, rfl, fun k j a b => ?_, fun k j a b c => ?_, ?_⟩
    · rw [h1, st_ne (by omega)]
    · rw [h1, st_ne (by omega)]; exact h k j a b (by omega)
    · rw [h1, st_eq rfl rfl]
  | succ m ih =>
    intro i f σ hi hf h
    obtain ⟨f, rfl⟩ : ∃ z, f = z + 1 := ⟨f - 1, by omega⟩
    simp only [fX0_clear_L44]
    rw [if_neg (fun q => absurd ((lel_10 (by omega)).mp q) (by omega))]
    refine gd_ex rfl (by omega) (by decide) (gl_ex fun u2 h2 => gd_ex rfl (by omega) (by decide) (gl_ex fun u3 h3 => gd_ex rfl (by omega) (by decide) (gl_ex fun u4 h4 => ?_)))
    rw [cl_nI (by omega)] at h2 h3 h4
    rw [nI_1]
    have e4 : ∀ k j, u4 k j = if (6 ≤ k ∧ k ≤ 8) ∧ j = i then -9 else σ k j := fun k j => by
      rw [h4, h3, h2]
      by_cases e : j = i
      · rcases (by omega : k = 6 ∨ k = 7 ∨ k = 8 ∨ ¬ (6 ≤ k ∧ k ≤ 8)) with q | q | q | q
        · rw [if_pos (by omega), st_ne (by omega), st_ne (by omega), st_eq q e]
        · rw [if_pos (by omega), st_ne (by omega), st_eq q e]
        · rw [if_pos (by omega), st_eq q e]
        · rw [if_neg (by omega), st_ne (by omega), st_ne (by omega), st_ne (by omega)]
      · rw [if_neg (by omega), st_ne (by omega), st_ne (by omega), st_ne (by omega)]
    obtain ⟨r, k1, k2, k3, k4⟩ := ih (i + 1) f u4 (by omega) (by omega) (fun k j a b c => by
      rw [e4]
      by_cases q : j = i
      · rw [if_pos (by omega)]
      · rw [if_neg (by omega)]; exact h k j a b (by omega))
    exact ⟨r, k1, fun k j a b => by rw [k2 k j a b, e4, if_neg (by omega)], k3, k4⟩
theorem cl2 : ∀ (m i f : Nat) (σ : gS), i + m = 3 → m < f → (∀ j, j < i → σ 1 j = 7 ∧ σ 2 j = 0 ∧ σ 3 j = 0 ∧ σ 4 j = 0) → ∃ r, fX0_clear_L2 f σ (nI i) = some r ∧ ((∀ k j, 9 ≤ k → r k j = σ k j) ∧ (∀ k j, 6 ≤ k → k ≤ 8 → j < 10 → r k j = -9) ∧ r 0 8 = 1 ∧ ∀ j, j < 3 → r 1 j = 7 ∧ r 2 j = 0 ∧ r 3 j = 0 ∧ r 4 j = 0) := by
  intro m
  induction m with
  | zero =>
    intro i f σ hi hf h
    obtain ⟨f, rfl⟩ : ∃ z, f = z + 1 := ⟨f - 1, by omega⟩
    simp only [fX0_clear_L2]
    rw [if_pos ((lel_3 (by omega)).mpr (by omega))]
    obtain ⟨r, k1, k2, k3, k4⟩ := cl44 10 0 gFuel σ rfl (by decide) (fun _ _ _ _ q => absurd q (Nat.not_lt_zero _))
    refine ⟨r, k1, fun k j a => k2 k j (by omega) (by omega), k3, k4, fun j hj => ?_⟩
    rw [k2 1 j (by omega) (by omega), k2 2 j (by omega) (by omega), k2 3 j (by omega) (by omega), k2 4 j (by omega) (by omega)]
    exact h j (by omega)
  | succ m ih =>
    intro i f σ hi hf h
    obtain ⟨f, rfl⟩ : ∃ z, f = z + 1 := ⟨f - 1, by omega⟩
    simp only [fX0_clear_L2]
    rw [if_neg (fun q => absurd ((lel_3 (by omega)).mp q) (by omega))]
    refine gd_ex rfl (by omega) (by decide) (gl_ex fun u5 h5 => gd_ex rfl (by omega) (by decide) (gl_ex fun u6 h6 => gd_ex rfl (by omega) (by decide) (gl_ex fun u7 h7 => gd_ex rfl (by omega) (by decide) (gl_ex fun u8 h8 => ?_))))
    rw [cl_nI (by omega)] at h5 h6 h7 h8
    rw [nI_1]
    have ne : ∀ k j, (5 ≤ k ∨ j ≠ i) → u8 k j = σ k j := fun k j q => by
      rw [h8, h7, h6, h5, st_ne (by omega), st_ne (by omega), st_ne (by omega), st_ne (by omega)]
    obtain ⟨r, k1, k2, k3⟩ := ih (i + 1) f u8 (by omega) (by omega) (fun j hj => by
      by_cases q : j = i
      · subst q
        rw [h8, h7, h6, h5]
        refine ⟨?_, ?_, ?_, ?_⟩
        · rw [st_ne (by omega), st_ne (by omega), st_ne (by omega), st_eq rfl rfl]
        · rw [st_ne (by omega), st_ne (by omega), st_eq rfl rfl]
        · rw [st_ne (by omega), st_eq rfl rfl]
        · rw [st_eq rfl rfl]
      · rw [ne 1 j (by omega), ne 2 j (by omega), ne 3 j (by omega), ne 4 j (by omega)]; exact h j (by omega))
    exact ⟨r, k1, fun k j a => by rw [k2 k j a, ne k j (by omega)], k3⟩
theorem cl60 : ∀ (m i f : Nat) (σ : gS), i + m = 20 → m < f → (∀ j, j < i → σ 15 j = 0 ∧ σ 16 j = 0) → ∃ r, fX1_clear_L60 f σ (nI i) = some r ∧ ((∀ k j, k ≠ 9 → k ≠ 15 → k ≠ 16 → r k j = σ k j) ∧ (∀ j, j < 20 → r 15 j = 0 ∧ r 16 j = 0) ∧ r 9 8 = 0 ∧ r 9 9 = 0 ∧ r 9 10 = 2 ∧ r 9 11 = 0 ∧ r 9 12 = 0 ∧ r 9 13 = 0 ∧ r 9 14 = 0) := by
  intro m
  induction m with
  | zero =>
    intro i f σ hi hf h
    obtain ⟨f, rfl⟩ : ∃ z, f = z + 1 := ⟨f - 1, by omega⟩
    simp only [fX1_clear_L60]
    rw [if_pos ((lel_20 (by omega)).mpr (by omega))]
    simp only [gl]
    refine ⟨_, rfl, fun k j a b c => ?_, fun j hj => ?_, ?_⟩
    · rw [st_ne (by omega), st_ne (by omega), st_ne (by omega), st_ne (by omega), st_ne (by omega), st_ne (by omega), st_ne (by omega)]
    · simp (disch := decide) only [st2k]
      exact h j (by omega)
    · refine ⟨?_, ?_, ?_, ?_, ?_, ?_, ?_⟩ <;> rfl
  | succ m ih =>
    intro i f σ hi hf h
    obtain ⟨f, rfl⟩ : ∃ z, f = z + 1 := ⟨f - 1, by omega⟩
    simp only [fX1_clear_L60]
    rw [if_neg (fun q => absurd ((lel_20 (by omega)).mp q) (by omega))]
    refine gd_ex rfl (by omega) (by decide) (gl_ex fun u8 h8 => gd_ex rfl (by omega) (by decide) (gl_ex fun u9 h9 => ?_))
    rw [cl_nI (by omega)] at h8 h9
    rw [nI_1]
    obtain ⟨r, k1, k2, k3⟩ := ih (i + 1) f u9 (by omega) (by omega) (fun j hj => by
      rw [h9, h8]
      by_cases q : j = i
      · rw [st_ne (by omega), st_eq rfl q, st_eq rfl q]; exact ⟨rfl, rfl⟩
      · rw [st_ne (by omega), st_ne (by omega), st_ne (by omega), st_ne (by omega)]; exact h j (by omega))
    exact ⟨r, k1, fun k j a b c => by rw [k2 k j a b c, h9, h8, st_ne (by omega), st_ne (by omega)], k3⟩
theorem cl9 : ∀ (m i f : Nat) (σ : gS), i + m = 6 → m < f → (∀ j, j < i → σ 10 j = 0 ∧ σ 11 j = 0 ∧ σ 14 j = 0) → ∃ r, fX1_clear_L9 f σ (nI i) = some r ∧ ((∀ k j, k < 9 → r k j = σ k j) ∧ (∀ j, j < 6 → r 10 j = 0 ∧ r 11 j = 0 ∧ r 14 j = 0) ∧ (∀ j, j < 20 → r 15 j = 0 ∧ r 16 j = 0) ∧ r 9 8 = 0 ∧ r 9 9 = 0 ∧ r 9 10 = 2 ∧ r 9 11 = 0 ∧ r 9 12 = 0 ∧ r 9 13 = 0 ∧ r 9 14 = 0) := by
  intro m
  induction m with
  | zero =>
    intro i f σ hi hf h
    obtain ⟨f, rfl⟩ : ∃ z, f = z + 1 := ⟨f - 1, by omega⟩
    simp only [fX1_clear_L9]
    rw [if_pos ((lel_6 (by omega)).mpr (by omega))]
    obtain ⟨r, k1, k2, k3⟩ := cl60 20 0 gFuel σ rfl (by decide) (fun _ q => absurd q (Nat.not_lt_zero _))
    refine ⟨r, k1, fun k j a => k2 k j (by omega) (by omega) (by omega), fun j hj => ?_, k3⟩
    rw [k2 10 j (by omega) (by omega) (by omega), k2 11 j (by omega) (by omega) (by omega), k2 14 j (by omega) (by omega) (by omega)]
    exact h j (by omega)
  | succ m ih =>
    intro i f σ hi hf h
    obtain ⟨f, rfl⟩ : ∃ z, f = z + 1 := ⟨f - 1, by omega⟩
    simp only [fX1_clear_L9]
    rw [if_neg (fun q => absurd ((lel_6 (by omega)).mp q) (by omega))]
    refine gd_ex rfl (by omega) (by decide) (gl_ex fun u10 h10 => gd_ex rfl (by omega) (by decide) (gl_ex fun u11 h11 => gd_ex rfl (by omega) (by decide) (gl_ex fun u12 h12 => gd_ex rfl (by omega) (by decide) (gl_ex fun u13 h13 => gd_ex rfl (by omega) (by decide) (gl_ex fun u14 h14 => ?_)))))
    rw [cl_nI (by omega)] at h10 h11 h12 h13 h14
    rw [nI_1]
    have ne : ∀ k j, (k < 9 ∨ j ≠ i) → u14 k j = σ k j := fun k j q => by
      rw [h14, h13, h12, h11, h10, st_ne (by omega), st_ne (by omega), st_ne (by omega), st_ne (by omega), st_ne (by omega)]
    obtain ⟨r, k1, k2, k3⟩ := ih (i + 1) f u14 (by omega) (by omega) (fun j hj => by
      by_cases q : j = i
      · subst q
        rw [h14, h13, h12, h11, h10]
        refine ⟨?_, ?_, ?_⟩
        · rw [st_ne (by omega), st_ne (by omega), st_ne (by omega), st_ne (by omega), st_eq rfl rfl]
        · rw [st_ne (by omega), st_ne (by omega), st_ne (by omega), st_eq rfl rfl]
        · rw [st_eq rfl rfl]
      · rw [ne 10 j (by omega), ne 11 j (by omega), ne 14 j (by omega)]; exact h j (by omega))
    exact ⟨r, k1, fun k j a => by rw [k2 k j a, ne k j (by omega)], k3⟩
theorem clear_s (σ : gS) : ∃ σ', fX1_clear σ = some σ' ∧ RA σ' aClean ∧ σ' 9 14 = 0 := by
  obtain ⟨σ1, a1, a2, a3, a4, a5⟩ := cl2 3 0 gFuel σ rfl (by decide) (fun _ q => absurd q (Nat.not_lt_zero _))
  obtain ⟨σ2, b1, b2, b3, b4, b5, b6, b7, b8, b9, b10, b11⟩ := cl9 6 0 gFuel σ1 rfl (by decide) (fun _ q => absurd q (Nat.not_lt_zero _))
  refine ⟨σ2, ?_, ?_, b11⟩
  · unfold fX1_clear fX0_clear
    have a1' : fX0_clear_L2 gFuel σ 0 = some σ1 := a1
    rw [a1', Option.bind_some]
    exact b1
  · have z : ∀ k i, k ≠ 12 → k ≠ 9 → aClean.1 k i = 0 := fun k i e e2 => by
      show (if k = 12 then _ else if k = 9 ∧ i < 3 then _ else _) = _
      rw [if_neg e, if_neg (fun q => e2 q.1)]
    have n1 : ∀ v, v < 6 → ¬ ((0 : Int32) = nI (v + 1)) := by decide +kernel
    refine ⟨fun v hv => ?_, ?_, ?_, fun b hb => ?_, fun v hv => ?_, fun g hg => ?_, fun g i hg hi => absurd hi (Nat.not_lt_zero _), ⟨b7, ?_, b8, b9, b10⟩, fun k hk => ?_, fun v hv => ?_⟩
    · rw [(b3 v hv).1]
      exact isM_cong isM_0 (fun i _ => ⟨fun q => q.elim, fun q => by rw [z 0 i (by decide) (by decide)] at q; exact absurd q (n1 v hv)⟩)
    · have : σ2 9 8 = 0 := by assumption
      rw [this]
      exact isM_cong isM_0 (fun i _ => ⟨fun q => q.elim, fun q => by rw [z 1 i (by decide) (by decide)] at q; exact absurd q (by decide)⟩)
    · have : σ2 9 9 = 0 := by assumption
      rw [this]
      exact isM_cong isM_0 (fun i _ => ⟨fun q => q.elim, fun q => by rw [z 3 i (by decide) (by decide)] at q; exact absurd q (by decide)⟩)
    · rw [z 2 b (by decide) (by decide), z 4 b (by decide) (by decide)]; exact b4 b hb
    · rw [(b3 v hv).2.1, z 5 v (by decide) (by decide)]
      exact ⟨rfl, fun q => absurd q (by decide)⟩
    · rw [b2 1 g (by omega), b2 2 g (by omega), b2 3 g (by omega), b2 4 g (by omega), z 10 g (by decide) (by decide), z 11 g (by decide) (by decide)]
      have t : aClean.1 9 g = 7 := by
        show (if 9 = 12 then (if g = 0 then (2 : Int32) else if g = 1 then 1 else 0) else if 9 = 9 ∧ g < 3 then 7 else 0) = 7
        rw [if_neg (by decide), if_pos ⟨rfl, hg⟩]
      rw [t]
      exact a5 g hg
    · rw [b2 0 8 (by omega)]; exact a4
    · rw [b2 6 k (by omega), b2 7 k (by omega), b2 8 k (by omega), a3 6 k (by omega) (by omega) hk, a3 7 k (by omega) (by omega) hk, a3 8 k (by omega) (by omega) hk]
      exact ⟨rfl, rfl, rfl⟩
    · exact Or.inl (b3 v hv).2.2
theorem change_s (h : RA σ A) (hI : Inv T A) {w : Nat} {x : Int32} (hw : w < 5) : ∃ r, fX1_change σ (nI w) x = some r ∧ (r.1 = (if w < 3 then A.1 9 w else if w = 3 then A.1 12 0 else A.1 12 1) ∧ RA r.2 (if w < 3 then aS A 9 w x else if w = 3 then aS A 12 0 x else aS A 12 1 x)) ∧ r.2 9 14 = σ 9 14 := by
  unfold fX1_change
  rw [isGate_s (by omega), Option.bind_some]
  simp (disch := omega) only [bI_0, gl, cl_nI]
  by_cases e : w < 3
  · rw [decide_eq_true e, if_neg (by decide), if_pos e, if_pos e, gd_in e (by decide), gd_in e (by decide)]
    exact ⟨_, rfl, ⟨(h.2.2.2.2.2.1 w e).1, RA_str h w x⟩, st_ne (k := 1) (j := w) (k' := 9) (j' := 14) (σ := σ) (x := x) (Or.inl (by decide))⟩
  · rw [decide_eq_false e, if_pos rfl, if_neg e, if_neg e]
    by_cases e3 : w = 3
    · subst e3
      rw [if_pos (show nI 3 = 3 from rfl), if_pos rfl, if_pos rfl]
      exact ⟨_, rfl, ⟨h.2.2.2.2.2.2.2.1.1, RA_sure h x⟩, st_ne (k := 9) (j := 10) (k' := 9) (j' := 14) (σ := σ) (x := x) (by decide)⟩
    · have : w = 4 := by omega
      subst this
      rw [if_neg (show ¬ nI 4 = 3 by decide), if_neg (by decide), if_neg (by decide)]
      exact ⟨_, rfl, ⟨h.2.2.2.2.2.2.2.1.2.1, RA_calm h x⟩, st_ne (k := 0) (j := 8) (k' := 9) (j' := 14) (σ := σ) (x := x) (by decide)⟩
end LCl
