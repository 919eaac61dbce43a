section RT7
variable {T : Nat}
theorem nodup3_tail {q0 q1 q2 : List Nat} {g b : Nat} {r : List Nat} (hg : g < 3) (h : (q0 ++ (q1 ++ q2)).Nodup) (e0 : g = 0 → q0 = b :: r) (e1 : g = 1 → q1 = b :: r) (e2 : g = 2 → q2 = b :: r) : ((if 0 = g then r else q0) ++ ((if 1 = g then r else q1) ++ (if 2 = g then r else q2))).Nodup := by
  rcases (by omega : g = 0 ∨ g = 1 ∨ g = 2) with rfl | rfl | rfl
  · have := e0 rfl
    subst this
    simp at h ⊢
    exact h.2
  · have := e1 rfl
    subst this
    simp [List.nodup_append] at h ⊢
    grind
  · have := e2 rfl
    subst this
    simp [List.nodup_append] at h ⊢
    grind
theorem Inv_cry {A : AS} (h : Inv T A) {g b : Nat} {r : List Nat} (hg : g < 3) (hqr : A.2.1 g = b :: r) : Inv (T + 1) (aCry A g b r) := by
  have hb : b < 20 := (h.2.2.2.1 g b hg (by rw [hqr]; exact List.mem_cons_self)).1
  obtain ⟨h1, h2, h3, h4, h5, h6, h7⟩ := h
  have s : ∀ k' j', k' ≠ 4 → k' ≠ 10 → k' ≠ 11 → (aCry A g b r).1 k' j' = A.1 k' j' := fun k' j' e e2 e3 => by
    show st2 (st2 (st2 A.1 11 g (A.1 11 g + 1)) 4 b (A.1 4 b + 1)) 10 g (A.1 12 1) k' j' = _
    rw [st_ne (Or.inl e2), st_ne (Or.inl e), st_ne (Or.inl e3)]
  refine ⟨fun b' hb => ?_, fun b' hb => ?_, fun v hv => ?_, fun g' x hg' hx => ?_, ?_, ?_, fun b' hb' => ?_⟩
  · rw [s 0 b' (by decide) (by decide) (by decide)]; exact h1 b' hb
  · rw [s 1 b' (by decide) (by decide) (by decide), s 3 b' (by decide) (by decide) (by decide)]; exact h2 b' hb
  · rw [s 5 v (by decide) (by decide) (by decide), s 6 v (by decide) (by decide) (by decide), s 8 v (by decide) (by decide) (by decide)]; exact h3 v hv
  · rw [s 3 x (by decide) (by decide) (by decide)]
    have hx' : x ∈ (if g' = g then r else A.2.1 g') := hx
    by_cases e : g' = g
    · rw [if_pos e] at hx'
      exact h4 g x hg (by rw [hqr]; exact List.mem_cons_of_mem _ hx')
    · rw [if_neg e] at hx'
      exact h4 g' x hg' hx'
  · exact nodup3_tail hg h5 (fun e => by subst e; exact hqr) (fun e => by subst e; exact hqr) (fun e => by subst e; exact hqr)
  · show (List.take 9 A.2.2).length + 1 ≤ 10
    rw [List.length_take]; omega
  · obtain ⟨c, hc, e⟩ := h7 b' hb'
    have s4 : (aCry A g b r).1 4 b' = if b' = b then A.1 4 b + 1 else A.1 4 b' := by
      show st2 (st2 (st2 A.1 11 g (A.1 11 g + 1)) 4 b (A.1 4 b + 1)) 10 g (A.1 12 1) 4 b' = _
      rw [st_ne (Or.inl (by decide))]
      by_cases q : b' = b
      · rw [st_eq rfl q, if_pos q]
      · rw [st_ne (Or.inr q), st_ne (Or.inl (by decide)), if_neg q]
    rw [s4]
    by_cases q : b' = b
    · subst q
      rw [if_pos rfl, e]
      exact ⟨c + 1, by omega, by rw [nI_1]⟩
    · rw [if_neg q]; exact ⟨c, by omega, e⟩
theorem nI_le0 {n : Nat} (h : n < 2147483648) : nI n ≤ (0 : Int32) ↔ n = 0 := by
  rw [show (0 : Int32) = nI 0 from rfl, le_nI h (by decide)]; omega
theorem Inv_speak {A : AS} (h : Inv T A) {g : Nat} (hg : g < 3) : Inv (T + 1) (aSpeak A g) := by
  unfold aSpeak
  by_cases e : A.1 10 g ≤ 0
  · rw [if_pos e]
    cases hq : A.2.1 g with
    | nil => exact Inv_mono h (by omega)
    | cons b r => exact Inv_cry h hg hq
  · rw [if_neg e]
    exact Inv_mono (Inv_aS h (by omega)) (by omega)
theorem speakL : ∀ (m g f : Nat) (row : Nat → Int32) (A : AS) (T : Nat), g + m = 3 → m < f → RB row A → Inv T A → ∃ row', fX4_tick_L83 f row (nI g) = some row' ∧ (RB row' (fr aSpeak m g A) ∧ Inv (T + m) (fr aSpeak m g A)) := by
  intro m
  induction m with
  | zero =>
    intro g f row A T hg hf h hI
    obtain ⟨f, rfl⟩ : ∃ z, f = z + 1 := ⟨f - 1, by omega⟩
    simp only [fX4_tick_L83]
    rw [if_pos ((lel_3 (by omega)).mpr (by omega))]
    exact ⟨row, rfl, h, hI⟩
  | succ m ih =>
    intro g f row A T hgm hf h hI
    obtain ⟨f, rfl⟩ : ∃ z, f = z + 1 := ⟨f - 1, by omega⟩
    have hg : g < 3 := by omega
    have go : ∀ row' A', aSpeak A g = A' → RB row' A' → ∃ row'', fX4_tick_L83 f row' (nI g + 1) = some row'' ∧ (RB row'' (fr aSpeak (m + 1) g A) ∧ Inv (T + (m + 1)) (fr aSpeak (m + 1) g A)) := by
      intro row' A' e h'
      rw [fr_succ, e, nI_1, show T + (m + 1) = (T + 1) + m by omega]
      exact ih (g + 1) f row' A' (T + 1) (by omega) (by omega) h' (e ▸ Inv_speak hI hg)
    have e1 := (h.2.2.1 g hg).2.1
    have e2 := (h.2.2.1 g hg).2.2.1
    simp only [fX4_tick_L83]
    rw [if_neg (fun q => absurd ((lel_3 (by omega)).mp q) (by omega))]
    refine bd_ex (gateAt_1 g) (gd_ex rfl (by omega) (by decide) ?_)
    show ∃ r, (if row (nI (124 + 4 * g + 1)).toNatClampNeg ≤ 0 then _ else _) = some r ∧ _
    rw [cl_nI (by omega), e1]
    by_cases c : A.1 10 g ≤ 0
    · rw [if_pos c]
      refine bd_ex (gateAt_2 g) (gd_ex rfl (by omega) (by decide) ?_)
      show ∃ r, (if row (nI (124 + 4 * g + 2)).toNatClampNeg ≤ 0 then _ else _) = some r ∧ _
      have := hI.qlen hg
      rw [cl_nI (by omega), e2]
      by_cases d : (A.2.1 g).length = 0
      · rw [if_pos ((nI_le0 (by omega)).mpr d)]
        refine go row A ?_ h
        unfold aSpeak
        rw [if_pos c, List.length_eq_zero_iff.mp d]
      · rw [if_neg (fun q => d ((nI_le0 (by omega)).mp q))]
        obtain ⟨b, r, hq⟩ : ∃ b r, A.2.1 g = b :: r := by
          cases hq : A.2.1 g with
          | nil => rw [hq] at d; exact absurd rfl d
          | cons b r => exact ⟨b, r, rfl⟩
        obtain ⟨row', k1, k2⟩ := cry_spec h hI hg hq
        refine bd_ex k1 (go row' _ ?_ k2)
        unfold aSpeak
        rw [if_pos c, hq]
    · rw [if_neg c]
      refine bd_ex (gateAt_1 g) (gd_ex rfl (by omega) (by decide) (gl_ex fun t5 h5 => gd_ex rfl (by omega) (by decide) (gl_ex fun u6 h6 => ?_)))
      rw [cl_nI (by omega), e1] at h5
      rw [cl_nI (by omega), h5] at h6
      rw [h6]
      refine go _ (aS A 10 g (A.1 10 g - 1)) ?_ (RB_gt h (qlen_of hI) hI.ql (k := 1) (by omega) hg _)
      unfold aSpeak
      rw [if_neg c]
theorem tick_spec {row : Nat → Int32} {A : AS} (h : RB row A) (hI : Inv T A) : ∃ row', fX4_tick row = some row' ∧ (RB row' (aTick A) ∧ Inv (T + 3) (aTick A)) := by
  unfold fX4_tick
  refine gl_ex fun t11 h11 => gl_ex fun u12 h12 => ?_
  rw [cl_198, h.2.2.2.2.1.2.2.1] at h11
  rw [cl_198, h11] at h12
  have h0 := RB_gl h (qlen_of hI) hI.ql (i := 198) (j := 2) (by omega) (A.1 12 2 + 1)
  have i0 : Inv T (aS A 12 2 (A.1 12 2 + 1)) := Inv_aS hI (by omega)
  obtain ⟨row1, k1, r1, i1⟩ := moveL 6 0 gFuel _ _ (by omega) (by decide) h0 i0
  obtain ⟨row2, k2, r2, i2⟩ := readGL 3 0 gFuel _ _ (by omega) (by decide) r1 i1
  obtain ⟨row3, k3, r3, i3⟩ := speakL 3 0 gFuel _ _ T (by omega) (by decide) r2 i2
  rw [h12]
  have z : (0 : Int32) = nI 0 := rfl
  rw [z] at k1 k2 ⊢
  rw [k1, k2]
  exact ⟨row3, k3, r3, i3⟩
end RT7
