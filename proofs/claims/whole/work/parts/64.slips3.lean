section SN
variable {T T' : Nat} {A B : AS}
def aNoSl (A : AS) : AS := ((fun k i => if k = 13 then 0 else A.1 k i), A.2)
theorem noSl_1 (A : AS) {k i : Nat} (h : k ≠ 13) : (aNoSl A).1 k i = A.1 k i := if_neg h
theorem noSl_13 (A : AS) (i : Nat) : (aNoSl A).1 13 i = 0 := by
  show (if 13 = 13 then (0 : Int32) else A.1 13 i) = 0
  rw [if_pos rfl]
theorem RB_noSl {row : Nat → Int32} (h : RB row A) : RB row (aNoSl A) := by
  obtain ⟨h1, h2, h3, h4, h5, h6, h7, h8⟩ := h
  refine ⟨fun k b' hk hb => ?_, fun k v hk hv => ?_, fun g hg => ?_, h4, ?_, ?_, h7, h8⟩
  · rw [noSl_1 A (by omega)]; exact h1 k b' hk hb
  · rw [noSl_1 A (by omega)]; exact h2 k v hk hv
  · rw [noSl_1 A (by decide), noSl_1 A (by decide), noSl_1 A (by decide)]; exact h3 g hg
  · rw [noSl_1 A (by decide), noSl_1 A (by decide), noSl_1 A (by decide), noSl_1 A (by decide), noSl_1 A (by decide)]; exact h5
  · rw [noSl_1 A (by decide), noSl_1 A (by decide), noSl_1 A (by decide)]; exact h6
theorem RA_noSl {σ : gS} (h : RA σ A) : RA σ (aNoSl A) := by
  obtain ⟨h1, h2, h3, h4, h5, h6, h7, h8, h9⟩ := h
  refine ⟨fun v hv => ?_, ?_, ?_, fun b hb => ?_, fun v hv => ?_, fun g hg => ?_, h7, ?_, h9⟩
  · simp (disch := decide) only [noSl_1]; exact h1 v hv
  · simp (disch := decide) only [noSl_1]; exact h2
  · simp (disch := decide) only [noSl_1]; exact h3
  · simp (disch := decide) only [noSl_1]; exact h4 b hb
  · simp (disch := decide) only [noSl_1]; exact h5 v hv
  · simp (disch := decide) only [noSl_1]; exact h6 g hg
  · simp (disch := decide) only [noSl_1]; exact h8
theorem Inv_noSl (h : Inv T A) : Inv T (aNoSl A) := by
  obtain ⟨h1, h2, h3, h4, h5, h6, h7⟩ := h
  refine ⟨fun b hb => ?_, fun b hb => ?_, fun v hv => ?_, fun g x hg hx => ?_, h5, h6, fun b hb => ?_⟩
  · rw [noSl_1 A (by decide)]; exact h1 b hb
  · rw [noSl_1 A (by decide), noSl_1 A (by decide)]; exact h2 b hb
  · rw [noSl_1 A (by decide), noSl_1 A (by decide), noSl_1 A (by decide)]; exact h3 v hv
  · rw [noSl_1 A (by decide)]; exact h4 g x hg hx
  · rw [noSl_1 A (by decide)]; exact h7 b hb
theorem InvP_noSl (h : InvP A) : InvP (aNoSl A) := fun v hv hw => by
  rw [noSl_1 A (by decide)] at hw
  rw [noSl_1 A (by decide)]
  exact h v hv hw
theorem slipsOf_s {σ : gS} (h : RA σ A) (hI : Inv T A) (hP : InvP A) : ∃ r, fX1_slipsOfCrossings σ = some r ∧ isM r.1 (fun b => (aTicks 7 (aNoSl A)).1 13 b = 1) := by
  have h0 := RA_14 (RA_noSl h) 0
  have hs : RS (st2 σ 9 14 0) (aNoSl A) := by
    unfold RS
    rw [st_eq rfl rfl]
    exact isM_cong isM_0 (fun i _ => ⟨fun q => q.elim, fun q => by
      rw [noSl_13] at q; exact absurd q (by decide)⟩)
  obtain ⟨r, k1, -, -, k4⟩ := passTicks_s h0 (Inv_noSl hI) (InvP_noSl hP) (n := 7) (by decide)
  unfold fX1_slipsOfCrossings
  refine gl_ex fun u1 h1 => ?_
  rw [h1]
  exact bd_ex k1 ⟨_, rfl, k4 hs⟩
def aSlipB (A B : AS) (b : Nat) : Prop := ∃ v, v < 6 ∧ A.1 0 b = nI (v + 1) ∧ A.1 5 v = 1 ∧ B.1 5 v = 2 ∧ A.1 1 b = 0 ∧ B.1 3 b ≠ 1
theorem or0 (w : Int32) : w ||| 0 = w := b_ext (fun i _ => by rw [b_or, b_0, Bool.or_false])
theorem slipL {σ : gS} (h3 : RB (σ 3) A) (h4 : RB (σ 4) B) (hI : Inv T A) (hJ : Inv T' B) : ∀ (m b f : Nat) (w : Int32), b + m = 20 → m < f → isM w (fun i => i < b ∧ aSlipB A B i) → ∃ r, fX4_slipSet_L25 f σ w (nI b) = some r ∧ (r.2 = σ ∧ isM r.1 (aSlipB A B)) := by
  intro m
  induction m with
  | zero =>
    intro b f w hb hf hw
    obtain ⟨f, rfl⟩ : ∃ z, f = z + 1 := ⟨f - 1, by omega⟩
    have : b = 20 := by omega
    subst this
    exact ⟨(w, σ), rfl, rfl, isM_cong hw (fun i hi => ⟨fun q => q.2, fun q => ⟨hi, q⟩⟩)⟩
  | succ m ih =>
    intro b f w hbm hf hw
    obtain ⟨f, rfl⟩ : ∃ z, f = z + 1 := ⟨f - 1, by omega⟩
    have hb : b < 20 := by omega
    have no : ¬ aSlipB A B b → ∃ r, fX4_slipSet_L25 f σ (w ||| 0) (nI b + 1) = some r ∧ (r.2 = σ ∧ isM r.1 (aSlipB A B)) := fun q => by
      rw [or0, nI_1]
      refine ih (b + 1) f w (by omega) (by omega) (isM_cong hw (fun i hi => ?_))
      constructor
      · rintro ⟨x, y⟩; exact ⟨by omega, y⟩
      · rintro ⟨x, y⟩
        refine ⟨?_, y⟩
        by_cases e : i = b
        · subst e; exact absurd y q
        · omega
    have yes : aSlipB A B b → ∃ r, fX4_slipSet_L25 f σ (w ||| ((1 : Int32) <<< (nI b &&& 31))) (nI b + 1) = some r ∧ (r.2 = σ ∧ isM r.1 (aSlipB A B)) := fun q => by
      rw [nI_1]
      refine ih (b + 1) f _ (by omega) (by omega) (isM_cong (isM_or hw (isM_bit hb)) (fun i hi => ?_))
      constructor
      · rintro (⟨x, y⟩ | y)
        · exact ⟨by omega, y⟩
        · subst y; exact ⟨by omega, q⟩
      · rintro ⟨x, y⟩
        by_cases e : i = b
        · exact Or.inr e
        · exact Or.inl ⟨by omega, y⟩
    simp only [fX4_slipSet_L25]
    rw [if_neg (fun q => absurd ((lel_20 (by omega)).mp q) (by omega))]
    refine bd_ex (bookAt_0 b) (gd_ex rfl (by omega) (by decide) (gl_ex fun t8 h8 => ?_))
    rw [cl_nI (by omega), h3.bk (by omega) hb] at h8
    have l78no : ¬ aSlipB A B b → ∃ r, fX4_slipSet_L78 (fX4_slipSet_L25 f) σ w (nI b) 0 = some r ∧ (r.2 = σ ∧ isM r.1 (aSlipB A B)) := fun q => by
      unfold fX4_slipSet_L78
      rw [if_pos rfl]
      exact no q
    rcases hold_cases hI hb with ⟨e, e2⟩ | ⟨v, hv, e, e1, e2, e3, -⟩
    · have t : t8 < 0 := by rw [h8, e]; decide
      rw [if_pos t]
      exact l78no (fun ⟨v, a, b1, _⟩ => by
        have := of_decide_eq_false (e2 v a)
        exact this b1)
    · have uniq : ∀ v', v' < 6 → A.1 0 b = nI (v' + 1) → v' = v := fun v' hv' z => by
        rw [e, nI_inj (by omega) (by omega)] at z; omega
      rw [e1] at h8
      rw [h8, if_neg (neg_nI (by omega)), isAtGate_spec h3 hv, Option.bind_some]
      simp only [gl, sf_self, bI_0]
      by_cases c : A.1 5 v = 1
      · rw [decide_eq_true c, if_neg (by decide)]
        refine bd_ex (visitorAt_0 v) (gd_ex rfl (by omega) (by decide) ?_)
        show ∃ r, (if σ 4 (nI (100 + 4 * v + 0)).toNatClampNeg = 2 then _ else _) = some r ∧ _
        rw [cl_nI (by omega), h4.vs (k := 0) (by omega) hv]
        by_cases d : B.1 5 v = 2
        · rw [if_pos (show B.1 (5 + 0) v = 2 from d)]
          unfold fX4_slipSet_L78
          rw [if_neg (by decide)]
          refine bd_ex (bookAt_1 b) (gd_ex rfl (by omega) (by decide) ?_)
          show ∃ r, (if σ 3 (nI (5 * b + 1)).toNatClampNeg = 0 then _ else _) = some r ∧ _
          rw [cl_nI (by omega), h3.bk (by omega) hb]
          by_cases g1 : A.1 1 b = 0
          · rw [if_pos g1]
            have tw : fX4_toldWhenOut σ (nI b) = some (B.1 3 b, σ) := by
              unfold fX4_toldWhenOut
              simp (disch := omega) only [bookAt_3, Option.bind_some, gd_in, cl_nI]
              rw [h4.bk (by omega) hb]
            refine bd_ex tw ?_
            rcases (hJ.2.1 b hb).2 with z | z
            · rw [if_pos z]
              exact yes ⟨v, hv, e, c, d, g1, by rw [z]; decide⟩
            · rw [if_neg (show ¬ (B.1 3 b, σ).1 = 0 by show ¬ B.1 3 b = 0; rw [z]; decide)]
              exact no (fun ⟨_, _, _, _, _, _, q⟩ => q z)
          · rw [if_neg g1]
            exact no (fun ⟨_, _, _, _, _, q, _⟩ => g1 q)
        · rw [if_neg (show ¬ B.1 (5 + 0) v = 2 from d)]
          exact l78no (fun ⟨v', a, b1, _, q, _⟩ => by rw [uniq v' a b1] at q; exact d q)
      · rw [decide_eq_false c, if_pos rfl]
        exact l78no (fun ⟨v', a, b1, q, _⟩ => by rw [uniq v' a b1] at q; exact c q)
theorem slip4L : ∀ (m i f : Nat) (σ : gS) (A : AS) (T : Nat), i + m = 8 → m < f → RB (σ 4) A → Inv T A → ∃ σ', fX4_slipSet_L4 f σ 0 (nI i) = fX4_slipSet_L25 gFuel σ' 0 0 ∧ (∀ k, k ≠ 4 → σ' k = σ k) ∧ RB (σ' 4) (aTicks m A) ∧ Inv (T + 3 * m) (aTicks m A) := by
  intro m
  induction m with
  | zero =>
    intro i f σ A T hi hf h hI
    obtain ⟨f, rfl⟩ : ∃ z, f = z + 1 := ⟨f - 1, by omega⟩
    simp only [fX4_slipSet_L4]
    have : i = 8 := by omega
    subst this
    rw [if_pos (by decide)]
    exact ⟨σ, rfl, fun _ _ => rfl, h, hI⟩
  | succ m ih =>
    intro i f σ A T hi hf h hI
    obtain ⟨f, rfl⟩ : ∃ z, f = z + 1 := ⟨f - 1, by omega⟩
    simp only [fX4_slipSet_L4]
    rw [if_neg (fun q => by have := (lt_nI (a := 7) (b := i) (by omega) (by omega)).mp q; omega)]
    obtain ⟨row', k1, k2, k3⟩ := tick_spec h hI
    rw [k1, Option.bind_some, nI_1]
    simp only [gl]
    obtain ⟨σ', j1, j2, j3, j4⟩ := ih (i + 1) f (stf σ 4 row') (aTick A) (T + 3) (by omega) (by omega) (by rw [sf_eq]; exact k2) k3
    refine ⟨σ', j1, fun k hk => ?_, j3, by rw [show T + 3 * (m + 1) = T + 3 + 3 * m by omega]; exact j4⟩
    rw [j2 k hk, sf_ne hk]
theorem slipSet_s {σ : gS} (h3 : RB (σ 3) A) (h4 : RB (σ 4) B) (hI : Inv T A) (hJ : Inv T' B) : ∃ r, fX4_slipSet σ = some r ∧ (isM r.1 (aSlipB A (aTicks 8 B)) ∧ ∀ k, k ≠ 4 → r.2 k = σ k) := by
  obtain ⟨σ', k1, k2, k3, k4⟩ := slip4L 8 0 gFuel σ B T' rfl (by decide) h4 hJ
  obtain ⟨⟨w, σ2⟩, j1, j0, j2⟩ := slipL (σ := σ') (by rw [k2 3 (by decide)]; exact h3) k3 hI k4 20 0 gFuel 0 rfl (by decide) (isM_cong isM_0 (fun i _ => ⟨fun q => q.elim, fun q => absurd q.1 (Nat.not_lt_zero _)⟩))
  have j0' : σ2 = σ' := j0
  subst j0'
  refine ⟨(w, σ2), ?_, j2, k2⟩
  unfold fX4_slipSet
  have k1' : fX4_slipSet_L4 gFuel σ 0 0 = fX4_slipSet_L25 gFuel σ2 0 0 := k1
  rw [k1']
  exact j1
/-- class and reference find the same books -/
theorem slips_same (hI : Inv T A) (hP : InvP A) {w u : Int32} (hw : isM w (fun b => (aTicks 7 (aNoSl A)).1 13 b = 1)) (hu : isM u (aSlipB A (aTicks 8 (aNoSl A)))) : w = u := by
  refine isM_inj hw (isM_cong hu (fun b hb => ?_))
  have h := slips_set (InvP_noSl hP) (Inv_noSl hI) (noSl_13 A) hb
  rw [h]
  unfold aSlipB
  simp (disch := decide) only [noSl_1]
end SN
