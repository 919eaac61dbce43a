section LR
variable {T : Nat} {σ : gS} {A : AS}
theorem isVisitor_s {n : Nat} (h : n < 2147483648) : fX3_isVisitor (nI n) = some (bI (decide (n < 6)), ()) := by
  unfold fX3_isVisitor
  rw [if_neg (neg_nI h)]
  by_cases e : n < 6
  · rw [if_neg (fun q => absurd ((lel_6 h).mp q) (by omega)), decide_eq_true e]; rfl
  · rw [if_pos ((lel_6 h).mpr (by omega)), decide_eq_false e]; rfl
theorem isBook_s {n : Nat} (h : n < 2147483648) : fX3_isBook (nI n) = some (bI (decide (n < 20)), ()) := by
  unfold fX3_isBook
  rw [if_neg (neg_nI h)]
  by_cases e : n < 20
  · rw [if_neg (fun q => absurd ((lel_20 h).mp q) (by omega)), decide_eq_true e]; rfl
  · rw [if_pos ((lel_20 h).mpr (by omega)), decide_eq_false e]; rfl
theorem isGate_s {n : Nat} (h : n < 2147483648) : fX3_isGate (nI n) = some (bI (decide (n < 3)), ()) := by
  unfold fX3_isGate
  rw [if_neg (neg_nI h)]
  by_cases e : n < 3
  · rw [if_neg (fun q => absurd ((lel_3 h).mp q) (by omega)), decide_eq_true e]; rfl
  · rw [if_pos ((lel_3 h).mpr (by omega)), decide_eq_false e]; rfl
theorem RA.bag (h : RA σ A) {v : Nat} (hv : v < 6) : isM (σ 10 v) (fun b => A.1 0 b = nI (v + 1)) := h.1 v hv
theorem RA.bagC (h : RA σ A) {v : Nat} (hv : v < 6) : fJ6_bitCount_0f7a4 (σ 10 v) = some (nI (bagN A v), ()) := isM_count (h.1 v hv)
theorem RA.wh (h : RA σ A) {v : Nat} (hv : v < 6) : σ 11 v = A.1 5 v := (h.2.2.2.2.1 v hv).1
def aHold (A : AS) (b : Nat) : Int32 := if A.1 0 b = 0 then -9 else A.1 0 b - 1
theorem holderL (h : RA σ A) (hI : Inv T A) {b : Nat} (hb : b < 20) : ∀ (m v f : Nat), v + m = 6 → m < f → (∀ v', v' < v → A.1 0 b ≠ nI (v' + 1)) → fX1_holderOf_L2 f σ (nI b) (nI v) = some (aHold A b, σ) := by
  intro m
  induction m with
  | zero =>
    intro v f hv hf hn
    obtain ⟨f, rfl⟩ : ∃ z, f = z + 1 := ⟨f - 1, by omega⟩
    simp only [fX1_holderOf_L2]
    rw [if_pos ((lel_6 (by omega)).mpr (by omega))]
    rcases hold_cases hI hb with ⟨e, -⟩ | ⟨v', hv', e, -⟩
    · unfold aHold; rw [if_pos e]
    · exact absurd e (hn v' (by omega))
  | succ m ih =>
    intro v f hv hf hn
    obtain ⟨f, rfl⟩ : ∃ z, f = z + 1 := ⟨f - 1, by omega⟩
    simp only [fX1_holderOf_L2]
    rw [if_neg (fun q => absurd ((lel_6 (by omega)).mp q) (by omega)), gd_in (by omega) (by decide), cl_nI (by omega), isM_has (h.bag (by omega)) hb]
    simp only [Option.bind_some, bI_0]
    by_cases e : A.1 0 b = nI (v + 1)
    · rw [decide_eq_true e, if_neg (by decide)]
      unfold aHold
      rw [if_neg (fun q => by rw [e, show (0 : Int32) = nI 0 from rfl, nI_inj (by omega) (by omega)] at q; omega), e, nI_pred]
    · rw [decide_eq_false e, if_pos rfl, nI_1]
      refine ih (v + 1) f (by omega) (by omega) (fun v' hv' => ?_)
      by_cases q : v' = v
      · rw [q]; exact e
      · exact hn v' (by omega)
theorem holderOf_s (h : RA σ A) (hI : Inv T A) {b : Nat} (hb : b < 20) : fX1_holderOf σ (nI b) = some (aHold A b, σ) := holderL h hI hb 6 0 gFuel rfl (by decide) (fun _ q => absurd q (Nat.not_lt_zero _))
theorem aHold_m9 (hI : Inv T A) {b : Nat} (hb : b < 20) : aHold A b = -9 ↔ A.1 0 b = 0 := by
  unfold aHold
  rcases hold_cases hI hb with ⟨e, -⟩ | ⟨v, hv, e, e2, e3, e4, -⟩
  · rw [if_pos e]; exact ⟨fun _ => e, fun _ => rfl⟩
  · rw [if_neg e4, e2]
    constructor
    · intro q
      exact absurd q ((by decide +kernel : ∀ v, v < 6 → nI v ≠ -9) v hv)
    · intro q; exact absurd q e4
theorem bagsL (h : RA σ A) : ∀ (m v f : Nat) (w : Int32), v + m = 6 → m < f → isM w (fun b => ∃ v', v' < v ∧ A.1 0 b = nI (v' + 1)) → ∃ w', fX1_booksInBags_L4 f σ w (nI v) = some (w', σ) ∧ isM w' (fun b => ∃ v', v' < 6 ∧ A.1 0 b = nI (v' + 1)) := by
  intro m
  induction m with
  | zero =>
    intro v f w hv hf hw
    obtain ⟨f, rfl⟩ : ∃ z, f = z + 1 := ⟨f - 1, by omega⟩
    have : v = 6 := by omega
    subst this
    exact ⟨w, rfl, hw⟩
  | succ m ih =>
    intro v f w hv hf hw
    obtain ⟨f, rfl⟩ : ∃ z, f = z + 1 := ⟨f - 1, by omega⟩
    simp only [fX1_booksInBags_L4]
    rw [if_neg (fun q => absurd ((lel_6 (by omega)).mp q) (by omega)), gd_in (by omega) (by decide), cl_nI (by omega), nI_1]
    refine ih (v + 1) f _ (by omega) (by omega) (isM_cong (isM_or hw (h.bag (v := v) (by omega))) (fun i hi => ?_))
    constructor
    · rintro (⟨v', a, b⟩ | b)
      · exact ⟨v', by omega, b⟩
      · exact ⟨v, by omega, b⟩
    · rintro ⟨v', a, b⟩
      by_cases e : v' = v
      · subst e; exact Or.inr b
      · exact Or.inl ⟨v', by omega, b⟩
theorem booksInBags_s (h : RA σ A) (hI : Inv T A) : ∃ w, fX1_booksInBags σ = some (w, σ) ∧ isM w (fun b => ¬ A.1 0 b = 0) := by
  obtain ⟨w, k1, k2⟩ := bagsL h 6 0 gFuel 0 rfl (by decide) (isM_cong isM_0 (fun i _ => ⟨fun q => q.elim, fun ⟨_, q, _⟩ => absurd q (Nat.not_lt_zero _)⟩))
  refine ⟨w, k1, isM_cong k2 (fun b hb => ?_)⟩
  rcases hold_cases hI hb with ⟨e, e2⟩ | ⟨v, hv, e, e2, e3, e4, -⟩
  · constructor
    · rintro ⟨v', a, b⟩
      have := of_decide_eq_false (e2 v' a)
      exact absurd b this
    · intro q; exact absurd e q
  · exact ⟨fun _ => e4, fun _ => ⟨v, hv, e⟩⟩
theorem whoL (h : RA σ A) (x : Int32) : ∀ (m v f : Nat), v + m = 6 → m < f → fX1_visitorsWho_L4 f σ x (nI (fb_ct (fun v => decide (A.1 5 v = x)) v)) (nI v) = some (nI (fb_ct (fun v => decide (A.1 5 v = x)) 6), σ) := by
  intro m
  induction m with
  | zero =>
    intro v f hv hf
    obtain ⟨f, rfl⟩ : ∃ z, f = z + 1 := ⟨f - 1, by omega⟩
    have : v = 6 := by omega
    subst this
    rfl
  | succ m ih =>
    intro v f hv hf
    obtain ⟨f, rfl⟩ : ∃ z, f = z + 1 := ⟨f - 1, by omega⟩
    have hn := ih (v + 1) f (by omega) (by omega)
    rw [fb_ct_succ] at hn
    simp only [fX1_visitorsWho_L4]
    rw [if_neg (fun q => absurd ((lel_6 (by omega)).mp q) (by omega)), gd_in (by omega) (by decide), cl_nI (by omega), nI_1, h.wh (by omega)]
    by_cases e : A.1 5 v = x
    · rw [decide_eq_true e] at hn
      rw [if_pos e]
      show fX1_visitorsWho_L4 f σ x (nI _ + 1) _ = _
      rw [nI_1]; exact hn
    · rw [decide_eq_false e] at hn
      rw [if_neg e]
      show fX1_visitorsWho_L4 f σ x (nI _ + 0) _ = _
      rw [nI_p0]; exact hn
theorem visitorsWho_s (h : RA σ A) (x : Int32) : fX1_visitorsWho σ x = some (nI (fb_ct (fun v => decide (A.1 5 v = x)) 6), σ) := whoL h x 6 0 gFuel rfl (by decide)
theorem atL (h : RA σ A) (x : Int32) : ∀ (m v f : Nat), v + m = 6 → m < f → fX1_visitorsAt_L4 f σ x (nI (fb_ct (aAt A x) v)) (nI v) = some (nI (aAtN A x), σ) := by
  intro m
  induction m with
  | zero =>
    intro v f hv hf
    obtain ⟨f, rfl⟩ : ∃ z, f = z + 1 := ⟨f - 1, by omega⟩
    have : v = 6 := by omega
    subst this
    rfl
  | succ m ih =>
    intro v f hv hf
    obtain ⟨f, rfl⟩ : ∃ z, f = z + 1 := ⟨f - 1, by omega⟩
    have hn := ih (v + 1) f (by omega) (by omega)
    rw [fb_ct_succ] at hn
    have hno : aAt A x v = false → fX1_visitorsAt_L35 (fX1_visitorsAt_L4 f) σ x (nI v) (nI (fb_ct (aAt A x) v)) = some (nI (aAtN A x), σ) := fun e => by
      show fX1_visitorsAt_L4 f σ x (nI _ + 0) (nI v + 1) = _
      rw [e] at hn
      rw [nI_p0, nI_1]; exact hn
    simp only [fX1_visitorsAt_L4]
    rw [if_neg (fun q => absurd ((lel_6 (by omega)).mp q) (by omega)), gd_in (by omega) (by decide)]
    simp (disch := omega) only [cl_nI]
    rw [h.wh (by omega)]
    by_cases e : A.1 5 v = 1
    · rw [if_pos e, gd_in (by omega) (by decide), ((h.2.2.2.2.1 v (by omega)).2 e).1]
      by_cases e2 : A.1 6 v = x
      · have : aAt A x v = true := by unfold aAt; rw [decide_eq_true e, decide_eq_true e2]; rfl
        rw [this] at hn
        rw [if_pos e2]
        show fX1_visitorsAt_L4 f σ x (nI _ + 1) (nI v + 1) = _
        rw [nI_1, nI_1]; exact hn
      · rw [if_neg e2]
        exact hno (by unfold aAt; rw [decide_eq_false e2, Bool.and_false])
    · rw [if_neg e]
      exact hno (by unfold aAt; rw [decide_eq_false e]; rfl)
theorem visitorsAt_s (h : RA σ A) (x : Int32) : fX1_visitorsAt σ x = some (nI (aAtN A x), σ) := atL h x 6 0 gFuel rfl (by decide)
theorem bookInL (h : RA σ A) (hI : Inv T A) {b : Nat} (hb : b < 20) : ∀ (m v f : Nat), v + m = 6 → m < f → (∀ v', v' < v → A.1 0 b ≠ nI (v' + 1)) → fX1_isBookInside_L2 f σ (nI b) (nI v) = some (bI (aBookIn A b), σ) := by
  intro m
  induction m with
  | zero =>
    intro v f hv hf hn
    obtain ⟨f, rfl⟩ : ∃ z, f = z + 1 := ⟨f - 1, by omega⟩
    simp only [fX1_isBookInside_L2]
    rw [if_pos ((lel_6 (by omega)).mpr (by omega))]
    rcases hold_cases hI hb with ⟨e, -⟩ | ⟨v', hv', e, -⟩
    · unfold aBookIn; rw [decide_eq_true e]; rfl
    · exact absurd e (hn v' (by omega))
  | succ m ih =>
    intro v f hv hf hn
    obtain ⟨f, rfl⟩ : ∃ z, f = z + 1 := ⟨f - 1, by omega⟩
    simp only [fX1_isBookInside_L2]
    rw [if_neg (fun q => absurd ((lel_6 (by omega)).mp q) (by omega)), gd_in (by omega) (by decide)]
    simp (disch := omega) only [cl_nI]
    rw [isM_has (h.bag (by omega)) hb]
    simp only [Option.bind_some, bI_0]
    by_cases e : A.1 0 b = nI (v + 1)
    · rw [decide_eq_true e, if_neg (by decide), gd_in (by omega) (by decide), h.wh (by omega)]
      have hn0 : ¬ A.1 0 b = 0 := fun q => by rw [e, show (0 : Int32) = nI 0 from rfl, nI_inj (by omega) (by omega)] at q; omega
      have hh : aHolder A b = v := by unfold aHolder; rw [e, nI_pred, cl_nI (by omega)]
      unfold aBookIn
      rw [decide_eq_false hn0, hh]
      by_cases e2 : A.1 5 v = 0
      · rw [if_pos e2, decide_eq_true e2]; rfl
      · rw [if_neg e2, decide_eq_false e2]; rfl
    · rw [decide_eq_false e, if_pos rfl, nI_1]
      refine ih (v + 1) f (by omega) (by omega) (fun v' hv' => ?_)
      by_cases q : v' = v
      · rw [q]; exact e
      · exact hn v' (by omega)
theorem bookInside_s (h : RA σ A) (hI : Inv T A) {b : Nat} (hb : b < 20) : fX1_isBookInside σ (nI b) = some (bI (aBookIn A b), σ) := bookInL h hI hb 6 0 gFuel rfl (by decide) (fun _ q => absurd q (Nat.not_lt_zero _))
theorem canTake_s (h : RA σ A) (hI : Inv T A) {v b : Nat} (hv : v < 2147483648) (hb : b < 2147483648) : fX1_canTake σ (nI v) (nI b) = some (bI (decide (v < 6 ∧ b < 20) && aCanTake A v b), σ) := by
  unfold fX1_canTake
  rw [isVisitor_s hv]
  simp only [Option.bind_some, bI_0]
  by_cases e1 : v < 6
  · rw [decide_eq_true e1, if_neg (by decide), isBook_s hb]
    simp only [Option.bind_some, bI_0]
    by_cases e2 : b < 20
    · rw [decide_eq_true e2, if_neg (by decide), holderOf_s h hI e2, decide_eq_true (⟨e1, e2⟩ : v < 6 ∧ b < 20), Bool.true_and]
      simp only [Option.bind_some]
      unfold aCanTake
      by_cases e3 : A.1 0 b = 0
      · rw [if_pos ((aHold_m9 hI e2).mpr e3), gd_in e1 (by decide)]
        simp (disch := omega) only [cl_nI]
        rw [h.wh e1, decide_eq_true e3]
        by_cases e4 : A.1 5 v = 0
        · rw [if_pos e4, gd_in e1 (by decide), h.bagC e1, decide_eq_true e4]
          simp only [Option.bind_some]
          have hle : bagN A v ≤ 20 := fb_ct_le _ 20
          by_cases e5 : bagN A v < 6
          · rw [if_neg (fun q => absurd ((lel_6 (by omega)).mp q) (by omega)), decide_eq_true e5]; rfl
          · rw [if_pos ((lel_6 (by omega)).mpr (by omega)), decide_eq_false e5]; rfl
        · rw [if_neg e4, decide_eq_false e4]; rfl
      · rw [if_neg (fun q => e3 ((aHold_m9 hI e2).mp q)), decide_eq_false e3]; rfl
    · rw [decide_eq_false e2, if_pos rfl, decide_eq_false (fun q : v < 6 ∧ b < 20 => e2 q.2)]; rfl
  · rw [decide_eq_false e1, if_pos rfl, decide_eq_false (fun q : v < 6 ∧ b < 20 => e1 q.1)]; rfl
theorem canPut_s (h : RA σ A) (hI : Inv T A) {b : Nat} (hb : b < 2147483648) : fX1_canPutBack σ (nI b) = some (bI (decide (b < 20) && aCanPut A b), σ) := by
  unfold fX1_canPutBack
  rw [isBook_s hb]
  simp only [Option.bind_some, bI_0]
  by_cases e2 : b < 20
  · rw [decide_eq_true e2, if_neg (by decide), holderOf_s h hI e2, Bool.true_and]
    simp only [Option.bind_some]
    unfold aCanPut
    by_cases e3 : A.1 0 b = 0
    · rw [if_pos ((aHold_m9 hI e2).mpr e3), decide_eq_true e3]; rfl
    · rw [if_neg (fun q => e3 ((aHold_m9 hI e2).mp q)), decide_eq_false e3, bookInside_s h hI e2]
      simp only [Option.bind_some, bI_0]
      cases aBookIn A b <;> rfl
  · rw [decide_eq_false e2, if_pos rfl]; rfl
theorem canBor_s (h : RA σ A) (hI : Inv T A) {b : Nat} (hb : b < 2147483648) : fX1_canBorrow σ (nI b) = some (bI (decide (b < 20) && aCanBorrow A b 1), σ) := by
  unfold fX1_canBorrow
  rw [isBook_s hb]
  simp only [Option.bind_some, bI_0]
  by_cases e2 : b < 20
  · rw [decide_eq_true e2, if_neg (by decide), isM_has h.2.1 e2, Bool.true_and]
    simp only [Option.bind_some, bI_0]
    unfold aCanBorrow
    by_cases e3 : A.1 1 b = 1
    · rw [decide_eq_true e3, if_neg (by decide)]; rfl
    · rw [decide_eq_false e3, if_pos rfl, bookInside_s h hI e2]
      simp only [Option.bind_some, bI_0]
      cases aBookIn A b <;> rfl
  · rw [decide_eq_false e2, if_pos rfl]; rfl
theorem canBring_s (h : RA σ A) (hI : Inv T A) {b : Nat} (hb : b < 2147483648) : fX1_canBringBack σ (nI b) = some (bI (decide (b < 20) && aCanBorrow A b 0), σ) := by
  unfold fX1_canBringBack
  rw [isBook_s hb]
  simp only [Option.bind_some, bI_0]
  by_cases e2 : b < 20
  · rw [decide_eq_true e2, if_neg (by decide), isM_has h.2.1 e2, Bool.true_and]
    simp only [Option.bind_some, bI_0]
    unfold aCanBorrow
    rcases (hI.2.1 b e2).1 with e3 | e3
    · rw [e3]; rfl
    · rw [e3, bookInside_s h hI e2]
      simp only [Option.bind_some]
      cases aBookIn A b <;> rfl
  · rw [decide_eq_false e2, if_pos rfl]; rfl
theorem canWalk_s (h : RA σ A) {v g : Nat} (hv : v < 2147483648) (hg : g < 2147483648) (x : Int32) : fX1_canWalk σ (nI v) (nI g) x = some (bI (decide (v < 6 ∧ g < 3) && aCanWalk A v x), σ) := by
  unfold fX1_canWalk
  rw [isVisitor_s hv]
  simp only [Option.bind_some, bI_0]
  by_cases e1 : v < 6
  · rw [decide_eq_true e1, if_neg (by decide), isGate_s hg]
    simp only [Option.bind_some, bI_0]
    by_cases e2 : g < 3
    · rw [decide_eq_true e2, if_neg (by decide), decide_eq_true (⟨e1, e2⟩ : v < 6 ∧ g < 3), Bool.true_and, gd_in e1 (by decide)]
      simp (disch := omega) only [cl_nI]
      rw [h.wh e1]
      unfold aCanWalk
      by_cases e : x = 0
      · rw [if_pos e, if_pos e]
        by_cases e3 : A.1 5 v = 2
        · rw [if_pos e3, decide_eq_true e3]; rfl
        · rw [if_neg e3, decide_eq_false e3]; rfl
      · rw [if_neg e, if_neg e]
        by_cases e3 : A.1 5 v = 0
        · rw [if_pos e3, decide_eq_true e3]; rfl
        · rw [if_neg e3, decide_eq_false e3]; rfl
    · rw [decide_eq_false e2, if_pos rfl, decide_eq_false (fun q : v < 6 ∧ g < 3 => e2 q.2)]; rfl
  · rw [decide_eq_false e1, if_pos rfl, decide_eq_false (fun q : v < 6 ∧ g < 3 => e1 q.1)]; rfl
theorem canTurn_s (h : RA σ A) {v : Nat} (hv : v < 2147483648) : fX1_canTurn σ (nI v) = some (bI (decide (v < 6) && decide (A.1 5 v = 1)), σ) := by
  unfold fX1_canTurn
  rw [isVisitor_s hv]
  simp only [Option.bind_some, bI_0]
  by_cases e1 : v < 6
  · rw [decide_eq_true e1, if_neg (by decide), Bool.true_and, gd_in e1 (by decide), cl_nI (by omega), h.wh e1]
    by_cases e3 : A.1 5 v = 1
    · rw [if_pos e3, decide_eq_true e3]; rfl
    · rw [if_neg e3, decide_eq_false e3]; rfl
  · rw [decide_eq_false e1, if_pos rfl]; rfl
end LR
