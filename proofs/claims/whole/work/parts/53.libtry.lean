section LT
variable {T : Nat} {σ : gS} {A : AS}
theorem Inv_hold (h : Inv T A) {b k : Nat} (hk : k ≤ 6) : Inv T (aS A 0 b (nI k)) := by
  obtain ⟨h1, h2, h3, h4, h5, h6, h7⟩ := h
  have s : ∀ k' j', k' ≠ 0 → (aS A 0 b (nI k)).1 k' j' = A.1 k' j' := fun k' j' e => st_ne (Or.inl e)
  refine ⟨fun b' hb => ?_, fun b' hb => ?_, fun v hv => ?_, fun g x hg hx => ?_, h5, h6, fun b' hb => ?_⟩
  · by_cases e : b' = b
    · exact ⟨k, hk, by rw [aS_1, st_eq rfl e]⟩
    · rw [aS_1, st_ne (Or.inr e)]; exact h1 b' hb
  · rw [s 1 b' (by decide), s 3 b' (by decide)]; exact h2 b' hb
  · rw [s 5 v (by decide), s 6 v (by decide), s 8 v (by decide)]; exact h3 v hv
  · rw [s 3 x (by decide)]; exact h4 g x hg hx
  · rw [s 4 b' (by decide)]; exact h7 b' hb
theorem Inv_bor (h : Inv T A) {b : Nat} {x : Int32} (hx : x = 0 ∨ x = 1) : Inv T (aS A 1 b x) := by
  obtain ⟨h1, h2, h3, h4, h5, h6, h7⟩ := h
  have s : ∀ k' j', k' ≠ 1 → (aS A 1 b x).1 k' j' = A.1 k' j' := fun k' j' e => st_ne (Or.inl e)
  refine ⟨fun b' hb => ?_, fun b' hb => ?_, fun v hv => ?_, fun g x hg hx => ?_, h5, h6, fun b' hb => ?_⟩
  · rw [s 0 b' (by decide)]; exact h1 b' hb
  · rw [s 3 b' (by decide)]
    refine ⟨?_, (h2 b' hb).2⟩
    by_cases e : b' = b
    · rw [aS_1, st_eq rfl e]; exact hx
    · rw [aS_1, st_ne (Or.inr e)]; exact (h2 b' hb).1
  · rw [s 5 v (by decide), s 6 v (by decide), s 8 v (by decide)]; exact h3 v hv
  · rw [s 3 _ (by decide)]; exact h4 g _ hg ‹_›
  · rw [s 4 b' (by decide)]; exact h7 b' hb
theorem Inv_walk (h : Inv T A) {v g : Nat} (hg : g < 3) (out : Bool) : Inv T (aWalk A v (nI g) out) := by
  obtain ⟨h1, h2, h3, h4, h5, h6, h7⟩ := h
  have s : ∀ k' j', k' ≠ 5 → k' ≠ 6 → k' ≠ 7 → k' ≠ 8 → (aWalk A v (nI g) out).1 k' j' = A.1 k' j' := fun k' j' e e2 e3 e4 => by
    unfold aWalk
    rw [aS_1, st_ne (Or.inl e4), aS_1, st_ne (Or.inl e3), aS_1, st_ne (Or.inl e2), aS_1, st_ne (Or.inl e)]
  refine ⟨fun b' hb => ?_, fun b' hb => ?_, fun v' hv => ?_, fun g x hg hx => ?_, h5, h6, fun b' hb => ?_⟩
  · rw [s 0 b' (by decide) (by decide) (by decide) (by decide)]; exact h1 b' hb
  · rw [s 1 b' (by decide) (by decide) (by decide) (by decide), s 3 b' (by decide) (by decide) (by decide) (by decide)]; exact h2 b' hb
  · unfold aWalk
    simp (disch := decide) only [aS_1, st2k]
    by_cases e : v' = v
    · rw [st_eq rfl e, st_eq rfl e, st_eq rfl e]
      exact ⟨Or.inr (Or.inl rfl), fun _ => ⟨⟨g, hg, rfl⟩, bI_01 out⟩⟩
    · repeat rw [st_ne (Or.inr e)]
      exact h3 v' hv
  · rw [s 3 x (by decide) (by decide) (by decide) (by decide)]; exact h4 g x hg hx
  · rw [s 4 b' (by decide) (by decide) (by decide) (by decide)]; exact h7 b' hb
theorem Inv_turn (h : Inv T A) {v : Nat} (hv : v < 6) (hw : A.1 5 v = 1) : Inv T (aTurn A v) := by
  obtain ⟨h1, h2, h3, h4, h5, h6, h7⟩ := h
  have s : ∀ k' j', k' ≠ 8 → (aTurn A v).1 k' j' = A.1 k' j' := fun k' j' e => st_ne (Or.inl e)
  refine ⟨fun b' hb => ?_, fun b' hb => ?_, fun v' hv' => ?_, fun g x hg hx => ?_, h5, h6, fun b' hb => ?_⟩
  · rw [s 0 b' (by decide)]; exact h1 b' hb
  · rw [s 1 b' (by decide), s 3 b' (by decide)]; exact h2 b' hb
  · rw [s 5 v' (by decide), s 6 v' (by decide)]
    refine ⟨(h3 v' hv').1, fun q => ⟨((h3 v' hv').2 q).1, ?_⟩⟩
    unfold aTurn
    by_cases e : v' = v
    · rw [aS_1, st_eq rfl e]
      rcases ((h3 v hv).2 hw).2 with z | z
      · rw [z]; exact Or.inr rfl
      · rw [z]; exact Or.inl rfl
    · rw [aS_1, st_ne (Or.inr e)]; exact ((h3 v' hv').2 q).2
  · rw [s 3 x (by decide)]; exact h4 g x hg hx
  · rw [s 4 b' (by decide)]; exact h7 b' hb
theorem InvP_aS (h : InvP A) {k i : Nat} {x : Int32} (h5 : k ≠ 5) (h7 : k ≠ 7) : InvP (aS A k i x) := fun v hv hw => by
  rw [aS_1, st_ne (Or.inl (Ne.symm h5))] at hw
  rw [aS_1, st_ne (Or.inl (Ne.symm h7))]
  exact h v hv hw
theorem InvP_walk (h : InvP A) (v : Nat) (g : Int32) (out : Bool) : InvP (aWalk A v g out) := fun v' hv hw => by
  unfold aWalk at hw ⊢
  simp (disch := decide) only [aS_1, st2k] at hw ⊢
  by_cases e : v' = v
  · rw [st_eq rfl e]; cases out <;> decide
  · rw [st_ne (Or.inr e)] at hw ⊢; exact h v' hv hw
/-- inner truth of both sides: an answer of the class, its state -/
theorem tryTake_s (h : RA σ A) (hI : Inv T A) {v b : Nat} (hv : v < 2147483648) (hb : b < 2147483648) {c : Bool} (hc : (decide (v < 6 ∧ b < 20) && aCanTake A v b) = c) : ∃ σ', fX1_tryTake σ (nI v) (nI b) = some (bI c, σ') ∧ RA σ' (if c then aS A 0 b (nI (v + 1)) else A) ∧ (c = true → v < 6 ∧ b < 20) ∧ ∀ j, σ' 9 j = σ 9 j := by
  unfold fX1_tryTake
  rw [canTake_s h hI hv hb, hc]
  simp only [Option.bind_some, bI_0]
  cases c with
  | false => exact ⟨σ, rfl, h, fun q => absurd q (by decide), fun _ => rfl⟩
  | true =>
    rw [Bool.and_eq_true, decide_eq_true_eq] at hc
    obtain ⟨⟨hv6, hb20⟩, hc2⟩ := hc
    unfold aCanTake at hc2
    rw [Bool.and_eq_true, decide_eq_true_eq] at hc2
    rw [if_neg (by decide), gd_in hv6 (by decide), bit_spec]
    simp only [Option.bind_some, gl]
    rw [gd_in hv6 (by decide)]
    refine ⟨_, rfl, ?_, fun _ => ⟨hv6, hb20⟩, fun j => st_ne (Or.inl (by decide))⟩
    show RA _ (aS A 0 b (nI (v + 1)))
    refine RA_bags h (fun k j e => st_ne (Or.inl e)) (fun v' hv' => ?_)
    rw [cl_nI (by omega)]
    have e0 : ∀ w, w < 6 → ¬ A.1 0 b = nI (w + 1) := fun w hw q => by
      rw [hc2.1, show (0 : Int32) = nI 0 from rfl, nI_inj (by omega) (by omega)] at q; omega
    by_cases e : v' = v
    · subst e
      have : st2 σ 10 v' (σ 10 v' ||| bitI b) 10 v' = σ 10 v' ||| bitI b := st_eq rfl rfl
      have t2 : (st2 σ 10 v' (σ 10 v' ||| bitI b) 10) v' = σ 10 v' ||| bitI b := this
      rw [t2]
      refine isM_cong (isM_or (h.bag hv') (isM_bit hb20)) (fun i hi => ?_)
      by_cases q : i = b
      · rw [st_eq rfl q]; simp [q]
      · rw [st_ne (Or.inr q)]; simp [q]
    · have t2 : (st2 σ 10 v (σ 10 v ||| bitI b) 10) v' = σ 10 v' := st_ne (Or.inr e)
      rw [t2]
      refine isM_cong (h.bag hv') (fun i hi => ?_)
      by_cases q : i = b
      · rw [st_eq rfl q, q]
        constructor
        · intro z; exact absurd z (e0 v' hv')
        · intro z; rw [nI_inj (by omega) (by omega)] at z; omega
      · rw [st_ne (Or.inr q)]
theorem putL {b : Nat} (hb : b < 20) (h : RA σ A) : ∀ (m v f : Nat) (σ' : gS), v + m = 6 → m < f → (∀ k j, k ≠ 10 → σ' k j = σ k j) → (∀ v', v' < v → σ' 10 v' = σ 10 v' &&& (bitI b ^^^ (-1 : Int32))) → (∀ v', v ≤ v' → σ' 10 v' = σ 10 v') → ∃ σ'', fX1_tryPutBack_L12 f σ' (nI b) (nI v) = some (1, σ'') ∧ RA σ'' (aS A 0 b 0) ∧ ∀ j, σ'' 9 j = σ 9 j := by
  intro m
  induction m with
  | zero =>
    intro v f σ' hv hf fr1 c1 c2
    obtain ⟨f, rfl⟩ : ∃ z, f = z + 1 := ⟨f - 1, by omega⟩
    simp only [fX1_tryPutBack_L12]
    rw [if_pos ((lel_6 (by omega)).mpr (by omega))]
    refine ⟨σ', rfl, RA_bags h fr1 (fun v' hv' => ?_), fun j => fr1 9 j (by decide)⟩
    rw [c1 v' (by omega)]
    refine isM_cong (isM_sub (h.bag hv') (isM_bit hb)) (fun i hi => ?_)
    by_cases q : i = b
    · rw [st_eq rfl q]
      constructor
      · rintro ⟨_, z⟩; exact absurd q z
      · intro z; rw [show (0 : Int32) = nI 0 from rfl, nI_inj (by omega) (by omega)] at z; omega
    · rw [st_ne (Or.inr q)]; simp [q]
  | succ m ih =>
    intro v f σ' hv hf fr1 c1 c2
    obtain ⟨f, rfl⟩ : ∃ z, f = z + 1 := ⟨f - 1, by omega⟩
    simp only [fX1_tryPutBack_L12]
    rw [if_neg (fun q => absurd ((lel_6 (by omega)).mp q) (by omega)), gd_in (by omega) (by decide), bit_spec]
    simp only [Option.bind_some, gl]
    rw [gd_in (by omega) (by decide), nI_1]
    have e0 : (nI v).toNatClampNeg = v := cl_nI (by omega)
    rw [e0]
    refine ih (v + 1) f _ (by omega) (by omega) (fun k j e => ?_) (fun v' hv' => ?_) (fun v' hv' => ?_)
    · rw [st_ne (Or.inl e)]; exact fr1 k j e
    · by_cases e : v' = v
      · rw [st_eq rfl e, c2 v (by omega), e]
      · rw [st_ne (Or.inr e)]; exact c1 v' (by omega)
    · rw [st_ne (Or.inr (by omega))]; exact c2 v' (by omega)
theorem tryPut_s (h : RA σ A) (hI : Inv T A) {b : Nat} (hb : b < 2147483648) {c : Bool} (hc : (decide (b < 20) && aCanPut A b) = c) : ∃ σ', fX1_tryPutBack σ (nI b) = some (bI c, σ') ∧ RA σ' (if c then aS A 0 b 0 else A) ∧ ∀ j, σ' 9 j = σ 9 j := by
  unfold fX1_tryPutBack
  rw [canPut_s h hI hb, hc]
  simp only [Option.bind_some, bI_0]
  cases c with
  | false => exact ⟨σ, rfl, h, fun _ => rfl⟩
  | true =>
    rw [Bool.and_eq_true, decide_eq_true_eq] at hc
    rw [if_neg (by decide)]
    exact putL hc.1 h 6 0 gFuel σ rfl (by decide) (fun _ _ _ => rfl) (fun _ q => absurd q (Nat.not_lt_zero _)) (fun _ _ => rfl)
theorem tryBor_s (h : RA σ A) (hI : Inv T A) {b : Nat} (hb : b < 2147483648) {c : Bool} (hc : (decide (b < 20) && aCanBorrow A b 1) = c) : ∃ σ', fX1_tryBorrow σ (nI b) = some (bI c, σ') ∧ RA σ' (if c then aS A 1 b 1 else A) ∧ σ' 9 14 = σ 9 14 := by
  unfold fX1_tryBorrow
  rw [canBor_s h hI hb, hc]
  simp only [Option.bind_some, bI_0]
  cases c with
  | false => exact ⟨σ, rfl, h, rfl⟩
  | true =>
    rw [Bool.and_eq_true, decide_eq_true_eq] at hc
    rw [if_neg (by decide), bit_spec]
    simp only [Option.bind_some, gl]
    refine ⟨_, rfl, ?_, st_ne (by decide)⟩
    show RA _ (aS A 1 b 1)
    refine RA_bor h (isM_cong (isM_or h.2.1 (isM_bit hc.1)) (fun i hi => ?_))
    by_cases q : i = b
    · rw [st_eq rfl q]; simp [q]
    · rw [st_ne (Or.inr q)]; simp [q]
theorem tryBring_s (h : RA σ A) (hI : Inv T A) {b : Nat} (hb : b < 2147483648) {c : Bool} (hc : (decide (b < 20) && aCanBorrow A b 0) = c) : ∃ σ', fX1_tryBringBack σ (nI b) = some (bI c, σ') ∧ RA σ' (if c then aS A 1 b 0 else A) ∧ σ' 9 14 = σ 9 14 := by
  unfold fX1_tryBringBack
  rw [canBring_s h hI hb, hc]
  simp only [Option.bind_some, bI_0]
  cases c with
  | false => exact ⟨σ, rfl, h, rfl⟩
  | true =>
    rw [Bool.and_eq_true, decide_eq_true_eq] at hc
    rw [if_neg (by decide), bit_spec]
    simp only [Option.bind_some, gl]
    refine ⟨_, rfl, ?_, st_ne (by decide)⟩
    show RA _ (aS A 1 b 0)
    refine RA_bor h (isM_cong (isM_sub h.2.1 (isM_bit hc.1)) (fun i hi => ?_))
    by_cases q : i = b
    · rw [st_eq rfl q]; simp [q]
    · rw [st_ne (Or.inr q)]; simp [q]
theorem tryWalk_s (h : RA σ A) {v g : Nat} (hv : v < 2147483648) (hg : g < 2147483648) (out : Bool) {c : Bool} (hc : (decide (v < 6 ∧ g < 3) && aCanWalk A v (bI out)) = c) : ∃ σ', fX1_tryWalk σ (nI v) (nI g) (bI out) = some (bI c, σ') ∧ RA σ' (if c then aWalk A v (nI g) out else A) ∧ ∀ j, σ' 9 j = σ 9 j := by
  unfold fX1_tryWalk
  rw [canWalk_s h hv hg, hc]
  simp only [Option.bind_some]
  cases c with
  | false => exact ⟨σ, rfl, h, fun _ => rfl⟩
  | true =>
    rw [Bool.and_eq_true, decide_eq_true_eq] at hc
    rw [if_neg (show ¬ bI true = 0 by decide), gd_in hc.1.1 (by decide)]
    simp only [gl]
    rw [gd_in hc.1.1 (by decide)]
    have e0 : (nI v).toNatClampNeg = v := cl_nI (by omega)
    simp only [e0]
    have hr := RA_walk h v (nI g) (if out then -3 else 3) (bI out) (bI_01 out)
    have hj : ∀ j, (st2 (st2 (st2 (st2 σ 11 v 1) 12 v (nI g)) 13 v (if out then -3 else 3)) 14 v (bI out)) 9 j = σ 9 j := fun j => by
      rw [st_ne (Or.inl (by decide)), st_ne (Or.inl (by decide)), st_ne (Or.inl (by decide)), st_ne (Or.inl (by decide))]
    cases out with
    | false =>
      rw [if_pos (show bI false = 0 from rfl), gd_in hc.1.1 (by decide), gd_t (bI_01 false), gd_in hc.1.1 (by decide)]
      exact ⟨_, rfl, hr, hj⟩
    | true =>
      rw [if_neg (show ¬ bI true = 0 by decide), gd_in hc.1.1 (by decide), gd_t (bI_01 true), gd_in hc.1.1 (by decide)]
      exact ⟨_, rfl, hr, hj⟩
theorem tryTurn_s (h : RA σ A) (hI : Inv T A) {v : Nat} (hv : v < 2147483648) {c : Bool} (hc : (decide (v < 6) && decide (A.1 5 v = 1)) = c) : ∃ σ', fX1_tryTurn σ (nI v) = some (bI c, σ') ∧ RA σ' (if c then aTurn A v else A) ∧ ∀ j, σ' 9 j = σ 9 j := by
  unfold fX1_tryTurn
  rw [canTurn_s h hv, hc]
  simp only [Option.bind_some, bI_0]
  cases c with
  | false => exact ⟨σ, rfl, h, fun _ => rfl⟩
  | true =>
    rw [Bool.and_eq_true, decide_eq_true_eq, decide_eq_true_eq] at hc
    rw [if_neg (by decide), gd_in hc.1 (by decide)]
    simp only [gl]
    rw [gd_in hc.1 (by decide), gd_in hc.1 (by decide)]
    have e0 : (nI v).toNatClampNeg = v := cl_nI (by omega)
    rw [e0, ((h.2.2.2.2.1 v hc.1).2 hc.2).2.2]
    have hr := RA_wy h v (1 - A.1 8 v) (by
      rcases ((hI.2.2.1 v hc.1).2 hc.2).2 with z | z
      · rw [z]; exact Or.inr rfl
      · rw [z]; exact Or.inl rfl)
    rcases ((hI.2.2.1 v hc.1).2 hc.2).2 with z | z
    · rw [if_pos z]
      rw [z] at hr
      exact ⟨_, rfl, by show RA _ (aTurn A v); unfold aTurn; rw [z]; exact hr, fun j => st_ne (Or.inl (by decide))⟩
    · rw [if_neg (by rw [z]; decide)]
      rw [z] at hr
      exact ⟨_, rfl, by show RA _ (aTurn A v); unfold aTurn; rw [z]; exact hr, fun j => st_ne (Or.inl (by decide))⟩
end LT
