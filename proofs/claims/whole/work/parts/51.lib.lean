theorem bt1 : ∀ i, i < 32 → bt 1 i = decide (i = 0) := by decide +kernel
theorem and1 (y : Int32) : (y &&& 1) = 0 ↔ bt y 0 = false := by
  constructor
  · intro h
    have : bt (y &&& 1) 0 = bt 0 0 := by rw [h]
    rw [b_and, bt1 0 (by decide), b_0] at this
    simpa using this
  · intro h
    refine b_ext (fun i hi => ?_)
    rw [b_and, bt1 i hi, b_0]
    by_cases e : i = 0
    · subst e; rw [h]; rfl
    · rw [decide_eq_false e, Bool.and_false]
theorem has_bt (w : Int32) {i : Nat} (hi : i < 32) : fX3_has w (nI i) = some (bI (bt w i), ()) := by
  unfold fX3_has
  have e : bt (w >>> (nI i &&& 31)) 0 = bt w i := by rw [b_sshr i hi w (by decide), if_pos (by omega)]; rfl
  cases h : bt w i with
  | false => rw [if_pos ((and1 _).mpr (e.trans h))]; rfl
  | true => rw [if_neg (fun q => by have := (and1 _).mp q; rw [e, h] at this; exact absurd this (by decide))]; rfl
def bitI (b : Nat) : Int32 := (1 : Int32) <<< (nI b &&& 31)
theorem bit_spec (b : Nat) : fX3_bit (nI b) = some (bitI b, ()) := rfl
theorem bit_bt {b j : Nat} (hb : b < 32) (hj : j < 32) : bt (bitI b) j = decide (j = b) := by
  unfold bitI
  rw [b_shl b hb 1 hj, bt1 _ (by omega)]
  by_cases e : j = b
  · subst e; simp
  · rw [decide_eq_false e]
    by_cases q : b ≤ j
    · rw [decide_eq_false (show ¬ (j - b = 0) by omega), Bool.and_false]
    · rw [decide_eq_false q, Bool.false_and]
section IM
variable {w u : Int32} {p q : Nat → Prop}
theorem isM_cong (h : isM w p) (e : ∀ i, i < 20 → (p i ↔ q i)) : isM w q := fun i hi => by
  rw [h i hi]
  constructor
  · rintro ⟨a, b⟩; exact ⟨a, (e i a).mp b⟩
  · rintro ⟨a, b⟩; exact ⟨a, (e i a).mpr b⟩
theorem isM_0 : isM 0 (fun _ => False) := fun i hi => by rw [b_0]; simp
theorem isM_or (h : isM w p) (k : isM u q) : isM (w ||| u) (fun i => p i ∨ q i) := fun i hi => by
  rw [b_or, Bool.or_eq_true, h i hi, k i hi]
  constructor
  · rintro (⟨a, b⟩ | ⟨a, b⟩)
    · exact ⟨a, Or.inl b⟩
    · exact ⟨a, Or.inr b⟩
  · rintro ⟨a, b | b⟩
    · exact Or.inl ⟨a, b⟩
    · exact Or.inr ⟨a, b⟩
theorem isM_and (h : isM w p) (k : isM u q) : isM (w &&& u) (fun i => p i ∧ q i) := fun i hi => by
  rw [b_and, Bool.and_eq_true, h i hi, k i hi]
  constructor
  · rintro ⟨⟨a, b⟩, _, c⟩; exact ⟨a, b, c⟩
  · rintro ⟨a, b, c⟩; exact ⟨⟨a, b⟩, a, c⟩
theorem isM_sub (h : isM w p) (k : isM u q) : isM (w &&& (u ^^^ (-1 : Int32))) (fun i => p i ∧ ¬ q i) := fun i hi => by
  have hk := k i hi
  rw [b_and, b_xor, b_m1 i hi, Bool.and_eq_true, h i hi]
  cases e : bt u i with
  | true =>
    rw [e] at hk
    have := (hk.mp rfl).2
    simp [this]
  | false =>
    rw [e] at hk
    have hn : i < 20 → ¬ q i := fun a b => absurd (hk.mpr ⟨a, b⟩) (by decide)
    constructor
    · rintro ⟨⟨a, b⟩, _⟩; exact ⟨a, b, hn a⟩
    · rintro ⟨a, b, _⟩; exact ⟨⟨a, b⟩, rfl⟩
theorem isM_bit {b : Nat} (hb : b < 20) : isM (bitI b) (fun i => i = b) := fun i hi => by
  rw [bit_bt (by omega) hi, decide_eq_true_eq]
  constructor
  · intro e; exact ⟨by omega, e⟩
  · intro e; exact e.2
theorem isM_bt (h : isM w p) [DecidablePred p] {i : Nat} (hi : i < 20) : bt w i = decide (p i) := by
  have := h i (by omega)
  by_cases e : p i
  · rw [decide_eq_true e]; exact this.mpr ⟨hi, e⟩
  · rw [decide_eq_false e]
    cases c : bt w i with
    | false => rfl
    | true => exact absurd (this.mp c).2 e
theorem isM_has (h : isM w p) [DecidablePred p] {i : Nat} (hi : i < 20) : fX3_has w (nI i) = some (bI (decide (p i)), ()) := by
  rw [has_bt w (by omega), isM_bt h hi]
theorem isM_zero (h : isM w p) : w = 0 ↔ ∀ i, i < 20 → ¬ p i := by
  constructor
  · intro e i hi hp
    have := (h i (by omega)).mpr ⟨hi, hp⟩
    rw [e, b_0] at this
    exact absurd this (by decide)
  · intro e
    refine b_ext (fun i hi => ?_)
    rw [b_0]
    cases c : bt w i with
    | false => rfl
    | true => exact absurd ((h i hi).mp c).2 (e i ((h i hi).mp c).1)
theorem isM_inj (h : isM w p) (k : isM u p) : w = u := by
  refine b_ext (fun i hi => ?_)
  have a := h i hi
  have b := k i hi
  cases c : bt w i with
  | true => rw [c] at a; exact (b.mpr (a.mp rfl)).symm
  | false =>
    cases d : bt u i with
    | false => rfl
    | true => exact absurd (a.mpr (b.mp d)) (by rw [c]; decide)
end IM
/-- the library's cells show A -/
def RA (σ : gS) (A : AS) : Prop :=
  (∀ v, v < 6 → isM (σ 10 v) (fun b => A.1 0 b = nI (v + 1))) ∧
  isM (σ 9 8) (fun b => A.1 1 b = 1) ∧
  isM (σ 9 9) (fun b => A.1 3 b = 1) ∧
  (∀ b, b < 20 → σ 15 b = A.1 2 b ∧ σ 16 b = A.1 4 b) ∧
  (∀ v, v < 6 → σ 11 v = A.1 5 v ∧ (A.1 5 v = 1 → σ 12 v = A.1 6 v ∧ σ 13 v = A.1 7 v ∧ σ 14 v = A.1 8 v)) ∧
  (∀ g, g < 3 → σ 1 g = A.1 9 g ∧ σ 2 g = A.1 10 g ∧ σ 3 g = A.1 11 g ∧ σ 4 g = nI (A.2.1 g).length) ∧
  (∀ g i, g < 3 → i < (A.2.1 g).length → σ 5 (20 * g + i) = nI ((A.2.1 g).getD i 0)) ∧
  (σ 9 10 = A.1 12 0 ∧ σ 0 8 = A.1 12 1 ∧ σ 9 11 = A.1 12 2 ∧ σ 9 12 = A.1 12 3 ∧ σ 9 13 = A.1 12 4) ∧
  (∀ k, k < 10 → σ 6 k = (A.2.2.getD k (-9, -9, -9)).1 ∧ σ 7 k = (A.2.2.getD k (-9, -9, -9)).2.1 ∧ σ 8 k = (A.2.2.getD k (-9, -9, -9)).2.2) ∧
  (∀ v, v < 6 → σ 14 v = 0 ∨ σ 14 v = 1)
theorem st2k {σ : gS} {k j k' j' : Nat} {x : Int32} (h : k' ≠ k) : st2 σ k j x k' j' = σ k' j' := st_ne (Or.inl h)
section RAS
variable {σ σ' : gS} {A : AS}
theorem RA_14 (h : RA σ A) (x : Int32) : RA (st2 σ 9 14 x) A := by
  obtain ⟨h1, h2, h3, h4, h5, h6, h7, h8, h9, h10⟩ := h
  refine ⟨fun v hv => ?_, ?_, ?_, fun b' hb' => ?_, fun v hv => ?_, fun g hg => ?_, fun g i hg hi => ?_, ?_, fun k hk => ?_, fun v hv => ?_⟩
  · have w := h1 v hv
    simpa (disch := decide) only [aS_1, aS_2, st2k] using w
  · rw [st_ne (by decide)]; exact h2
  · rw [st_ne (by decide)]; exact h3
  · have w := h4 b' hb'
    simpa (disch := decide) only [aS_1, aS_2, st2k] using w
  · have w := h5 v hv
    simpa (disch := decide) only [aS_1, aS_2, st2k] using w
  · have w := h6 g hg
    simpa (disch := decide) only [aS_1, aS_2, st2k] using w
  · have w := h7 g i hg (by simpa (disch := decide) only [aS_1, aS_2, st2k] using hi)
    simpa (disch := decide) only [aS_1, aS_2, st2k] using w
  · rw [st_ne (by decide), st_ne (by decide), st_ne (by decide), st_ne (by decide), st_ne (by decide)]; exact h8
  · have w := h9 k hk
    simpa (disch := decide) only [aS_1, aS_2, st2k] using w
  · have w := h10 v hv
    simpa (disch := decide) only [aS_1, aS_2, st2k] using w
theorem RA_bags (h : RA σ A) (f : ∀ k j, k ≠ 10 → σ' k j = σ k j) {b : Nat} {x : Int32} (c : ∀ v, v < 6 → isM (σ' 10 v) (fun i => st2 A.1 0 b x 0 i = nI (v + 1))) : RA σ' (aS A 0 b x) := by
  obtain ⟨h1, h2, h3, h4, h5, h6, h7, h8, h9, h10⟩ := h
  refine ⟨fun v hv => ?_, ?_, ?_, fun b' hb' => ?_, fun v hv => ?_, fun g hg => ?_, fun g i hg hi => ?_, ?_, fun k hk => ?_, fun v hv => ?_⟩
  · exact c v hv
  · have w := h2
    simpa (disch := decide) only [aS_1, aS_2, st2k, f] using w
  · have w := h3
    simpa (disch := decide) only [aS_1, aS_2, st2k, f] using w
  · have w := h4 b' hb'
    simpa (disch := decide) only [aS_1, aS_2, st2k, f] using w
  · have w := h5 v hv
    simpa (disch := decide) only [aS_1, aS_2, st2k, f] using w
  · have w := h6 g hg
    simpa (disch := decide) only [aS_1, aS_2, st2k, f] using w
  · have w := h7 g i hg (by simpa (disch := decide) only [aS_1, aS_2, st2k] using hi)
    simpa (disch := decide) only [aS_1, aS_2, st2k, f] using w
  · have w := h8
    simpa (disch := decide) only [aS_1, aS_2, st2k, f] using w
  · have w := h9 k hk
    simpa (disch := decide) only [aS_1, aS_2, st2k, f] using w
  · have w := h10 v hv
    simpa (disch := decide) only [aS_1, aS_2, st2k, f] using w
theorem RA_bor (h : RA σ A) {b : Nat} {x w : Int32} (c : isM w (fun i => st2 A.1 1 b x 1 i = 1)) : RA (st2 σ 9 8 w) (aS A 1 b x) := by
  obtain ⟨h1, h2, h3, h4, h5, h6, h7, h8, h9, h10⟩ := h
  refine ⟨fun v hv => ?_, ?_, ?_, fun b' hb' => ?_, fun v hv => ?_, fun g hg => ?_, fun g i hg hi => ?_, ?_, fun k hk => ?_, fun v hv => ?_⟩
  · have w := h1 v hv
    simpa (disch := decide) only [aS_1, aS_2, st2k] using w
  · rw [st_eq rfl rfl]; exact c
  · have w := h3
    rw [st_ne (by decide)]
    simpa (disch := decide) only [aS_1, aS_2, st2k] using w
  · have w := h4 b' hb'
    simpa (disch := decide) only [aS_1, aS_2, st2k] using w
  · have w := h5 v hv
    simpa (disch := decide) only [aS_1, aS_2, st2k] using w
  · have w := h6 g hg
    simpa (disch := decide) only [aS_1, aS_2, st2k] using w
  · have w := h7 g i hg (by simpa (disch := decide) only [aS_1, aS_2, st2k] using hi)
    simpa (disch := decide) only [aS_1, aS_2, st2k] using w
  · have w := h8
    rw [st_ne (by decide), st_ne (by decide), st_ne (by decide), st_ne (by decide), st_ne (by decide)]
    simpa (disch := decide) only [aS_1, aS_2, st2k] using w
  · have w := h9 k hk
    simpa (disch := decide) only [aS_1, aS_2, st2k] using w
  · have w := h10 v hv
    simpa (disch := decide) only [aS_1, aS_2, st2k] using w
theorem RA_told (h : RA σ A) {b : Nat} {x w : Int32} (c : isM w (fun i => st2 A.1 3 b x 3 i = 1)) : RA (st2 σ 9 9 w) (aS A 3 b x) := by
  obtain ⟨h1, h2, h3, h4, h5, h6, h7, h8, h9, h10⟩ := h
  refine ⟨fun v hv => ?_, ?_, ?_, fun b' hb' => ?_, fun v hv => ?_, fun g hg => ?_, fun g i hg hi => ?_, ?_, fun k hk => ?_, fun v hv => ?_⟩
  · have w := h1 v hv
    simpa (disch := decide) only [aS_1, aS_2, st2k] using w
  · have w := h2
    rw [st_ne (by decide)]
    simpa (disch := decide) only [aS_1, aS_2, st2k] using w
  · rw [st_eq rfl rfl]; exact c
  · have w := h4 b' hb'
    simpa (disch := decide) only [aS_1, aS_2, st2k] using w
  · have w := h5 v hv
    simpa (disch := decide) only [aS_1, aS_2, st2k] using w
  · have w := h6 g hg
    simpa (disch := decide) only [aS_1, aS_2, st2k] using w
  · have w := h7 g i hg (by simpa (disch := decide) only [aS_1, aS_2, st2k] using hi)
    simpa (disch := decide) only [aS_1, aS_2, st2k] using w
  · have w := h8
    rw [st_ne (by decide), st_ne (by decide), st_ne (by decide), st_ne (by decide), st_ne (by decide)]
    simpa (disch := decide) only [aS_1, aS_2, st2k] using w
  · have w := h9 k hk
    simpa (disch := decide) only [aS_1, aS_2, st2k] using w
  · have w := h10 v hv
    simpa (disch := decide) only [aS_1, aS_2, st2k] using w
theorem RA_rd (h : RA σ A) (b : Nat) (x : Int32) : RA (st2 σ 15 b x) (aS A 2 b x) := by
  obtain ⟨h1, h2, h3, h4, h5, h6, h7, h8, h9, h10⟩ := h
  refine ⟨fun v hv => ?_, ?_, ?_, fun b' hb' => ?_, fun v hv => ?_, fun g hg => ?_, fun g i hg hi => ?_, ?_, fun k hk => ?_, fun v hv => ?_⟩
  · have w := h1 v hv
    simpa (disch := decide) only [aS_1, aS_2, st2k] using w
  · have w := h2
    simpa (disch := decide) only [aS_1, aS_2, st2k] using w
  · have w := h3
    simpa (disch := decide) only [aS_1, aS_2, st2k] using w
  · have w := h4 b' hb'
    refine ⟨?_, by simpa (disch := decide) only [aS_1, aS_2, st2k] using w.2⟩
    rw [aS_1]
    by_cases e : b' = b
    · rw [st_eq rfl e, st_eq rfl e]
    · rw [st_ne (Or.inr e), st_ne (Or.inr e)]; exact w.1
  · have w := h5 v hv
    simpa (disch := decide) only [aS_1, aS_2, st2k] using w
  · have w := h6 g hg
    simpa (disch := decide) only [aS_1, aS_2, st2k] using w
  · have w := h7 g i hg (by simpa (disch := decide) only [aS_1, aS_2, st2k] using hi)
    simpa (disch := decide) only [aS_1, aS_2, st2k] using w
  · have w := h8
    simpa (disch := decide) only [aS_1, aS_2, st2k] using w
  · have w := h9 k hk
    simpa (disch := decide) only [aS_1, aS_2, st2k] using w
  · have w := h10 v hv
    simpa (disch := decide) only [aS_1, aS_2, st2k] using w
theorem RA_cr (h : RA σ A) (b : Nat) (x : Int32) : RA (st2 σ 16 b x) (aS A 4 b x) := by
  obtain ⟨h1, h2, h3, h4, h5, h6, h7, h8, h9, h10⟩ := h
  refine ⟨fun v hv => ?_, ?_, ?_, fun b' hb' => ?_, fun v hv => ?_, fun g hg => ?_, fun g i hg hi => ?_, ?_, fun k hk => ?_, fun v hv => ?_⟩
  · have w := h1 v hv
    simpa (disch := decide) only [aS_1, aS_2, st2k] using w
  · have w := h2
    simpa (disch := decide) only [aS_1, aS_2, st2k] using w
  · have w := h3
    simpa (disch := decide) only [aS_1, aS_2, st2k] using w
  · have w := h4 b' hb'
    refine ⟨by simpa (disch := decide) only [aS_1, aS_2, st2k] using w.1, ?_⟩
    rw [aS_1]
    by_cases e : b' = b
    · rw [st_eq rfl e, st_eq rfl e]
    · rw [st_ne (Or.inr e), st_ne (Or.inr e)]; exact w.2
  · have w := h5 v hv
    simpa (disch := decide) only [aS_1, aS_2, st2k] using w
  · have w := h6 g hg
    simpa (disch := decide) only [aS_1, aS_2, st2k] using w
  · have w := h7 g i hg (by simpa (disch := decide) only [aS_1, aS_2, st2k] using hi)
    simpa (disch := decide) only [aS_1, aS_2, st2k] using w
  · have w := h8
    simpa (disch := decide) only [aS_1, aS_2, st2k] using w
  · have w := h9 k hk
    simpa (disch := decide) only [aS_1, aS_2, st2k] using w
  · have w := h10 v hv
    simpa (disch := decide) only [aS_1, aS_2, st2k] using w
theorem RA_wh (h : RA σ A) (v0 : Nat) {x : Int32} (hx : x ≠ 1) : RA (st2 σ 11 v0 x) (aS A 5 v0 x) := by
  obtain ⟨h1, h2, h3, h4, h5, h6, h7, h8, h9, h10⟩ := h
  refine ⟨fun v hv => ?_, ?_, ?_, fun b' hb' => ?_, fun v hv => ?_, fun g hg => ?_, fun g i hg hi => ?_, ?_, fun k hk => ?_, fun v hv => ?_⟩
  · have w := h1 v hv
    simpa (disch := decide) only [aS_1, aS_2, st2k] using w
  · have w := h2
    simpa (disch := decide) only [aS_1, aS_2, st2k] using w
  · have w := h3
    simpa (disch := decide) only [aS_1, aS_2, st2k] using w
  · have w := h4 b' hb'
    simpa (disch := decide) only [aS_1, aS_2, st2k] using w
  · have w := h5 v hv
    rw [aS_1]
    by_cases e : v = v0
    · rw [st_eq rfl e, st_eq rfl e]
      exact ⟨rfl, fun q => absurd q hx⟩
    · rw [st_ne (Or.inr e), st_ne (Or.inr e)]
      simpa (disch := decide) only [aS_1, aS_2, st2k] using w
  · have w := h6 g hg
    simpa (disch := decide) only [aS_1, aS_2, st2k] using w
  · have w := h7 g i hg (by simpa (disch := decide) only [aS_1, aS_2, st2k] using hi)
    simpa (disch := decide) only [aS_1, aS_2, st2k] using w
  · have w := h8
    simpa (disch := decide) only [aS_1, aS_2, st2k] using w
  · have w := h9 k hk
    simpa (disch := decide) only [aS_1, aS_2, st2k] using w
  · have w := h10 v hv
    simpa (disch := decide) only [aS_1, aS_2, st2k] using w
theorem RA_pl (h : RA σ A) (v0 : Nat) (x : Int32) : RA (st2 σ 13 v0 x) (aS A 7 v0 x) := by
  obtain ⟨h1, h2, h3, h4, h5, h6, h7, h8, h9, h10⟩ := h
  refine ⟨fun v hv => ?_, ?_, ?_, fun b' hb' => ?_, fun v hv => ?_, fun g hg => ?_, fun g i hg hi => ?_, ?_, fun k hk => ?_, fun v hv => ?_⟩
  · have w := h1 v hv
    simpa (disch := decide) only [aS_1, aS_2, st2k] using w
  · have w := h2
    simpa (disch := decide) only [aS_1, aS_2, st2k] using w
  · have w := h3
    simpa (disch := decide) only [aS_1, aS_2, st2k] using w
  · have w := h4 b' hb'
    simpa (disch := decide) only [aS_1, aS_2, st2k] using w
  · have w := h5 v hv
    simp (disch := decide) only [aS_1, aS_2, st2k] at w ⊢
    refine ⟨w.1, fun q => ?_⟩
    obtain ⟨w1, w2, w3⟩ := w.2 q
    refine ⟨w1, ?_, ?_⟩
    · by_cases e : v = v0
      · rw [st_eq rfl e, st_eq rfl e]
      · rw [st_ne (Or.inr e), st_ne (Or.inr e)]; exact w2
    · exact w3
  · have w := h6 g hg
    simpa (disch := decide) only [aS_1, aS_2, st2k] using w
  · have w := h7 g i hg (by simpa (disch := decide) only [aS_1, aS_2, st2k] using hi)
    simpa (disch := decide) only [aS_1, aS_2, st2k] using w
  · have w := h8
    simpa (disch := decide) only [aS_1, aS_2, st2k] using w
  · have w := h9 k hk
    simpa (disch := decide) only [aS_1, aS_2, st2k] using w
  · have w := h10 v hv
    simpa (disch := decide) only [aS_1, aS_2, st2k] using w
theorem RA_wy (h : RA σ A) (v0 : Nat) (x : Int32) (hx : x = 0 ∨ x = 1) : RA (st2 σ 14 v0 x) (aS A 8 v0 x) := by
  obtain ⟨h1, h2, h3, h4, h5, h6, h7, h8, h9, h10⟩ := h
  refine ⟨fun v hv => ?_, ?_, ?_, fun b' hb' => ?_, fun v hv => ?_, fun g hg => ?_, fun g i hg hi => ?_, ?_, fun k hk => ?_, fun v hv => ?_⟩
  · have w := h1 v hv
    simpa (disch := decide) only [aS_1, aS_2, st2k] using w
  · have w := h2
    simpa (disch := decide) only [aS_1, aS_2, st2k] using w
  · have w := h3
    simpa (disch := decide) only [aS_1, aS_2, st2k] using w
  · have w := h4 b' hb'
    simpa (disch := decide) only [aS_1, aS_2, st2k] using w
  · have w := h5 v hv
    simp (disch := decide) only [aS_1, aS_2, st2k] at w ⊢
    refine ⟨w.1, fun q => ?_⟩
    obtain ⟨w1, w2, w3⟩ := w.2 q
    refine ⟨w1, ?_, ?_⟩
    · exact w2
    · by_cases e : v = v0
      · rw [st_eq rfl e, st_eq rfl e]
      · rw [st_ne (Or.inr e), st_ne (Or.inr e)]; exact w3
  · have w := h6 g hg
    simpa (disch := decide) only [aS_1, aS_2, st2k] using w
  · have w := h7 g i hg (by simpa (disch := decide) only [aS_1, aS_2, st2k] using hi)
    simpa (disch := decide) only [aS_1, aS_2, st2k] using w
  · have w := h8
    simpa (disch := decide) only [aS_1, aS_2, st2k] using w
  · have w := h9 k hk
    simpa (disch := decide) only [aS_1, aS_2, st2k] using w
  · by_cases e : v = v0
    · rw [st_eq rfl e]; exact hx
    · rw [st_ne (Or.inr e)]; exact h10 v hv
theorem RA_walk (h : RA σ A) (v0 : Nat) (x y z : Int32) (hz : z = 0 ∨ z = 1) : RA (st2 (st2 (st2 (st2 σ 11 v0 1) 12 v0 x) 13 v0 y) 14 v0 z) (aS (aS (aS (aS A 5 v0 1) 6 v0 x) 7 v0 y) 8 v0 z) := by
  obtain ⟨h1, h2, h3, h4, h5, h6, h7, h8, h9, h10⟩ := h
  refine ⟨fun v hv => ?_, ?_, ?_, fun b' hb' => ?_, fun v hv => ?_, fun g hg => ?_, fun g i hg hi => ?_, ?_, fun k hk => ?_, fun v hv => ?_⟩
  · have w := h1 v hv
    simpa (disch := decide) only [aS_1, aS_2, st2k] using w
  · have w := h2
    simpa (disch := decide) only [aS_1, aS_2, st2k] using w
  · have w := h3
    simpa (disch := decide) only [aS_1, aS_2, st2k] using w
  · have w := h4 b' hb'
    simpa (disch := decide) only [aS_1, aS_2, st2k] using w
  · have w := h5 v hv
    simp (disch := decide) only [aS_1, aS_2, st2k] at w ⊢
    by_cases e : v = v0
    · rw [st_eq rfl e, st_eq rfl e, st_eq rfl e, st_eq rfl e, st_eq rfl e, st_eq rfl e, st_eq rfl e, st_eq rfl e]
      exact ⟨rfl, fun _ => ⟨rfl, rfl, rfl⟩⟩
    · repeat rw [st_ne (Or.inr e)]
      exact w
  · have w := h6 g hg
    simpa (disch := decide) only [aS_1, aS_2, st2k] using w
  · have w := h7 g i hg (by simpa (disch := decide) only [aS_1, aS_2, st2k] using hi)
    simpa (disch := decide) only [aS_1, aS_2, st2k] using w
  · have w := h8
    simpa (disch := decide) only [aS_1, aS_2, st2k] using w
  · have w := h9 k hk
    simpa (disch := decide) only [aS_1, aS_2, st2k] using w
  · by_cases e : v = v0
    · rw [st_eq rfl e]; exact hz
    · have w := h10 v hv
      rw [st_ne (Or.inr e), st_ne (Or.inr e), st_ne (Or.inr e), st_ne (Or.inr e)]; exact w
theorem RA_str (h : RA σ A) (g0 : Nat) (x : Int32) : RA (st2 σ 1 g0 x) (aS A 9 g0 x) := by
  obtain ⟨h1, h2, h3, h4, h5, h6, h7, h8, h9, h10⟩ := h
  refine ⟨fun v hv => ?_, ?_, ?_, fun b' hb' => ?_, fun v hv => ?_, fun g hg => ?_, fun g i hg hi => ?_, ?_, fun k hk => ?_, fun v hv => ?_⟩
  · have w := h1 v hv
    simpa (disch := decide) only [aS_1, aS_2, st2k] using w
  · have w := h2
    simpa (disch := decide) only [aS_1, aS_2, st2k] using w
  · have w := h3
    simpa (disch := decide) only [aS_1, aS_2, st2k] using w
  · have w := h4 b' hb'
    simpa (disch := decide) only [aS_1, aS_2, st2k] using w
  · have w := h5 v hv
    simpa (disch := decide) only [aS_1, aS_2, st2k] using w
  · have w := h6 g hg
    simp (disch := decide) only [aS_1, aS_2, st2k] at w ⊢
    refine ⟨?_, ?_, ?_, w.2.2.2⟩
    · by_cases e : g = g0
      · rw [st_eq rfl e, st_eq rfl e]
      · rw [st_ne (Or.inr e), st_ne (Or.inr e)]; exact w.1
    · exact w.2.1
    · exact w.2.2.1
  · have w := h7 g i hg (by simpa (disch := decide) only [aS_1, aS_2, st2k] using hi)
    simpa (disch := decide) only [aS_1, aS_2, st2k] using w
  · have w := h8
    simpa (disch := decide) only [aS_1, aS_2, st2k] using w
  · have w := h9 k hk
    simpa (disch := decide) only [aS_1, aS_2, st2k] using w
  · have w := h10 v hv
    simpa (disch := decide) only [aS_1, aS_2, st2k] using w
theorem RA_qt (h : RA σ A) (g0 : Nat) (x : Int32) : RA (st2 σ 2 g0 x) (aS A 10 g0 x) := by
  obtain ⟨h1, h2, h3, h4, h5, h6, h7, h8, h9, h10⟩ := h
  refine ⟨fun v hv => ?_, ?_, ?_, fun b' hb' => ?_, fun v hv => ?_, fun g hg => ?_, fun g i hg hi => ?_, ?_, fun k hk => ?_, fun v hv => ?_⟩
  · have w := h1 v hv
    simpa (disch := decide) only [aS_1, aS_2, st2k] using w
  · have w := h2
    simpa (disch := decide) only [aS_1, aS_2, st2k] using w
  · have w := h3
    simpa (disch := decide) only [aS_1, aS_2, st2k] using w
  · have w := h4 b' hb'
    simpa (disch := decide) only [aS_1, aS_2, st2k] using w
  · have w := h5 v hv
    simpa (disch := decide) only [aS_1, aS_2, st2k] using w
  · have w := h6 g hg
    simp (disch := decide) only [aS_1, aS_2, st2k] at w ⊢
    refine ⟨?_, ?_, ?_, w.2.2.2⟩
    · exact w.1
    · by_cases e : g = g0
      · rw [st_eq rfl e, st_eq rfl e]
      · rw [st_ne (Or.inr e), st_ne (Or.inr e)]; exact w.2.1
    · exact w.2.2.1
  · have w := h7 g i hg (by simpa (disch := decide) only [aS_1, aS_2, st2k] using hi)
    simpa (disch := decide) only [aS_1, aS_2, st2k] using w
  · have w := h8
    simpa (disch := decide) only [aS_1, aS_2, st2k] using w
  · have w := h9 k hk
    simpa (disch := decide) only [aS_1, aS_2, st2k] using w
  · have w := h10 v hv
    simpa (disch := decide) only [aS_1, aS_2, st2k] using w
theorem RA_sh (h : RA σ A) (g0 : Nat) (x : Int32) : RA (st2 σ 3 g0 x) (aS A 11 g0 x) := by
  obtain ⟨h1, h2, h3, h4, h5, h6, h7, h8, h9, h10⟩ := h
  refine ⟨fun v hv => ?_, ?_, ?_, fun b' hb' => ?_, fun v hv => ?_, fun g hg => ?_, fun g i hg hi => ?_, ?_, fun k hk => ?_, fun v hv => ?_⟩
  · have w := h1 v hv
    simpa (disch := decide) only [aS_1, aS_2, st2k] using w
  · have w := h2
    simpa (disch := decide) only [aS_1, aS_2, st2k] using w
  · have w := h3
    simpa (disch := decide) only [aS_1, aS_2, st2k] using w
  · have w := h4 b' hb'
    simpa (disch := decide) only [aS_1, aS_2, st2k] using w
  · have w := h5 v hv
    simpa (disch := decide) only [aS_1, aS_2, st2k] using w
  · have w := h6 g hg
    simp (disch := decide) only [aS_1, aS_2, st2k] at w ⊢
    refine ⟨?_, ?_, ?_, w.2.2.2⟩
    · exact w.1
    · exact w.2.1
    · by_cases e : g = g0
      · rw [st_eq rfl e, st_eq rfl e]
      · rw [st_ne (Or.inr e), st_ne (Or.inr e)]; exact w.2.2.1
  · have w := h7 g i hg (by simpa (disch := decide) only [aS_1, aS_2, st2k] using hi)
    simpa (disch := decide) only [aS_1, aS_2, st2k] using w
  · have w := h8
    simpa (disch := decide) only [aS_1, aS_2, st2k] using w
  · have w := h9 k hk
    simpa (disch := decide) only [aS_1, aS_2, st2k] using w
  · have w := h10 v hv
    simpa (disch := decide) only [aS_1, aS_2, st2k] using w
theorem RA_sure (h : RA σ A) (x : Int32) : RA (st2 σ 9 10 x) (aS A 12 0 x) := by
  obtain ⟨h1, h2, h3, h4, h5, h6, h7, h8, h9, h10⟩ := h
  refine ⟨fun v hv => ?_, ?_, ?_, fun b' hb' => ?_, fun v hv => ?_, fun g hg => ?_, fun g i hg hi => ?_, ?_, fun k hk => ?_, fun v hv => ?_⟩
  · have w := h1 v hv
    simpa (disch := decide) only [aS_1, aS_2, st2k] using w
  · have w := h2
    rw [st_ne (by decide)]
    simpa (disch := decide) only [aS_1, aS_2, st2k] using w
  · have w := h3
    rw [st_ne (by decide)]
    simpa (disch := decide) only [aS_1, aS_2, st2k] using w
  · have w := h4 b' hb'
    simpa (disch := decide) only [aS_1, aS_2, st2k] using w
  · have w := h5 v hv
    simpa (disch := decide) only [aS_1, aS_2, st2k] using w
  · have w := h6 g hg
    simpa (disch := decide) only [aS_1, aS_2, st2k] using w
  · have w := h7 g i hg (by simpa (disch := decide) only [aS_1, aS_2, st2k] using hi)
    simpa (disch := decide) only [aS_1, aS_2, st2k] using w
  · rw [aS_1]
    refine ⟨?_, ?_, ?_, ?_, ?_⟩
    · rw [st_eq rfl rfl, st_eq rfl rfl]
    · rw [st_ne (by decide), st_ne (by decide)]; exact h8.2.1
    · rw [st_ne (by decide), st_ne (by decide)]; exact h8.2.2.1
    · rw [st_ne (by decide), st_ne (by decide)]; exact h8.2.2.2.1
    · rw [st_ne (by decide), st_ne (by decide)]; exact h8.2.2.2.2
  · have w := h9 k hk
    simpa (disch := decide) only [aS_1, aS_2, st2k] using w
  · have w := h10 v hv
    simpa (disch := decide) only [aS_1, aS_2, st2k] using w
theorem RA_calm (h : RA σ A) (x : Int32) : RA (st2 σ 0 8 x) (aS A 12 1 x) := by
  obtain ⟨h1, h2, h3, h4, h5, h6, h7, h8, h9, h10⟩ := h
  refine ⟨fun v hv => ?_, ?_, ?_, fun b' hb' => ?_, fun v hv => ?_, fun g hg => ?_, fun g i hg hi => ?_, ?_, fun k hk => ?_, fun v hv => ?_⟩
  · have w := h1 v hv
    simpa (disch := decide) only [aS_1, aS_2, st2k] using w
  · have w := h2
    simpa (disch := decide) only [aS_1, aS_2, st2k] using w
  · have w := h3
    simpa (disch := decide) only [aS_1, aS_2, st2k] using w
  · have w := h4 b' hb'
    simpa (disch := decide) only [aS_1, aS_2, st2k] using w
  · have w := h5 v hv
    simpa (disch := decide) only [aS_1, aS_2, st2k] using w
  · have w := h6 g hg
    simpa (disch := decide) only [aS_1, aS_2, st2k] using w
  · have w := h7 g i hg (by simpa (disch := decide) only [aS_1, aS_2, st2k] using hi)
    simpa (disch := decide) only [aS_1, aS_2, st2k] using w
  · rw [aS_1]
    refine ⟨?_, ?_, ?_, ?_, ?_⟩
    · rw [st_ne (by decide), st_ne (by decide)]; exact h8.1
    · rw [st_eq rfl rfl, st_eq rfl rfl]
    · rw [st_ne (by decide), st_ne (by decide)]; exact h8.2.2.1
    · rw [st_ne (by decide), st_ne (by decide)]; exact h8.2.2.2.1
    · rw [st_ne (by decide), st_ne (by decide)]; exact h8.2.2.2.2
  · have w := h9 k hk
    simpa (disch := decide) only [aS_1, aS_2, st2k] using w
  · have w := h10 v hv
    simpa (disch := decide) only [aS_1, aS_2, st2k] using w
theorem RA_tick (h : RA σ A) (x : Int32) : RA (st2 σ 9 11 x) (aS A 12 2 x) := by
  obtain ⟨h1, h2, h3, h4, h5, h6, h7, h8, h9, h10⟩ := h
  refine ⟨fun v hv => ?_, ?_, ?_, fun b' hb' => ?_, fun v hv => ?_, fun g hg => ?_, fun g i hg hi => ?_, ?_, fun k hk => ?_, fun v hv => ?_⟩
  · have w := h1 v hv
    simpa (disch := decide) only [aS_1, aS_2, st2k] using w
  · have w := h2
    rw [st_ne (by decide)]
    simpa (disch := decide) only [aS_1, aS_2, st2k] using w
  · have w := h3
    rw [st_ne (by decide)]
    simpa (disch := decide) only [aS_1, aS_2, st2k] using w
  · have w := h4 b' hb'
    simpa (disch := decide) only [aS_1, aS_2, st2k] using w
  · have w := h5 v hv
    simpa (disch := decide) only [aS_1, aS_2, st2k] using w
  · have w := h6 g hg
    simpa (disch := decide) only [aS_1, aS_2, st2k] using w
  · have w := h7 g i hg (by simpa (disch := decide) only [aS_1, aS_2, st2k] using hi)
    simpa (disch := decide) only [aS_1, aS_2, st2k] using w
  · rw [aS_1]
    refine ⟨?_, ?_, ?_, ?_, ?_⟩
    · rw [st_ne (by decide), st_ne (by decide)]; exact h8.1
    · rw [st_ne (by decide), st_ne (by decide)]; exact h8.2.1
    · rw [st_eq rfl rfl, st_eq rfl rfl]
    · rw [st_ne (by decide), st_ne (by decide)]; exact h8.2.2.2.1
    · rw [st_ne (by decide), st_ne (by decide)]; exact h8.2.2.2.2
  · have w := h9 k hk
    simpa (disch := decide) only [aS_1, aS_2, st2k] using w
  · have w := h10 v hv
    simpa (disch := decide) only [aS_1, aS_2, st2k] using w
theorem RA_cau (h : RA σ A) (x : Int32) : RA (st2 σ 9 12 x) (aS A 12 3 x) := by
  obtain ⟨h1, h2, h3, h4, h5, h6, h7, h8, h9, h10⟩ := h
  refine ⟨fun v hv => ?_, ?_, ?_, fun b' hb' => ?_, fun v hv => ?_, fun g hg => ?_, fun g i hg hi => ?_, ?_, fun k hk => ?_, fun v hv => ?_⟩
  · have w := h1 v hv
    simpa (disch := decide) only [aS_1, aS_2, st2k] using w
  · have w := h2
    rw [st_ne (by decide)]
    simpa (disch := decide) only [aS_1, aS_2, st2k] using w
  · have w := h3
    rw [st_ne (by decide)]
    simpa (disch := decide) only [aS_1, aS_2, st2k] using w
  · have w := h4 b' hb'
    simpa (disch := decide) only [aS_1, aS_2, st2k] using w
  · have w := h5 v hv
    simpa (disch := decide) only [aS_1, aS_2, st2k] using w
  · have w := h6 g hg
    simpa (disch := decide) only [aS_1, aS_2, st2k] using w
  · have w := h7 g i hg (by simpa (disch := decide) only [aS_1, aS_2, st2k] using hi)
    simpa (disch := decide) only [aS_1, aS_2, st2k] using w
  · rw [aS_1]
    refine ⟨?_, ?_, ?_, ?_, ?_⟩
    · rw [st_ne (by decide), st_ne (by decide)]; exact h8.1
    · rw [st_ne (by decide), st_ne (by decide)]; exact h8.2.1
    · rw [st_ne (by decide), st_ne (by decide)]; exact h8.2.2.1
    · rw [st_eq rfl rfl, st_eq rfl rfl]
    · rw [st_ne (by decide), st_ne (by decide)]; exact h8.2.2.2.2
  · have w := h9 k hk
    simpa (disch := decide) only [aS_1, aS_2, st2k] using w
  · have w := h10 v hv
    simpa (disch := decide) only [aS_1, aS_2, st2k] using w
theorem RA_sli (h : RA σ A) (x : Int32) : RA (st2 σ 9 13 x) (aS A 12 4 x) := by
  obtain ⟨h1, h2, h3, h4, h5, h6, h7, h8, h9, h10⟩ := h
  refine ⟨fun v hv => ?_, ?_, ?_, fun b' hb' => ?_, fun v hv => ?_, fun g hg => ?_, fun g i hg hi => ?_, ?_, fun k hk => ?_, fun v hv => ?_⟩
  · have w := h1 v hv
    simpa (disch := decide) only [aS_1, aS_2, st2k] using w
  · have w := h2
    rw [st_ne (by decide)]
    simpa (disch := decide) only [aS_1, aS_2, st2k] using w
  · have w := h3
    rw [st_ne (by decide)]
    simpa (disch := decide) only [aS_1, aS_2, st2k] using w
  · have w := h4 b' hb'
    simpa (disch := decide) only [aS_1, aS_2, st2k] using w
  · have w := h5 v hv
    simpa (disch := decide) only [aS_1, aS_2, st2k] using w
  · have w := h6 g hg
    simpa (disch := decide) only [aS_1, aS_2, st2k] using w
  · have w := h7 g i hg (by simpa (disch := decide) only [aS_1, aS_2, st2k] using hi)
    simpa (disch := decide) only [aS_1, aS_2, st2k] using w
  · rw [aS_1]
    refine ⟨?_, ?_, ?_, ?_, ?_⟩
    · rw [st_ne (by decide), st_ne (by decide)]; exact h8.1
    · rw [st_ne (by decide), st_ne (by decide)]; exact h8.2.1
    · rw [st_ne (by decide), st_ne (by decide)]; exact h8.2.2.1
    · rw [st_ne (by decide), st_ne (by decide)]; exact h8.2.2.2.1
    · rw [st_eq rfl rfl, st_eq rfl rfl]
  · have w := h9 k hk
    simpa (disch := decide) only [aS_1, aS_2, st2k] using w
  · have w := h10 v hv
    simpa (disch := decide) only [aS_1, aS_2, st2k] using w
end RAS
