section TP
variable {T : Nat} {A : AS}
def Good (T : Nat) (A : AS) : Prop := Inv T A ∧ InvP A
theorem RB_agree {row row' : Nat → Int32} (h : RB row A) (hI : Inv T A) (f : ∀ j, j < 233 → row' j = row j) : RB row' A := by
  have hl := hI.ql
  obtain ⟨h1, h2, h3, h4, ⟨h5a, h5b, h5c, h5d, h5e⟩, h6, h7, h8⟩ := h
  refine ⟨fun k b hk hb => ?_, fun k v hk hv => ?_, fun g hg => ?_, fun g i hg hi => ?_, ⟨?_, ?_, ?_, ?_, ?_⟩, ?_, ?_, fun k hk => ?_⟩
  · rw [f _ (by omega)]; exact h1 k b hk hb
  · rw [f _ (by omega)]; exact h2 k v hk hv
  · rw [f _ (by omega), f _ (by omega), f _ (by omega), f _ (by omega)]; exact h3 g hg
  · have := hI.qlen hg
    rw [f _ (by omega)]; exact h4 g i hg hi
  · rw [f _ (by omega)]; exact h5a
  · rw [f _ (by omega)]; exact h5b
  · rw [f _ (by omega)]; exact h5c
  · rw [f _ (by omega)]; exact h5d
  · rw [f _ (by omega)]; exact h5e
  · rw [f _ (by omega)]; exact h6
  · rw [f _ (by omega)]; exact h7
  · rw [f _ (by omega), f _ (by omega), f _ (by omega)]; exact h8 k hk
/-- the remembered states: count, order, libraries on one side, the diary's rows on the other -/
def Rem (T n : Nat) (ρ : Nat → Nat) (κ : Nat → gS) (di : Nat → Int32) (Ar : Nat → AS) : Prop :=
  n ≤ 14 ∧ (∀ i, i < 14 → ρ i < 14) ∧ (∀ i j, i < 14 → j < 14 → ρ i = ρ j → i = j) ∧ ∀ i, i < n → Good T (Ar i) ∧ RA (κ (ρ i)) (Ar i) ∧ RB (fun j => di (233 * i + j)) (Ar i)
theorem kUp_eq (κ : Nat → gS) (q : Nat) (x : gS) : kUp κ q x q = x := by unfold kUp; rw [if_pos rfl]
theorem kUp_ne {κ : Nat → gS} {q j : Nat} {x : gS} (h : j ≠ q) : kUp κ q x j = κ j := by unfold kUp; rw [if_neg h]
theorem nUp_eq (ρ : Nat → Nat) (q x : Nat) : nUp ρ q x q = x := by unfold nUp; rw [if_pos rfl]
theorem nUp_ne {ρ : Nat → Nat} {q j x : Nat} (h : j ≠ q) : nUp ρ q x j = ρ j := by unfold nUp; rw [if_neg h]
/-- the class's oldest state makes room: the order turns by one -/
theorem oldestL : ∀ (m i f : Nat) (σ : ST) (q : Nat) (ρ0 : Nat → Nat), i + m = 14 → 1 ≤ i → m < f → q < 14 → (∀ j, j < 14 → ρ0 j < 14) → (∀ j, σ.2.2.2.2.2 j = if j + 1 < i then ρ0 (j + 1) else ρ0 j) → ∃ σ', fX3_forgetOldest_L9 f σ q (nI i) = some σ' ∧ (σ'.1 = st2 σ.1 0 4 13 ∧ σ'.2.1 = σ.2.1 ∧ σ'.2.2.1 = σ.2.2.1 ∧ σ'.2.2.2.1 = σ.2.2.2.1 ∧ σ'.2.2.2.2.1 = σ.2.2.2.2.1 ∧ ∀ j, j < 14 → σ'.2.2.2.2.2 j = if j < 13 then ρ0 (j + 1) else q) := by
  intro m
  induction m with
  | zero =>
    intro i f σ q ρ0 hi h1 hf hq hr hs
    obtain ⟨f, rfl⟩ : ∃ z, f = z + 1 := ⟨f - 1, by omega⟩
    have : i = 14 := by omega
    subst this
    simp only [fX3_forgetOldest_L9]
    rw [if_pos (by decide), gd_t (by omega), gd_t (by decide)]
    simp only [gl]
    refine ⟨_, rfl, rfl, rfl, rfl, rfl, rfl, fun j hj => ?_⟩
    show nUp σ.2.2.2.2.2 13 q j = _
    by_cases e : j = 13
    · subst e; rw [nUp_eq, if_neg (by decide)]
    · rw [nUp_ne e, hs j, if_pos (by omega), if_pos (by omega)]
  | succ m ih =>
    intro i f σ q ρ0 hi h1 hf hq hr hs
    obtain ⟨f, rfl⟩ : ∃ z, f = z + 1 := ⟨f - 1, by omega⟩
    simp only [fX3_forgetOldest_L9]
    have c1 : ¬ (14 : Int32) ≤ nI i := fun z => by
      have := (le_nI (a := 14) (b := i) (by omega) (by omega)).mp z
      omega
    have e1 : nI i - 1 = nI (i - 1) := sub_nI (b := 1) h1
    have hrho : σ.2.2.2.2.2 i = ρ0 i := by rw [hs i, if_neg (by omega)]
    rw [if_neg c1, gd_in (by omega) (by decide)]
    simp (disch := omega) only [gl, e1, cl_nI, nI_1]
    rw [hrho, gd_t (show ρ0 i < 16 by have := hr i (by omega); omega), gd_in (by omega) (by decide)]
    obtain ⟨σ', k1, k2⟩ := ih (i + 1) f (σ.1, σ.2.1, σ.2.2.1, σ.2.2.2.1, σ.2.2.2.2.1, nUp σ.2.2.2.2.2 (i - 1) (ρ0 i)) q ρ0 (by omega) (by omega) (by omega) hq hr (fun j => by
      show nUp σ.2.2.2.2.2 (i - 1) (ρ0 i) j = _
      by_cases e : j = i - 1
      · rw [e, nUp_eq, if_pos (by omega), show i - 1 + 1 = i by omega]
      · rw [nUp_ne e, hs j]
        by_cases c : j + 1 < i
        · rw [if_pos c, if_pos (by omega)]
        · rw [if_neg c, if_neg (by omega)])
    exact ⟨σ', k1, k2⟩
theorem oldest_s (σ : ST) (hr : ∀ j, j < 14 → σ.2.2.2.2.2 j < 14) : ∃ σ', fX3_forgetOldest σ = some σ' ∧ (σ'.1 = st2 σ.1 0 4 13 ∧ σ'.2.1 = σ.2.1 ∧ σ'.2.2.1 = σ.2.2.1 ∧ σ'.2.2.2.1 = σ.2.2.2.1 ∧ σ'.2.2.2.2.1 = σ.2.2.2.2.1 ∧ ∀ j, j < 14 → σ'.2.2.2.2.2 j = if j < 13 then σ.2.2.2.2.2 (j + 1) else σ.2.2.2.2.2 0) := by
  obtain ⟨σ', k1, k2⟩ := oldestL 13 1 gFuel σ (σ.2.2.2.2.2 0) σ.2.2.2.2.2 rfl (by omega) (by decide) (hr 0 (by omega)) hr (fun j => by rw [if_neg (by omega)])
  refine ⟨σ', ?_, k2⟩
  unfold fX3_forgetOldest
  rw [gd_t (by decide)]
  simp only [gl]
  rw [cl_0]
  exact k1
end TP
