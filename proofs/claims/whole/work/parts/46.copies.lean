/-! the reference's copies -/
theorem X4_copy_sL {row : Nat → Int32} {s d n : Nat} (hs : s + n ≤ 233) (hd : d ≤ s) : ∀ (m k f : Nat) (row' : Nat → Int32), k + m = n → m < f → (∀ j, d ≤ j → j < d + k → row' j = row (s + (j - d))) → (∀ j, (j < d ∨ d + k ≤ j) → row' j = row j) → ∃ row'', fX4_copy_s_L3 f row' (nI s) (nI d) (nI n) (nI k) = some row'' ∧ (∀ j, d ≤ j → j < d + n → row'' j = row (s + (j - d))) ∧ ∀ j, (j < d ∨ d + n ≤ j) → row'' j = row j := by
  intro m
  induction m with
  | zero =>
    intro k f row' hk hf h1 h2
    obtain ⟨f, rfl⟩ : ∃ z, f = z + 1 := ⟨f - 1, by omega⟩
    have hk : k = n := by omega
    subst hk
    refine ⟨row', ?_, h1, h2⟩
    simp only [fX4_copy_s_L3]
    rw [if_pos (nI_le (Nat.le_refl _) (by omega))]
  | succ m ih =>
    intro k f row' hk hf h1 h2
    obtain ⟨f, rfl⟩ : ∃ z, f = z + 1 := ⟨f - 1, by omega⟩
    simp (disch := omega) only [fX4_copy_s_L3, nI_add, gl, gd_in, cl_nI]
    rw [if_neg (nI_ge (by omega) (by omega)), nI_1]
    refine ih (k + 1) f _ (by omega) (by omega) (fun j hj1 hj2 => ?_) (fun j hj => ?_)
    · by_cases e : j = d + k
      · rw [up_eq e, h2 _ (by omega), e]
        congr 1; omega
      · rw [up_ne e]; exact h1 j hj1 (by omega)
    · rw [up_ne (by omega)]; exact h2 j (by omega)
theorem X4_copy_s_spec (row : Nat → Int32) {s d n : Nat} (hs : s + n ≤ 233) (hd : d ≤ s) : ∃ row'', fX4_copy_s row (nI s) (nI d) (nI n) = some row'' ∧ (∀ j, d ≤ j → j < d + n → row'' j = row (s + (j - d))) ∧ ∀ j, (j < d ∨ d + n ≤ j) → row'' j = row j :=
  X4_copy_sL hs hd n 0 gFuel row (by omega) (by have := fuel_ge; omega) (fun j _ _ => by omega) (fun _ _ => rfl)
theorem X4_copy_s3262L {row : Nat → Int32} {s d n : Nat} (hs : s + n ≤ 3262) (hd : d ≤ s) : ∀ (m k f : Nat) (row' : Nat → Int32), k + m = n → m < f → (∀ j, d ≤ j → j < d + k → row' j = row (s + (j - d))) → (∀ j, (j < d ∨ d + k ≤ j) → row' j = row j) → ∃ row'', fX4_copy_s3262_L3 f row' (nI s) (nI d) (nI n) (nI k) = some row'' ∧ (∀ j, d ≤ j → j < d + n → row'' j = row (s + (j - d))) ∧ ∀ j, (j < d ∨ d + n ≤ j) → row'' j = row j := by
  intro m
  induction m with
  | zero =>
    intro k f row' hk hf h1 h2
    obtain ⟨f, rfl⟩ : ∃ z, f = z + 1 := ⟨f - 1, by omega⟩
    have hk : k = n := by omega
    subst hk
    refine ⟨row', ?_, h1, h2⟩
    simp only [fX4_copy_s3262_L3]
    rw [if_pos (nI_le (Nat.le_refl _) (by omega))]
  | succ m ih =>
    intro k f row' hk hf h1 h2
    obtain ⟨f, rfl⟩ : ∃ z, f = z + 1 := ⟨f - 1, by omega⟩
    simp (disch := omega) only [fX4_copy_s3262_L3, nI_add, gl, gd_in, cl_nI]
    rw [if_neg (nI_ge (by omega) (by omega)), nI_1]
    refine ih (k + 1) f _ (by omega) (by omega) (fun j hj1 hj2 => ?_) (fun j hj => ?_)
    · by_cases e : j = d + k
      · rw [up_eq e, h2 _ (by omega), e]
        congr 1; omega
      · rw [up_ne e]; exact h1 j hj1 (by omega)
    · rw [up_ne (by omega)]; exact h2 j (by omega)
theorem X4_copy_s3262_spec (row : Nat → Int32) {s d n : Nat} (hs : s + n ≤ 3262) (hd : d ≤ s) : ∃ row'', fX4_copy_s3262 row (nI s) (nI d) (nI n) = some row'' ∧ (∀ j, d ≤ j → j < d + n → row'' j = row (s + (j - d))) ∧ ∀ j, (j < d ∨ d + n ≤ j) → row'' j = row j :=
  X4_copy_s3262L hs hd n 0 gFuel row (by omega) (by have := fuel_ge; omega) (fun j _ _ => by omega) (fun _ _ => rfl)
theorem X4_copy_233_3262L {r0 r1 : Nat → Int32} {s d n : Nat} (hs : s + n ≤ 233) (hd : d + n ≤ 3262) : ∀ (m k f : Nat) (row' : Nat → Int32), k + m = n → m < f → (∀ j, d ≤ j → j < d + k → row' j = r0 (s + (j - d))) → (∀ j, (j < d ∨ d + k ≤ j) → row' j = r1 j) → ∃ row'', fX4_copy_233_3262_L3 f (r0, row') (nI s) (nI d) (nI n) (nI k) = some (r0, row'') ∧ (∀ j, d ≤ j → j < d + n → row'' j = r0 (s + (j - d))) ∧ ∀ j, (j < d ∨ d + n ≤ j) → row'' j = r1 j := by
  intro m
  induction m with
  | zero =>
    intro k f row' hk hf h1 h2
    obtain ⟨f, rfl⟩ : ∃ z, f = z + 1 := ⟨f - 1, by omega⟩
    have hk : k = n := by omega
    subst hk
    refine ⟨row', ?_, h1, h2⟩
    simp only [fX4_copy_233_3262_L3]
    rw [if_pos (nI_le (Nat.le_refl _) (by omega))]
  | succ m ih =>
    intro k f row' hk hf h1 h2
    obtain ⟨f, rfl⟩ : ∃ z, f = z + 1 := ⟨f - 1, by omega⟩
    simp (disch := omega) only [fX4_copy_233_3262_L3, nI_add, gl, gd_in, cl_nI]
    rw [if_neg (nI_ge (by omega) (by omega)), nI_1]
    refine ih (k + 1) f _ (by omega) (by omega) (fun j hj1 hj2 => ?_) (fun j hj => ?_)
    · by_cases e : j = d + k
      · rw [up_eq e, e]
        congr 1; omega
      · rw [up_ne e]; exact h1 j hj1 (by omega)
    · rw [up_ne (by omega)]; exact h2 j (by omega)
theorem X4_copy_233_3262_spec (r0 r1 : Nat → Int32) {s d n : Nat} (hs : s + n ≤ 233) (hd : d + n ≤ 3262) : ∃ row'', fX4_copy_233_3262 (r0, r1) (nI s) (nI d) (nI n) = some (r0, row'') ∧ (∀ j, d ≤ j → j < d + n → row'' j = r0 (s + (j - d))) ∧ ∀ j, (j < d ∨ d + n ≤ j) → row'' j = r1 j :=
  X4_copy_233_3262L hs hd n 0 gFuel r1 (by omega) (by have := fuel_ge; omega) (fun j _ _ => by omega) (fun _ _ => rfl)
theorem X4_copy_233_233L {r0 r1 : Nat → Int32} {s d n : Nat} (hs : s + n ≤ 233) (hd : d + n ≤ 233) : ∀ (m k f : Nat) (row' : Nat → Int32), k + m = n → m < f → (∀ j, d ≤ j → j < d + k → row' j = r0 (s + (j - d))) → (∀ j, (j < d ∨ d + k ≤ j) → row' j = r1 j) → ∃ row'', fX4_copy_233_233_L3 f (r0, row') (nI s) (nI d) (nI n) (nI k) = some (r0, row'') ∧ (∀ j, d ≤ j → j < d + n → row'' j = r0 (s + (j - d))) ∧ ∀ j, (j < d ∨ d + n ≤ j) → row'' j = r1 j := by
  intro m
  induction m with
  | zero =>
    intro k f row' hk hf h1 h2
    obtain ⟨f, rfl⟩ : ∃ z, f = z + 1 := ⟨f - 1, by omega⟩
    have hk : k = n := by omega
    subst hk
    refine ⟨row', ?_, h1, h2⟩
    simp only [fX4_copy_233_233_L3]
    rw [if_pos (nI_le (Nat.le_refl _) (by omega))]
  | succ m ih =>
    intro k f row' hk hf h1 h2
    obtain ⟨f, rfl⟩ : ∃ z, f = z + 1 := ⟨f - 1, by omega⟩
    simp (disch := omega) only [fX4_copy_233_233_L3, nI_add, gl, gd_in, cl_nI]
    rw [if_neg (nI_ge (by omega) (by omega)), nI_1]
    refine ih (k + 1) f _ (by omega) (by omega) (fun j hj1 hj2 => ?_) (fun j hj => ?_)
    · by_cases e : j = d + k
      · rw [up_eq e, e]
        congr 1; omega
      · rw [up_ne e]; exact h1 j hj1 (by omega)
    · rw [up_ne (by omega)]; exact h2 j (by omega)
theorem X4_copy_233_233_spec (r0 r1 : Nat → Int32) {s d n : Nat} (hs : s + n ≤ 233) (hd : d + n ≤ 233) : ∃ row'', fX4_copy_233_233 (r0, r1) (nI s) (nI d) (nI n) = some (r0, row'') ∧ (∀ j, d ≤ j → j < d + n → row'' j = r0 (s + (j - d))) ∧ ∀ j, (j < d ∨ d + n ≤ j) → row'' j = r1 j :=
  X4_copy_233_233L hs hd n 0 gFuel r1 (by omega) (by have := fuel_ge; omega) (fun j _ _ => by omega) (fun _ _ => rfl)
theorem X4_copy_3262_233L {r0 r1 : Nat → Int32} {s d n : Nat} (hs : s + n ≤ 3262) (hd : d + n ≤ 233) : ∀ (m k f : Nat) (row' : Nat → Int32), k + m = n → m < f → (∀ j, d ≤ j → j < d + k → row' j = r0 (s + (j - d))) → (∀ j, (j < d ∨ d + k ≤ j) → row' j = r1 j) → ∃ row'', fX4_copy_3262_233_L3 f (r0, row') (nI s) (nI d) (nI n) (nI k) = some (r0, row'') ∧ (∀ j, d ≤ j → j < d + n → row'' j = r0 (s + (j - d))) ∧ ∀ j, (j < d ∨ d + n ≤ j) → row'' j = r1 j := by
  intro m
  induction m with
  | zero =>
    intro k f row' hk hf h1 h2
    obtain ⟨f, rfl⟩ : ∃ z, f = z + 1 := ⟨f - 1, by omega⟩
    have hk : k = n := by omega
    subst hk
    refine ⟨row', ?_, h1, h2⟩
    simp only [fX4_copy_3262_233_L3]
    rw [if_pos (nI_le (Nat.le_refl _) (by omega))]
  | succ m ih =>
    intro k f row' hk hf h1 h2
    obtain ⟨f, rfl⟩ : ∃ z, f = z + 1 := ⟨f - 1, by omega⟩
    simp (disch := omega) only [fX4_copy_3262_233_L3, nI_add, gl, gd_in, cl_nI]
    rw [if_neg (nI_ge (by omega) (by omega)), nI_1]
    refine ih (k + 1) f _ (by omega) (by omega) (fun j hj1 hj2 => ?_) (fun j hj => ?_)
    · by_cases e : j = d + k
      · rw [up_eq e, e]
        congr 1; omega
      · rw [up_ne e]; exact h1 j hj1 (by omega)
    · rw [up_ne (by omega)]; exact h2 j (by omega)
theorem X4_copy_3262_233_spec (r0 r1 : Nat → Int32) {s d n : Nat} (hs : s + n ≤ 3262) (hd : d + n ≤ 233) : ∃ row'', fX4_copy_3262_233 (r0, r1) (nI s) (nI d) (nI n) = some (r0, row'') ∧ (∀ j, d ≤ j → j < d + n → row'' j = r0 (s + (j - d))) ∧ ∀ j, (j < d ∨ d + n ≤ j) → row'' j = r1 j :=
  X4_copy_3262_233L hs hd n 0 gFuel r1 (by omega) (by have := fuel_ge; omega) (fun j _ _ => by omega) (fun _ _ => rfl)
theorem X4_copy_233_466L {r0 r1 : Nat → Int32} {s d n : Nat} (hs : s + n ≤ 233) (hd : d + n ≤ 466) : ∀ (m k f : Nat) (row' : Nat → Int32), k + m = n → m < f → (∀ j, d ≤ j → j < d + k → row' j = r0 (s + (j - d))) → (∀ j, (j < d ∨ d + k ≤ j) → row' j = r1 j) → ∃ row'', fX4_copy_233_466_L3 f (r0, row') (nI s) (nI d) (nI n) (nI k) = some (r0, row'') ∧ (∀ j, d ≤ j → j < d + n → row'' j = r0 (s + (j - d))) ∧ ∀ j, (j < d ∨ d + n ≤ j) → row'' j = r1 j := by
  intro m
  induction m with
  | zero =>
    intro k f row' hk hf h1 h2
    obtain ⟨f, rfl⟩ : ∃ z, f = z + 1 := ⟨f - 1, by omega⟩
    have hk : k = n := by omega
    subst hk
    refine ⟨row', ?_, h1, h2⟩
    simp only [fX4_copy_233_466_L3]
    rw [if_pos (nI_le (Nat.le_refl _) (by omega))]
  | succ m ih =>
    intro k f row' hk hf h1 h2
    obtain ⟨f, rfl⟩ : ∃ z, f = z + 1 := ⟨f - 1, by omega⟩
    simp (disch := omega) only [fX4_copy_233_466_L3, nI_add, gl, gd_in, cl_nI]
    rw [if_neg (nI_ge (by omega) (by omega)), nI_1]
    refine ih (k + 1) f _ (by omega) (by omega) (fun j hj1 hj2 => ?_) (fun j hj => ?_)
    · by_cases e : j = d + k
      · rw [up_eq e, e]
        congr 1; omega
      · rw [up_ne e]; exact h1 j hj1 (by omega)
    · rw [up_ne (by omega)]; exact h2 j (by omega)
theorem X4_copy_233_466_spec (r0 r1 : Nat → Int32) {s d n : Nat} (hs : s + n ≤ 233) (hd : d + n ≤ 466) : ∃ row'', fX4_copy_233_466 (r0, r1) (nI s) (nI d) (nI n) = some (r0, row'') ∧ (∀ j, d ≤ j → j < d + n → row'' j = r0 (s + (j - d))) ∧ ∀ j, (j < d ∨ d + n ≤ j) → row'' j = r1 j :=
  X4_copy_233_466L hs hd n 0 gFuel r1 (by omega) (by have := fuel_ge; omega) (fun j _ _ => by omega) (fun _ _ => rfl)
theorem X4_copy_466_233L {r0 r1 : Nat → Int32} {s d n : Nat} (hs : s + n ≤ 466) (hd : d + n ≤ 233) : ∀ (m k f : Nat) (row' : Nat → Int32), k + m = n → m < f → (∀ j, d ≤ j → j < d + k → row' j = r0 (s + (j - d))) → (∀ j, (j < d ∨ d + k ≤ j) → row' j = r1 j) → ∃ row'', fX4_copy_466_233_L3 f (r0, row') (nI s) (nI d) (nI n) (nI k) = some (r0, row'') ∧ (∀ j, d ≤ j → j < d + n → row'' j = r0 (s + (j - d))) ∧ ∀ j, (j < d ∨ d + n ≤ j) → row'' j = r1 j := by
  intro m
  induction m with
  | zero =>
    intro k f row' hk hf h1 h2
    obtain ⟨f, rfl⟩ : ∃ z, f = z + 1 := ⟨f - 1, by omega⟩
    have hk : k = n := by omega
    subst hk
    refine ⟨row', ?_, h1, h2⟩
    simp only [fX4_copy_466_233_L3]
    rw [if_pos (nI_le (Nat.le_refl _) (by omega))]
  | succ m ih =>
    intro k f row' hk hf h1 h2
    obtain ⟨f, rfl⟩ : ∃ z, f = z + 1 := ⟨f - 1, by omega⟩
    simp (disch := omega) only [fX4_copy_466_233_L3, nI_add, gl, gd_in, cl_nI]
    rw [if_neg (nI_ge (by omega) (by omega)), nI_1]
    refine ih (k + 1) f _ (by omega) (by omega) (fun j hj1 hj2 => ?_) (fun j hj => ?_)
    · by_cases e : j = d + k
      · rw [up_eq e, e]
        congr 1; omega
      · rw [up_ne e]; exact h1 j hj1 (by omega)
    · rw [up_ne (by omega)]; exact h2 j (by omega)
theorem X4_copy_466_233_spec (r0 r1 : Nat → Int32) {s d n : Nat} (hs : s + n ≤ 466) (hd : d + n ≤ 233) : ∃ row'', fX4_copy_466_233 (r0, r1) (nI s) (nI d) (nI n) = some (r0, row'') ∧ (∀ j, d ≤ j → j < d + n → row'' j = r0 (s + (j - d))) ∧ ∀ j, (j < d ∨ d + n ≤ j) → row'' j = r1 j :=
  X4_copy_466_233L hs hd n 0 gFuel r1 (by omega) (by have := fuel_ge; omega) (fun j _ _ => by omega) (fun _ _ => rfl)
