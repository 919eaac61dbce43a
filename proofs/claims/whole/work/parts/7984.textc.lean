section TX
/-! THE TEXT: one parser over the characters c 0 .. c (len - 1). .inl e: the error's place; .inr (value, place behind) -/
abbrev PR (α : Type) : Type := Nat ⊕ (α × Nat)
def pB {α β : Type} (x : PR α) (f : α → Nat → PR β) : PR β := match x with
  | .inl e => .inl e
  | .inr (a, p) => f a p
theorem pB_l {α β : Type} {x : PR α} {f : α → Nat → PR β} {e : Nat} (h : x = .inl e) : pB x f = .inl e := by subst h; rfl
theorem pB_r {α β : Type} {x : PR α} {f : α → Nat → PR β} {a : α} {p : Nat} (h : x = .inr (a, p)) : pB x f = f a p := by subst h; rfl
def pS (c : Nat → Nat) (len lo hi p : Nat) : PR Nat := if p < len ∧ lo ≤ c p ∧ c p ≤ hi then .inr (c p, p + 1) else .inl p
def pD (c : Nat → Nat) (len lo hi p : Nat) : PR Nat := if p < len ∧ 48 + lo ≤ c p ∧ c p ≤ 48 + hi then .inr (c p - 48, p + 1) else .inl p
def pT (c : Nat → Nat) (len most p : Nat) : PR Nat := pB (pD c len 0 (most / 10) p) fun t q => pB (pD c len 0 (if t < most / 10 then 9 else most % 10) q) fun u z => .inr (10 * t + u, z)
/-- a command: its letter, two numbers -/
abbrev Cm : Type := Nat × Nat × Nat
def pC (c : Nat → Nat) (len p : Nat) : PR Cm :=
  if p < len then
    (if c p = 116 then pB (pD c len 0 5 (p + 1)) fun v q => pB (pT c len 19 q) fun b z => .inr ((116, v, b), z)
    else if c p = 112 then pB (pT c len 19 (p + 1)) fun b z => .inr ((112, 0, b), z)
    else if c p = 98 then pB (pT c len 19 (p + 1)) fun b z => .inr ((98, 0, b), z)
    else if c p = 111 then pB (pD c len 0 5 (p + 1)) fun v q => pB (pD c len 0 2 q) fun g z => .inr ((111, v, g), z)
    else if c p = 105 then pB (pD c len 0 5 (p + 1)) fun v q => pB (pD c len 0 2 q) fun g z => .inr ((105, v, g), z)
    else if c p = 114 then pB (pD c len 0 5 (p + 1)) fun v z => .inr ((114, v, 0), z)
    else if c p = 110 then pB (pD c len 1 9 (p + 1)) fun n z => .inr ((110, n, 0), z)
    else .inl p)
  else .inl p
/-- the header: three strengths, sureness, quiet time -/
abbrev Hd : Type := (Nat × Nat × Nat) × Nat × Nat
def pH (c : Nat → Nat) (len : Nat) : PR Hd :=
  pB (pS c len 76 76 0) fun _ p0 => pB (pT c len 15 p0) fun s0 p1 => pB (pT c len 15 p1) fun s1 p2 => pB (pT c len 15 p2) fun s2 p3 => pB (pD c len 1 3 p3) fun su p4 => pB (pD c len 0 9 p4) fun ca p5 => .inr (((s0, s1, s2), su, ca), p5)
variable {c : Nat → Nat} {len p : Nat} {t t' : gS}
/-- the class's text at the place p -/
def TC (c : Nat → Nat) (len : Nat) (t : gS) (p : Nat) : Prop := t 0 1 = nI len ∧ t 0 2 = nI p ∧ p ≤ len ∧ ∀ i, i < len → t 1 i = nI (c i)
/-- what a reading method of the class did -/
def CO {α : Type} (c : Nat → Nat) (len : Nat) (x : Option (Int32 × gS)) (y : PR α) (V : α → Nat → gS → Prop) : Prop := (∃ e t', y = .inl e ∧ x = some (0, t') ∧ TC c len t' e) ∨ (∃ a z t', y = .inr (a, z) ∧ x = some (1, t') ∧ TC c len t' z ∧ V a z t')
def FR (w : Nat) (t t' : gS) : Prop := (∀ j, j ≠ 2 → j ≠ 3 → j ≠ w → t' 0 j = t 0 j) ∧ t' 2 = t 2
theorem TC_st (h : TC c len t p) {j : Nat} (h1 : j ≠ 1) (h2 : j ≠ 2) (x : Int32) : TC c len (st2 t 0 j x) p := by
  obtain ⟨a, b, d, e⟩ := h
  exact ⟨by rw [st_ne (by omega)]; exact a, by rw [st_ne (by omega)]; exact b, d, fun i hi => by rw [st_ne (by omega)]; exact e i hi⟩
theorem TC_go (h : TC c len t p) (hp : p < len) : TC c len (st2 t 0 2 (nI (p + 1))) (p + 1) := by
  obtain ⟨a, b, d, e⟩ := h
  exact ⟨by rw [st_ne (by omega)]; exact a, st_eq rfl rfl, hp, fun i hi => by rw [st_ne (by omega)]; exact e i hi⟩
theorem cSg (hl : len ≤ 120) (hc : ∀ i, i < len → c i ≤ 255) (h : TC c len t p) {lo hi : Nat} (h1 : lo ≤ 255) (h2 : hi ≤ 255) : CO c len (fX2_readSign t (nI lo) (nI hi)) (pS c len lo hi p) (fun a z t' => lo ≤ a ∧ a ≤ hi ∧ p < len ∧ c p = a ∧ z = p + 1 ∧ t' 0 7 = nI a ∧ FR 7 t t') := by
  obtain ⟨a1, a2, a3, a4⟩ := id h
  unfold fX2_readSign
  rw [a2, a1, if_neg (neg_nI (by omega))]
  by_cases hp : p < len
  · have hcp := hc p hp
    rw [if_pos ((lt_nI (by omega) (by omega)).mpr hp), gd_in (by omega) (by decide)]
    simp (disch := omega) only [cl_nI, gl]
    rw [a4 p hp]
    by_cases a : c p < lo
    · rw [if_pos ((lt_nI (by omega) (by omega)).mpr a)]
      exact Or.inl ⟨p, t, if_neg (by omega), rfl, h⟩
    · rw [if_neg (fun z => a ((lt_nI (by omega) (by omega)).mp z))]
      by_cases b : c p ≤ hi
      · rw [if_pos ((le_nI (by omega) (by omega)).mpr b)]
        have e2 : st2 t 0 7 (nI (c p)) 0 2 = nI p := by rw [st_ne (by omega)]; exact a2
        rw [e2, nI_1]
        refine Or.inr ⟨c p, p + 1, _, if_pos ⟨hp, by omega, b⟩, rfl, TC_go (TC_st h (by decide) (by decide) _) hp, by omega, b, hp, rfl, rfl, ?_, fun j x y z => ?_, ?_⟩
        · rw [st_ne (by decide), st_eq rfl rfl]
        · rw [st_ne (by omega), st_ne (by omega)]
        · funext j; rw [st_ne (by omega), st_ne (by omega)]
      · rw [if_neg (fun z => b ((le_nI (by omega) (by omega)).mp z))]
        exact Or.inl ⟨p, t, if_neg (by omega), rfl, h⟩
  · rw [if_neg (fun z => hp ((lt_nI (by omega) (by omega)).mp z))]
    exact Or.inl ⟨p, t, if_neg (by omega), rfl, h⟩
theorem cDg (hl : len ≤ 120) (hc : ∀ i, i < len → c i ≤ 255) (h : TC c len t p) {lo hi : Nat} (h1 : lo ≤ 9) (h2 : hi ≤ 9) : CO c len (fX2_readDigit t (nI lo) (nI hi)) (pD c len lo hi p) (fun d z t' => lo ≤ d ∧ d ≤ hi ∧ z = p + 1 ∧ t' 0 3 = nI d ∧ FR 2 t t') := by
  obtain ⟨a1, a2, a3, a4⟩ := id h
  unfold fX2_readDigit
  rw [a2, a1, if_neg (neg_nI (by omega))]
  by_cases hp : p < len
  · have hcp := hc p hp
    rw [if_pos ((lt_nI (by omega) (by omega)).mpr hp), gd_in (by omega) (by decide)]
    simp (disch := omega) only [cl_nI, gl]
    rw [a4 p hp]
    have i1 : (nI (c p) - (48 : Int32)).toInt = (c p : Int) - 48 := pk_sub_toInt (b := 48) (by omega) (by omega)
    have lt1 : (nI (c p) - (48 : Int32)) < nI lo ↔ c p < 48 + lo := by rw [lt_int _ (by omega), i1]; omega
    have le1 : (nI (c p) - (48 : Int32)) ≤ nI hi ↔ c p ≤ 48 + hi := by
      rw [Int32.le_iff_toInt_le, i1, show (nI hi).toInt = (hi : Int) from Int32.toInt_ofNat_of_lt (by omega)]; omega
    by_cases a : c p < 48 + lo
    · rw [if_pos (lt1.mpr a)]
      exact Or.inl ⟨p, t, if_neg (by omega), rfl, h⟩
    · rw [if_neg (fun z => a (lt1.mp z))]
      by_cases b : c p ≤ 48 + hi
      · have ev : nI (c p) - (48 : Int32) = nI (c p - 48) := sub_nI (b := 48) (by omega)
        rw [if_pos (le1.mpr b), ev]
        have e2 : st2 t 0 3 (nI (c p - 48)) 0 2 = nI p := by rw [st_ne (by omega)]; exact a2
        rw [e2, nI_1]
        refine Or.inr ⟨c p - 48, p + 1, _, if_pos ⟨hp, by omega, b⟩, rfl, TC_go (TC_st h (by decide) (by decide) _) hp, by omega, by omega, rfl, ?_, fun j x y z => ?_, ?_⟩
        · rw [st_ne (by decide), st_eq rfl rfl]
        · rw [st_ne (by omega), st_ne (by omega)]
        · funext j; rw [st_ne (by omega), st_ne (by omega)]
      · rw [if_neg (fun z => b (le1.mp z))]
        exact Or.inl ⟨p, t, if_neg (by omega), rfl, h⟩
  · rw [if_neg (fun z => hp ((lt_nI (by omega) (by omega)).mp z))]
    exact Or.inl ⟨p, t, if_neg (by omega), rfl, h⟩
theorem FR_tr {w : Nat} {t0 : gS} (h1 : FR w t0 t) (h2 : FR w t t') : FR w t0 t' := ⟨fun j a b d => (h2.1 j a b d).trans (h1.1 j a b d), h2.2.trans h1.2⟩
theorem FR_w {w : Nat} {t0 : gS} (h : FR 2 t0 t) : FR w t0 t := ⟨fun j a b _ => h.1 j a b a, h.2⟩
theorem FR_st {w : Nat} {t0 : gS} (h : FR w t0 t) (x : Int32) : FR w t0 (st2 t 0 w x) := ⟨fun j a b d => by rw [st_ne (by omega)]; exact h.1 j a b d, by rw [show (st2 t 0 w x) 2 = t 2 from funext fun j => st_ne (by omega)]; exact h.2⟩
theorem c38 (hl : len ≤ 120) (hc : ∀ i, i < len → c i ≤ 255) (h : TC c len t p) {d hi : Nat} (hd : d ≤ 9) (h2 : hi ≤ 9) : CO c len (fX2_readTwoDigits_L38 t (nI d) 0 (nI hi)) (pB (pD c len 0 hi p) fun u z => .inr (10 * d + u, z)) (fun v z t' => v ≤ 10 * d + hi ∧ z = p + 1 ∧ t' 0 3 = nI v ∧ FR 2 t t') := by
  unfold fX2_readTwoDigits_L38
  have hx := cDg hl hc h (lo := 0) (hi := hi) (by omega) h2
  rcases hx with ⟨e, t', k1, k2, k3⟩ | ⟨a, z, t', k1, k2, k3, k4, k5, k6, k7, k8⟩
  · rw [show fX2_readDigit t 0 (nI hi) = some (0, t') from k2, Option.bind_some, if_pos rfl]
    exact Or.inl ⟨e, t', pB_l k1, rfl, k3⟩
  · rw [show fX2_readDigit t 0 (nI hi) = some (1, t') from k2, Option.bind_some, if_neg (show ¬ (((1 : Int32), t') : Int32 × gS).1 = 0 by show ¬ (1 : Int32) = 0; decide)]
    simp only [gl]
    rw [k7, li_10, pk_mul, nI_add]
    exact Or.inr ⟨10 * d + a, z, _, pB_r k1, rfl, TC_st k3 (by decide) (by decide) _, by omega, k6, st_eq rfl rfl, fun j x y w => by rw [st_ne (by omega)]; exact k8.1 j x y w, by rw [show (st2 t' 0 3 (nI (10 * d + a))) 2 = t' 2 from funext fun j => st_ne (by omega)]; exact k8.2⟩
theorem cTw (hl : len ≤ 120) (hc : ∀ i, i < len → c i ≤ 255) (h : TC c len t p) {most : Nat} (hm : most < 100) : CO c len (fX2_readTwoDigits t (nI most)) (pT c len most p) (fun v z t' => v ≤ most ∧ p < z ∧ t' 0 3 = nI v ∧ FR 2 t t') := by
  unfold fX2_readTwoDigits pT
  have ed : nI most / (10 : Int32) = nI (most / 10) := pk_div (d := 10) (by omega) (by decide) (by decide)
  have er : nI most - nI (most / 10) * (10 : Int32) = nI (most % 10) := by
    rw [← ed]; exact pk_rem (d := 10) (by omega) (by decide) (by decide)
  rw [ed, er]
  have hx := cDg hl hc h (lo := 0) (hi := most / 10) (by omega) (by omega)
  rcases hx with ⟨e, t', k1, k2, k3⟩ | ⟨a, z, t', k1, k2, k3, k4, k5, k6, k7, k8⟩
  · rw [show fX2_readDigit t 0 (nI (most / 10)) = some (0, t') from k2, Option.bind_some, if_pos rfl]
    exact Or.inl ⟨e, t', pB_l k1, rfl, k3⟩
  · rw [show fX2_readDigit t 0 (nI (most / 10)) = some (1, t') from k2, Option.bind_some, if_neg (show ¬ (((1 : Int32), t') : Int32 × gS).1 = 0 by show ¬ (1 : Int32) = 0; decide)]
    rw [gl_to (show t' 0 3 = nI a from k7)]
    simp only [gl]
    have fin : ∀ hi, hi ≤ 9 → 10 * a + hi ≤ most → CO c len (fX2_readTwoDigits_L38 t' (nI a) 0 (nI hi)) (pB (pD c len 0 hi z) fun u z => .inr (10 * a + u, z)) (fun v z t' => v ≤ most ∧ p < z ∧ t' 0 3 = nI v ∧ FR 2 t t') := fun hi hh hle => by
      rcases c38 hl hc k3 (d := a) (hi := hi) (by omega) hh with ⟨e, t2, j1, j2, j3⟩ | ⟨b, z2, t2, j1, j2, j3, j4, j5, j6, j7⟩
      · exact Or.inl ⟨e, t2, j1, j2, j3⟩
      · exact Or.inr ⟨b, z2, t2, j1, j2, j3, by omega, by omega, j6, FR_tr k8 j7⟩
    rw [pB_r k1]
    by_cases q : a < most / 10
    · rw [if_neg (fun z => by have := (le_nI (by omega) (by omega)).mp z; omega), if_pos q]
      exact fin 9 (by omega) (by omega)
    · rw [if_pos ((le_nI (by omega) (by omega)).mpr (by omega)), if_neg q]
      exact fin (most % 10) (by omega) (by omega)
/-- a number read goes to a field -/
theorem cW {α : Type} {x : Option (Int32 × gS)} {y : PR α} {V : α → Nat → gS → Prop} {w : Nat} (h1 : w ≠ 1) (h2 : w ≠ 2) (h : CO c len x y V) : CO c len (x.bind fun r1 => gl (r1.2 0 3) (fun t2 => gl (st2 r1.2 0 w t2) (fun u3 => gd (r1.1 = 0 ∨ r1.1 = 1) (some (r1.1, u3))))) y (fun a z t' => ∃ t0, V a z t0 ∧ t' = st2 t0 0 w (t0 0 3)) := by
  rcases h with ⟨e, t', k1, k2, k3⟩ | ⟨a, z, t', k1, k2, k3, k4⟩
  · subst k2
    exact Or.inl ⟨e, st2 t' 0 w (t' 0 3), k1, (gd_t (Or.inl rfl) _ : gd ((0 : Int32) = 0 ∨ (0 : Int32) = 1) (some ((0 : Int32), st2 t' 0 w (t' 0 3))) = _), TC_st k3 h1 h2 _⟩
  · subst k2
    exact Or.inr ⟨a, z, st2 t' 0 w (t' 0 3), k1, (gd_t (Or.inr rfl) _ : gd ((1 : Int32) = 0 ∨ (1 : Int32) = 1) (some ((1 : Int32), st2 t' 0 w (t' 0 3))) = _), TC_st k3 h1 h2 _, t', k4, rfl⟩
theorem CO_imp {α : Type} {x : Option (Int32 × gS)} {y : PR α} {V V' : α → Nat → gS → Prop} (h : CO c len x y V) (f : ∀ a z t', V a z t' → V' a z t') : CO c len x y V' := by
  rcases h with h | ⟨a, z, t', k1, k2, k3, k4⟩
  · exact Or.inl h
  · exact Or.inr ⟨a, z, t', k1, k2, k3, f a z t' k4⟩
theorem cVi (hl : len ≤ 120) (hc : ∀ i, i < len → c i ≤ 255) (h : TC c len t p) : CO c len (fX2_readVisitor t) (pD c len 0 5 p) (fun v z t' => v < 6 ∧ p < z ∧ t' 0 8 = nI v ∧ FR 8 t t') := by
  refine CO_imp (cW (w := 8) (by decide) (by decide) (cDg hl hc h (lo := 0) (hi := 5) (by decide) (by decide))) ?_
  rintro a z t' ⟨t0, ⟨_, k2, k3, k4, k5⟩, rfl⟩
  exact ⟨by omega, by omega, by rw [st_eq rfl rfl]; exact k4, FR_st (FR_w k5) _⟩
theorem cBk (hl : len ≤ 120) (hc : ∀ i, i < len → c i ≤ 255) (h : TC c len t p) : CO c len (fX2_readBook t) (pT c len 19 p) (fun v z t' => v < 20 ∧ p < z ∧ t' 0 9 = nI v ∧ FR 9 t t') := by
  refine CO_imp (cW (w := 9) (by decide) (by decide) (cTw hl hc h (most := 19) (by decide))) ?_
  rintro a z t' ⟨t0, ⟨k2, k3, k4, k5⟩, rfl⟩
  exact ⟨by omega, by omega, by rw [st_eq rfl rfl]; exact k4, FR_st (FR_w k5) _⟩
theorem cGt (hl : len ≤ 120) (hc : ∀ i, i < len → c i ≤ 255) (h : TC c len t p) : CO c len (fX2_readGate t) (pD c len 0 2 p) (fun v z t' => v < 3 ∧ p < z ∧ t' 0 10 = nI v ∧ FR 10 t t') := by
  refine CO_imp (cW (w := 10) (by decide) (by decide) (cDg hl hc h (lo := 0) (hi := 2) (by decide) (by decide))) ?_
  rintro a z t' ⟨t0, ⟨_, k2, k3, k4, k5⟩, rfl⟩
  exact ⟨by omega, by omega, by rw [st_eq rfl rfl]; exact k4, FR_st (FR_w k5) _⟩
theorem cTk (hl : len ≤ 120) (hc : ∀ i, i < len → c i ≤ 255) (h : TC c len t p) : CO c len (fX2_readTickCount t) (pD c len 1 9 p) (fun v z t' => 1 ≤ v ∧ v ≤ 9 ∧ p < z ∧ t' 0 11 = nI v ∧ FR 11 t t') := by
  refine CO_imp (cW (w := 11) (by decide) (by decide) (cDg hl hc h (lo := 1) (hi := 9) (by decide) (by decide))) ?_
  rintro a z t' ⟨t0, ⟨k1, k2, k3, k4, k5⟩, rfl⟩
  exact ⟨k1, k2, by omega, by rw [st_eq rfl rfl]; exact k4, FR_st (FR_w k5) _⟩
/-- the fields that a command was read into -/
def FLD (a : Cm) (t : gS) : Prop := t 0 7 = nI a.1 ∧ ((a.1 = 116 ∧ a.2.1 < 6 ∧ a.2.2 < 20 ∧ t 0 8 = nI a.2.1 ∧ t 0 9 = nI a.2.2) ∨ (a.1 = 112 ∧ a.2.2 < 20 ∧ t 0 9 = nI a.2.2) ∨ (a.1 = 98 ∧ a.2.2 < 20 ∧ t 0 9 = nI a.2.2) ∨ (a.1 = 111 ∧ a.2.1 < 6 ∧ a.2.2 < 3 ∧ t 0 8 = nI a.2.1 ∧ t 0 10 = nI a.2.2) ∨ (a.1 = 105 ∧ a.2.1 < 6 ∧ a.2.2 < 3 ∧ t 0 8 = nI a.2.1 ∧ t 0 10 = nI a.2.2) ∨ (a.1 = 114 ∧ a.2.1 < 6 ∧ t 0 8 = nI a.2.1) ∨ (a.1 = 110 ∧ 1 ≤ a.2.1 ∧ a.2.1 ≤ 9 ∧ t 0 11 = nI a.2.1))
theorem CO_gd {α : Type} {x : Option (Int32 × gS)} {y : PR α} {V : α → Nat → gS → Prop} (h : CO c len x y V) : CO c len (x.bind fun r4 => gd (r4.1 = 0 ∨ r4.1 = 1) (some (r4.1, r4.2))) y V := by
  rcases h with ⟨e, t', k1, k2, k3⟩ | ⟨a, z, t', k1, k2, k3, k4⟩
  · subst k2
    exact Or.inl ⟨e, t', k1, (gd_t (Or.inl rfl) _ : gd ((0 : Int32) = 0 ∨ (0 : Int32) = 1) (some ((0 : Int32), t')) = _), k3⟩
  · subst k2
    exact Or.inr ⟨a, z, t', k1, (gd_t (Or.inr rfl) _ : gd ((1 : Int32) = 0 ∨ (1 : Int32) = 1) (some ((1 : Int32), t')) = _), k3, k4⟩
theorem CO_map {α β : Type} {x : Option (Int32 × gS)} {y : PR α} {V : α → Nat → gS → Prop} {V' : β → Nat → gS → Prop} (g : α → β) (h : CO c len x y V) (f : ∀ a z t', V a z t' → V' (g a) z t') : CO c len x (pB y fun a z => .inr (g a, z)) V' := by
  rcases h with ⟨e, t', k1, k2, k3⟩ | ⟨a, z, t', k1, k2, k3, k4⟩
  · exact Or.inl ⟨e, t', pB_l k1, k2, k3⟩
  · exact Or.inr ⟨g a, z, t', pB_r k1, k2, k3, f a z t' k4⟩
/-- two numbers, one behind the other -/
theorem CO_two {α β γ : Type} {x : Option (Int32 × gS)} {y : PR α} {V : α → Nat → gS → Prop} {V' : γ → Nat → gS → Prop} {F : gS → Option (Int32 × gS)} {y2 : Nat → PR β} (g : α → β → γ) (h : CO c len x y V) (f : ∀ a z t', TC c len t' z → V a z t' → CO c len (F t') (y2 z) (fun b z2 t2 => V' (g a b) z2 t2)) : CO c len (x.bind fun r6 => if r6.1 = 0 then some ((0 : Int32), r6.2) else ((F r6.2).bind fun r7 => if r7.1 = 0 then some ((0 : Int32), r7.2) else some ((1 : Int32), r7.2))) (pB y fun a z => pB (y2 z) fun b z2 => .inr (g a b, z2)) V' := by
  rcases h with ⟨e, t', k1, k2, k3⟩ | ⟨a, z, t', k1, k2, k3, k4⟩
  · subst k2
    exact Or.inl ⟨e, t', pB_l k1, rfl, k3⟩
  · subst k2
    rcases f a z t' k3 k4 with ⟨e, t2, j1, j2, j3⟩ | ⟨b, z2, t2, j1, j2, j3, j4⟩
    · refine Or.inl ⟨e, t2, ?_, ?_, j3⟩
      · rw [pB_r k1, pB_l j1]
      · rw [Option.bind_some, if_neg (show ¬ (((1 : Int32), t') : Int32 × gS).1 = 0 by show ¬ (1 : Int32) = 0; decide)]
        simp only []
        rw [j2]; rfl
    · refine Or.inr ⟨g a b, z2, t2, ?_, ?_, j3, j4⟩
      · rw [pB_r k1, pB_r j1]
      · rw [Option.bind_some, if_neg (show ¬ (((1 : Int32), t') : Int32 × gS).1 = 0 by show ¬ (1 : Int32) = 0; decide)]
        simp only []
        rw [j2]; rfl
theorem cCm (hl : len ≤ 120) (hc : ∀ i, i < len → c i ≤ 255) (h : TC c len t p) : CO c len (fX2_readCommand t) (pC c len p) (fun a z t' => p < z ∧ FLD a t' ∧ ∀ j, 4 ≤ j → j ≤ 6 → t' 0 j = t 0 j) := by
  unfold fX2_readCommand
  rcases cSg hl hc h (lo := 97) (hi := 122) (by decide) (by decide) with ⟨e, t', k1, k2, k3⟩ | ⟨a, z, t', k1, k2, k3, k4, k5, k6, k7, k8, k9, k10⟩
  · rw [show fX2_readSign t 97 122 = some (0, t') from k2, Option.bind_some, if_pos rfl]
    refine Or.inl ⟨e, t', ?_, rfl, k3⟩
    unfold pS at k1
    unfold pC
    by_cases q : p < len
    · have hn : ¬ (97 ≤ c p ∧ c p ≤ 122) := fun z => by rw [if_pos ⟨q, z⟩] at k1; cases k1
      rw [if_neg (fun z => hn z.2)] at k1
      rw [if_pos q, if_neg (by omega), if_neg (by omega), if_neg (by omega), if_neg (by omega), if_neg (by omega), if_neg (by omega), if_neg (by omega)]
      cases k1; rfl
    · rw [if_neg (fun z => q z.1)] at k1
      rw [if_neg q]
      cases k1; rfl
  · subst k8
    rw [show fX2_readSign t 97 122 = some (1, t') from k2, Option.bind_some, if_neg (show ¬ (((1 : Int32), t') : Int32 × gS).1 = 0 by show ¬ (1 : Int32) = 0; decide)]
    rw [gl_to (show t' 0 7 = nI a from k9)]
    unfold pC
    rw [if_pos k6, k7]
    have f46 : ∀ j, 4 ≤ j → j ≤ 6 → t' 0 j = t 0 j := fun j x y => k10.1 j (by omega) (by omega) (by omega)
    have fk : ∀ {w : Nat} {t2 : gS}, FR w t' t2 → 8 ≤ w → t2 0 7 = nI a ∧ ∀ j, 4 ≤ j → j ≤ 6 → t2 0 j = t 0 j := fun {w t2} hf hw => ⟨(hf.1 7 (by decide) (by decide) (by omega)).trans k9, fun j x y => (hf.1 j (by omega) (by omega) (by omega)).trans (f46 j x y)⟩
    by_cases a1 : a = 98
    · subst a1
      rw [if_pos (show nI 98 = (98 : Int32) from rfl), if_neg (by decide), if_neg (by decide), if_pos rfl]
      refine CO_map (fun b => (98, 0, b)) (CO_gd (cBk hl hc k3)) ?_
      rintro b z2 t2 ⟨j1, j2, j3, j4⟩
      exact ⟨by omega, ⟨(fk j4 (by decide)).1, Or.inr (Or.inr (Or.inl ⟨rfl, j1, j3⟩))⟩, (fk j4 (by decide)).2⟩
    have n1 : ¬ nI a = (98 : Int32) := fun q => a1 ((nI_inj (b := 98) (by omega) (by decide)).mp q)
    by_cases a2 : a = 105
    · subst a2
      rw [if_neg n1, if_pos (show nI 105 = (105 : Int32) from rfl), if_neg (by decide), if_neg (by decide), if_neg (by decide), if_neg (by decide), if_pos rfl]
      refine CO_two (fun v g => (105, v, g)) (cVi hl hc k3) ?_
      rintro v z1 t1 hT ⟨i1, i2, i3, i4⟩
      refine CO_imp (cGt hl hc hT) ?_
      rintro g z2 t2 ⟨j1, j2, j3, j4⟩
      refine ⟨by omega, ⟨?_, Or.inr (Or.inr (Or.inr (Or.inr (Or.inl ⟨rfl, i1, j1, ?_, j3⟩))))⟩, fun j x y => ?_⟩
      · rw [j4.1 7 (by decide) (by decide) (by decide)]; exact (fk i4 (by decide)).1
      · rw [j4.1 8 (by decide) (by decide) (by decide)]; exact i3
      · rw [j4.1 j (by omega) (by omega) (by omega)]; exact (fk i4 (by decide)).2 j x y
    have n2 : ¬ nI a = (105 : Int32) := fun q => a2 ((nI_inj (b := 105) (by omega) (by decide)).mp q)
    by_cases a3 : a = 110
    · subst a3
      rw [if_neg n1, if_neg n2, if_pos (show nI 110 = (110 : Int32) from rfl), if_neg (by decide), if_neg (by decide), if_neg (by decide), if_neg (by decide), if_neg (by decide), if_neg (by decide), if_pos rfl]
      refine CO_map (fun b => (110, b, 0)) (CO_gd (cTk hl hc k3)) ?_
      rintro b z2 t2 ⟨j0, j1, j2, j3, j4⟩
      exact ⟨by omega, ⟨(fk j4 (by decide)).1, Or.inr (Or.inr (Or.inr (Or.inr (Or.inr (Or.inr ⟨rfl, j0, j1, j3⟩)))))⟩, (fk j4 (by decide)).2⟩
    have n3 : ¬ nI a = (110 : Int32) := fun q => a3 ((nI_inj (b := 110) (by omega) (by decide)).mp q)
    by_cases a4 : a = 111
    · subst a4
      rw [if_neg n1, if_neg n2, if_neg n3, if_pos (show nI 111 = (111 : Int32) from rfl), if_neg (by decide), if_neg (by decide), if_neg (by decide), if_pos rfl]
      refine CO_two (fun v g => (111, v, g)) (cVi hl hc k3) ?_
      rintro v z1 t1 hT ⟨i1, i2, i3, i4⟩
      refine CO_imp (cGt hl hc hT) ?_
      rintro g z2 t2 ⟨j1, j2, j3, j4⟩
      refine ⟨by omega, ⟨?_, Or.inr (Or.inr (Or.inr (Or.inl ⟨rfl, i1, j1, ?_, j3⟩)))⟩, fun j x y => ?_⟩
      · rw [j4.1 7 (by decide) (by decide) (by decide)]; exact (fk i4 (by decide)).1
      · rw [j4.1 8 (by decide) (by decide) (by decide)]; exact i3
      · rw [j4.1 j (by omega) (by omega) (by omega)]; exact (fk i4 (by decide)).2 j x y
    have n4 : ¬ nI a = (111 : Int32) := fun q => a4 ((nI_inj (b := 111) (by omega) (by decide)).mp q)
    by_cases a5 : a = 112
    · subst a5
      rw [if_neg n1, if_neg n2, if_neg n3, if_neg n4, if_pos (show nI 112 = (112 : Int32) from rfl), if_neg (by decide), if_pos rfl]
      refine CO_map (fun b => (112, 0, b)) (CO_gd (cBk hl hc k3)) ?_
      rintro b z2 t2 ⟨j1, j2, j3, j4⟩
      exact ⟨by omega, ⟨(fk j4 (by decide)).1, Or.inr (Or.inl ⟨rfl, j1, j3⟩)⟩, (fk j4 (by decide)).2⟩
    have n5 : ¬ nI a = (112 : Int32) := fun q => a5 ((nI_inj (b := 112) (by omega) (by decide)).mp q)
    by_cases a6 : a = 114
    · subst a6
      rw [if_neg n1, if_neg n2, if_neg n3, if_neg n4, if_neg n5, if_pos (show nI 114 = (114 : Int32) from rfl), if_neg (by decide), if_neg (by decide), if_neg (by decide), if_neg (by decide), if_neg (by decide), if_pos rfl]
      refine CO_map (fun b => (114, b, 0)) (CO_gd (cVi hl hc k3)) ?_
      rintro b z2 t2 ⟨j1, j2, j3, j4⟩
      exact ⟨by omega, ⟨(fk j4 (by decide)).1, Or.inr (Or.inr (Or.inr (Or.inr (Or.inr (Or.inl ⟨rfl, j1, j3⟩)))))⟩, (fk j4 (by decide)).2⟩
    have n6 : ¬ nI a = (114 : Int32) := fun q => a6 ((nI_inj (b := 114) (by omega) (by decide)).mp q)
    by_cases a7 : a = 116
    · subst a7
      rw [if_neg n1, if_neg n2, if_neg n3, if_neg n4, if_neg n5, if_neg n6, if_pos (show nI 116 = (116 : Int32) from rfl), if_pos rfl]
      refine CO_two (fun v g => (116, v, g)) (cVi hl hc k3) ?_
      rintro v z1 t1 hT ⟨i1, i2, i3, i4⟩
      refine CO_imp (cBk hl hc hT) ?_
      rintro g z2 t2 ⟨j1, j2, j3, j4⟩
      refine ⟨by omega, ⟨?_, Or.inl ⟨rfl, i1, j1, ?_, j3⟩⟩, fun j x y => ?_⟩
      · rw [j4.1 7 (by decide) (by decide) (by decide)]; exact (fk i4 (by decide)).1
      · rw [j4.1 8 (by decide) (by decide) (by decide)]; exact i3
      · rw [j4.1 j (by omega) (by omega) (by omega)]; exact (fk i4 (by decide)).2 j x y
    have n7 : ¬ nI a = (116 : Int32) := fun q => a7 ((nI_inj (b := 116) (by omega) (by decide)).mp q)
    rw [if_neg n1, if_neg n2, if_neg n3, if_neg n4, if_neg n5, if_neg n6, if_neg n7, if_neg a7, if_neg a5, if_neg a1, if_neg a4, if_neg a2, if_neg a6, if_neg a3]
    refine Or.inl ⟨p, _, rfl, rfl, ?_, ?_, by omega, fun i hi => ?_⟩
    · rw [st_ne (by decide)]; exact k3.1
    · rw [st_eq rfl rfl]
      show t' 0 2 - (1 : Int32) = nI p
      rw [k3.2.1]; exact (sub_nI (b := 1) (by omega)).trans (by rw [Nat.add_sub_cancel])
    · rw [st_ne (by omega)]; exact k3.2.2.2 i hi
end TX
