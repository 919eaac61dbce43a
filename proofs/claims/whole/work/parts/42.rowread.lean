/-! the reference's reading methods over a row that shows A -/
section RR
variable {row : Nat → Int32} {A : AS}
theorem RB.bk (h : RB row A) {k b : Nat} (hk : k < 5) (hb : b < 20) : row (5 * b + k) = A.1 k b := h.1 k b hk hb
theorem RB.vs (h : RB row A) {k v : Nat} (hk : k < 4) (hv : v < 6) : row (100 + 4 * v + k) = A.1 (5 + k) v := h.2.1 k v hk hv
theorem bagL (h : RB row A) {v : Nat} (hv : v < 6) : ∀ (k b f : Nat), b + k = 20 → k < f → fX4_bag_L4 f row (nI v) (nI (fb_ct (holds A v) b)) (nI b) = some (nI (bagN A v), row) := by
  intro k
  induction k with
  | zero =>
    intro b f hb hf
    obtain ⟨f, rfl⟩ : ∃ z, f = z + 1 := ⟨f - 1, by omega⟩
    have : b = 20 := by omega
    subst this
    simp (disch := omega) only [fX4_bag_L4, lel_3, lel_6, lel_10, lel_20, lel_120, lel_233]
    rw [if_pos (Nat.le_refl 20)]
    rfl
  | succ k ih =>
    intro b f hb hf
    obtain ⟨f, rfl⟩ : ∃ z, f = z + 1 := ⟨f - 1, by omega⟩
    simp (disch := omega) only [fX4_bag_L4, lel_3, lel_6, lel_10, lel_20, lel_120, lel_233, bookAt_0, visitorAt_0, gateAt_0, bookAt_1, visitorAt_1, gateAt_1, bookAt_2, visitorAt_2, gateAt_2, bookAt_3, visitorAt_3, gateAt_3, bookAt_4, visitorAt_4, gateAt_4, gl, Option.bind_some, gd_in, cl_nI]
    rw [if_neg (by omega), h.bk (by omega) (by omega), nI_1]
    have hn := ih (b + 1) f (by omega) (by omega)
    rw [fb_ct_succ] at hn
    by_cases e : A.1 0 b = nI (v + 1)
    · rw [if_pos e, nI_1, nI_1]
      have : holds A v b = true := decide_eq_true e
      rw [this] at hn
      exact hn
    · rw [if_neg e, nI_p0, nI_1]
      have : holds A v b = false := decide_eq_false e
      rw [this] at hn
      exact hn
theorem bag_spec (h : RB row A) {v : Nat} (hv : v < 6) : fX4_bag row (nI v) = some (nI (bagN A v), row) := bagL h hv 20 0 gFuel rfl (by decide)
theorem isInside_spec (h : RB row A) {v : Nat} (hv : v < 6) : fX4_isInside row (nI v) = some (bI (decide (A.1 5 v = 0)), row) := by
  simp (disch := omega) only [fX4_isInside, bookAt_0, visitorAt_0, gateAt_0, bookAt_1, visitorAt_1, gateAt_1, bookAt_2, visitorAt_2, gateAt_2, bookAt_3, visitorAt_3, gateAt_3, bookAt_4, visitorAt_4, gateAt_4, gl, Option.bind_some, gd_in, cl_nI]
  rw [h.vs (by omega) hv]
  by_cases e : A.1 5 v = 0
  · rw [if_pos e, decide_eq_true e]; rfl
  · rw [if_neg e, decide_eq_false e]; rfl
theorem isAtGate_spec (h : RB row A) {v : Nat} (hv : v < 6) : fX4_isAtGate row (nI v) = some (bI (decide (A.1 5 v = 1)), row) := by
  simp (disch := omega) only [fX4_isAtGate, bookAt_0, visitorAt_0, gateAt_0, bookAt_1, visitorAt_1, gateAt_1, bookAt_2, visitorAt_2, gateAt_2, bookAt_3, visitorAt_3, gateAt_3, bookAt_4, visitorAt_4, gateAt_4, gl, Option.bind_some, gd_in, cl_nI]
  rw [h.vs (by omega) hv]
  by_cases e : A.1 5 v = 1
  · rw [if_pos e, decide_eq_true e]; rfl
  · rw [if_neg e, decide_eq_false e]; rfl
end RR
def aBookIn (A : AS) (b : Nat) : Bool := decide (A.1 0 b = 0) || decide (A.1 5 (aHolder A b) = 0)
section RR2
variable {row : Nat → Int32} {A : AS} {T : Nat}
theorem isBookInside_spec (h : RB row A) (hI : Inv T A) {b : Nat} (hb : b < 20) : fX4_isBookInside row (nI b) = some (bI (aBookIn A b), row) := by
  simp (disch := omega) only [fX4_isBookInside, bookAt_0, visitorAt_0, gateAt_0, bookAt_1, visitorAt_1, gateAt_1, bookAt_2, visitorAt_2, gateAt_2, bookAt_3, visitorAt_3, gateAt_3, bookAt_4, visitorAt_4, gateAt_4, gl, Option.bind_some, gd_in, cl_nI]
  rw [h.bk (by omega) hb]
  rcases hold_cases hI hb with ⟨e, -⟩ | ⟨v, hv, e, e1, e2, e3, -⟩
  · rw [e, if_pos (by decide)]
    simp [aBookIn, e]; rfl
  · rw [e1, if_neg (neg_nI (by omega)), isInside_spec h hv]
    simp only [Option.bind_some, aBookIn, e2, e3, decide_false, Bool.false_or]
    by_cases q : A.1 5 v = 0
    · simp [q, bI]
    · simp [q, bI]
theorem reads33_spec (h : RB row A) {g v : Nat} (hg : g < 3) (hv : v < 6) (x y : Int32) : fX4_reads_L33 row (nI g) (nI v) x 2 y = some (bI (decide (A.1 5 v = 1) && (decide (-1 ≤ x.toInt ∧ x.toInt ≤ 1) && !decide ((if x = 0 then A.1 9 g else A.1 9 g / 2) < 2 * y + nI (bagN A v)))), row) := by
  unfold fX4_reads_L33
  rw [bag_spec h hv]
  simp (disch := omega) only [bookAt_0, visitorAt_0, gateAt_0, bookAt_1, visitorAt_1, gateAt_1, bookAt_2, visitorAt_2, gateAt_2, bookAt_3, visitorAt_3, gateAt_3, bookAt_4, visitorAt_4, gateAt_4, gl, Option.bind_some, gd_in, cl_nI]
  rw [(h.2.2.1 g hg).1, h.vs (by omega) hv, inI_spec x (-1) 1 (-1) 1 (by decide) (by decide)]
  by_cases e : A.1 5 v = 1
  · simp only [show (5 + 0) = 5 from rfl, e, if_true, Option.bind_some, bI_0, decide_true, Bool.true_and]
    by_cases e2 : -1 ≤ x.toInt ∧ x.toInt ≤ 1
    · simp only [e2, decide_true, and_self, Bool.true_and, Bool.true_eq_false, if_false]
      by_cases e3 : x = 0
      · simp only [e3, if_true]
        by_cases e4 : A.1 9 g < 2 * y + nI (bagN A v)
        · simp [e4, bI]
        · simp [e4, bI]
      · simp only [e3, if_false]
        by_cases e4 : A.1 9 g / 2 < 2 * y + nI (bagN A v)
        · simp [e4, bI]
        · simp [e4, bI]
    · simp only [e2, decide_false, Bool.false_and, if_true]; rfl
  · simp only [show (5 + 0) = 5 from rfl, e, if_false, decide_false, Bool.false_and]; rfl
theorem reads_spec (h : RB row A) {g v : Nat} (hg : g < 3) (hv : v < 6) : fX4_reads row (nI g) (nI v) = some (bI (aReads A g v), row) := by
  simp (disch := omega) only [fX4_reads, bookAt_0, visitorAt_0, gateAt_0, bookAt_1, visitorAt_1, gateAt_1, bookAt_2, visitorAt_2, gateAt_2, bookAt_3, visitorAt_3, gateAt_3, bookAt_4, visitorAt_4, gateAt_4, gl, Option.bind_some, gd_in, cl_nI]
  rw [h.vs (by omega) hv, h.vs (by omega) hv]
  simp only [show (5 + 1) = 6 from rfl, show (5 + 2) = 7 from rfl]
  unfold aReads aNear aNeeds
  by_cases e : 0 ≤ A.1 7 v
  · rw [if_pos e, reads33_spec h hg hv, if_pos e]
  · rw [if_neg e, reads33_spec h hg hv, if_neg e]
theorem readsBook_spec (h : RB row A) (hI : Inv T A) {g b : Nat} (hg : g < 3) (hb : b < 20) : fX4_readsBook row (nI g) (nI b) = some (bI (aReadsBook A g b), row) := by
  simp (disch := omega) only [fX4_readsBook, bookAt_0, visitorAt_0, gateAt_0, bookAt_1, visitorAt_1, gateAt_1, bookAt_2, visitorAt_2, gateAt_2, bookAt_3, visitorAt_3, gateAt_3, bookAt_4, visitorAt_4, gateAt_4, gl, Option.bind_some, gd_in, cl_nI]
  rw [h.bk (by omega) hb]
  rcases hold_cases hI hb with ⟨e, -⟩ | ⟨v, hv, e, e1, e2, e3, -⟩
  · rw [e, if_pos (by decide)]
    simp [aReadsBook, e]; rfl
  · rw [e1, if_neg (neg_nI (by omega)), reads_spec h hg hv]
    simp only [Option.bind_some, aReadsBook, e2, e3, decide_false, Bool.not_false, Bool.true_and]
    cases aReads A g v <;> simp [bI]
theorem borrowedL (h : RB row A) (hI : Inv T A) : ∀ (k b f : Nat), b + k = 20 → k < f → fX4_borrowed_L4 f row (nI (fb_ct (fun x => decide (A.1 1 x = 1)) b)) (nI b) = some (nI (fb_ct (fun x => decide (A.1 1 x = 1)) 20), row) := by
  intro k
  induction k with
  | zero =>
    intro b f hb hf
    obtain ⟨f, rfl⟩ : ∃ z, f = z + 1 := ⟨f - 1, by omega⟩
    have : b = 20 := by omega
    subst this
    simp (disch := omega) only [fX4_borrowed_L4, lel_3, lel_6, lel_10, lel_20, lel_120, lel_233]
    rw [if_pos (Nat.le_refl 20)]
  | succ k ih =>
    intro b f hb hf
    obtain ⟨f, rfl⟩ : ∃ z, f = z + 1 := ⟨f - 1, by omega⟩
    simp (disch := omega) only [fX4_borrowed_L4, lel_3, lel_6, lel_10, lel_20, lel_120, lel_233, bookAt_0, visitorAt_0, gateAt_0, bookAt_1, visitorAt_1, gateAt_1, bookAt_2, visitorAt_2, gateAt_2, bookAt_3, visitorAt_3, gateAt_3, bookAt_4, visitorAt_4, gateAt_4, gl, Option.bind_some, gd_in, cl_nI]
    rw [if_neg (by omega), h.bk (by omega) (by omega), nI_1]
    have hn := ih (b + 1) f (by omega) (by omega)
    rw [fb_ct_succ] at hn
    rcases (hI.2.1 b (by omega)).1 with e | e
    · rw [e, nI_p0]
      have q : decide (A.1 1 b = 1) = false := by rw [e]; rfl
      rw [q] at hn
      exact hn
    · rw [e, nI_1]
      have q : decide (A.1 1 b = 1) = true := by rw [e]; rfl
      rw [q] at hn
      exact hn
def borN (A : AS) : Nat := fb_ct (fun x => decide (A.1 1 x = 1)) 20
theorem borrowed_spec (h : RB row A) (hI : Inv T A) : fX4_borrowed row = some (nI (borN A), row) := borrowedL h hI 20 0 gFuel rfl (by decide)
end RR2
