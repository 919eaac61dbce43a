/-! THE STATE in mathematical words: scalars A.1 kind index, waiting rows A.2.1 gate, the last shouts A.2.2.
kinds: 0 hold 1 borrowed 2 reads 3 told 4 cried (book); 5 where 6 at 7 place 8 out (visitor); 9 strength 10 quiet 11 cries (gate); 12: 0 sure 1 calm 2 ticks 3 caught 4 slipped -/
abbrev AS : Type := gS × (Nat → List Nat) × List (Int32 × Int32 × Int32)
def aS (A : AS) (k i : Nat) (x : Int32) : AS := (st2 A.1 k i x, A.2)
def aPush (A : AS) (g b : Nat) : AS := (A.1, (fun g' => if g' = g then A.2.1 g ++ [b] else A.2.1 g'), A.2.2)
def fr {α : Type} (f : α → Nat → α) : Nat → Nat → α → α
  | 0, _, a => a
  | k + 1, b, a => fr f k (b + 1) (f a b)
def holds (A : AS) (v b : Nat) : Bool := decide (A.1 0 b = nI (v + 1))
def bagN (A : AS) (v : Nat) : Nat := fb_ct (holds A v) 20
def aNeeds (A : AS) (v : Nat) : Int32 := 2 * (if 0 ≤ A.1 7 v then A.1 7 v else -(A.1 7 v)) + nI (bagN A v)
def aNear (A : AS) (g v : Nat) : Bool := decide (-1 ≤ (A.1 6 v - nI g).toInt ∧ (A.1 6 v - nI g).toInt ≤ 1)
def aReads (A : AS) (g v : Nat) : Bool := decide (A.1 5 v = 1) && (aNear A g v && !decide ((if A.1 6 v - nI g = 0 then A.1 9 g else A.1 9 g / 2) < aNeeds A v))
def aHolder (A : AS) (b : Nat) : Nat := (A.1 0 b - 1).toNatClampNeg
def aReadsBook (A : AS) (g b : Nat) : Bool := !decide (A.1 0 b = 0) && aReads A g (aHolder A b)
def aForget (A : AS) (b : Nat) : AS := (st2 (st2 A.1 2 b 0) 3 b 0, (fun g => (A.2.1 g).filter (fun x => x != b)), A.2.2)
def aArr (v : Nat) (out : Bool) (A : AS) (b : Nat) : AS := if holds A v b then (if out then (if A.1 1 b = 0 then (if A.1 3 b = 1 then aS A 12 3 (A.1 12 3 + 1) else aS (aS A 12 4 (A.1 12 4 + 1)) 13 b 1) else A) else aForget A b) else A
def aArrive (A : AS) (v : Nat) (out : Bool) : AS := fr (aArr v out) 20 0 (aS A 5 v (if out then 2 else 0))
def aStep (A : AS) (v : Nat) : AS := aS A 7 v (A.1 7 v + (if A.1 8 v = 1 then 1 else -1))
def aGoOn (A : AS) (v : Nat) : AS := if -3 ≤ ((aStep A v).1 7 v).toInt ∧ ((aStep A v).1 7 v).toInt ≤ 3 then aStep A v else aArrive (aStep A v) v (decide (A.1 8 v = 1))
def aMove (A : AS) (v : Nat) : AS := if A.1 5 v = 1 then aGoOn A v else A
def aCounts (A : AS) (b : Nat) : Bool := decide (A.1 1 b = 0) && (decide (A.1 3 b = 0) && decide (A.1 8 (aHolder A b) = 1))
def aReadAt (A : AS) (g b : Nat) : AS := if aCounts A b then (if A.1 2 b + 1 < A.1 12 0 then aS A 2 b (A.1 2 b + 1) else aPush (aS (aS A 2 b (A.1 2 b + 1)) 3 b 1) g b) else A
def aReadStep (g : Nat) (A : AS) (b : Nat) : AS := if aReadsBook A g b then aReadAt A g b else A
def aReadGate (A : AS) (g : Nat) : AS := fr (aReadStep g) 20 0 A
def aCry (A : AS) (g b : Nat) (r : List Nat) : AS := (st2 (st2 (st2 A.1 11 g (A.1 11 g + 1)) 4 b (A.1 4 b + 1)) 10 g (A.1 12 1), (fun g' => if g' = g then r else A.2.1 g'), (nI g, nI b, A.1 12 2) :: A.2.2.take 9)
def aSpeak (A : AS) (g : Nat) : AS := if A.1 10 g ≤ 0 then (match A.2.1 g with | [] => A | b :: r => aCry A g b r) else aS A 10 g (A.1 10 g - 1)
def aTick (A : AS) : AS := fr aSpeak 3 0 (fr aReadGate 3 0 (fr aMove 6 0 (aS A 12 2 (A.1 12 2 + 1))))
theorem aS_1 (A : AS) (k i : Nat) (x : Int32) : (aS A k i x).1 = st2 A.1 k i x := rfl
theorem aS_2 (A : AS) (k i : Nat) (x : Int32) : (aS A k i x).2 = A.2 := rfl
theorem aPush_1 (A : AS) (g b : Nat) : (aPush A g b).1 = A.1 := rfl
/-- the reference's row shows A -/
def RB (row : Nat → Int32) (A : AS) : Prop :=
  (∀ k b, k < 5 → b < 20 → row (5 * b + k) = A.1 k b) ∧
  (∀ k v, k < 4 → v < 6 → row (100 + 4 * v + k) = A.1 (5 + k) v) ∧
  (∀ g, g < 3 → row (124 + 4 * g + 0) = A.1 9 g ∧ row (124 + 4 * g + 1) = A.1 10 g ∧ row (124 + 4 * g + 2) = nI (A.2.1 g).length ∧ row (124 + 4 * g + 3) = A.1 11 g) ∧
  (∀ g i, g < 3 → i < (A.2.1 g).length → row (136 + 20 * g + i) = nI ((A.2.1 g).getD i 0)) ∧
  (row 196 = A.1 12 0 ∧ row 197 = A.1 12 1 ∧ row 198 = A.1 12 2 ∧ row 200 = A.1 12 3 ∧ row 201 = A.1 12 4) ∧
  row 199 = A.1 11 0 + A.1 11 1 + A.1 11 2 ∧
  row 202 = nI A.2.2.length ∧
  ∀ k, k < A.2.2.length → row (203 + 3 * k) = (A.2.2.getD k (0, 0, 0)).1 ∧ row (203 + 3 * k + 1) = (A.2.2.getD k (0, 0, 0)).2.1 ∧ row (203 + 3 * k + 2) = (A.2.2.getD k (0, 0, 0)).2.2
/-- what holds of the state at all times -/
def Inv (T : Nat) (A : AS) : Prop :=
  (∀ b, b < 20 → ∃ h, h ≤ 6 ∧ A.1 0 b = nI h) ∧
  (∀ b, b < 20 → (A.1 1 b = 0 ∨ A.1 1 b = 1) ∧ (A.1 3 b = 0 ∨ A.1 3 b = 1)) ∧
  (∀ v, v < 6 → (A.1 5 v = 0 ∨ A.1 5 v = 1 ∨ A.1 5 v = 2) ∧ (A.1 5 v = 1 → (∃ g, g < 3 ∧ A.1 6 v = nI g) ∧ (A.1 8 v = 0 ∨ A.1 8 v = 1))) ∧
  (∀ g x, g < 3 → x ∈ A.2.1 g → x < 20 ∧ A.1 3 x = 1) ∧
  (A.2.1 0 ++ (A.2.1 1 ++ A.2.1 2)).Nodup ∧
  A.2.2.length ≤ 10 ∧
  ∀ b, b < 20 → ∃ c, c ≤ T ∧ A.1 4 b = nI c
def InvP (A : AS) : Prop := ∀ v, v < 6 → A.1 5 v = 1 → -3 ≤ (A.1 7 v).toInt ∧ (A.1 7 v).toInt ≤ 3
theorem Inv.ql {T : Nat} {A : AS} (h : Inv T A) : A.2.2.length ≤ 10 := h.2.2.2.2.2.1
theorem hold_cases {T : Nat} {A : AS} (h : Inv T A) {b : Nat} (hb : b < 20) : (A.1 0 b = 0 ∧ ∀ v, v < 6 → holds A v b = false) ∨ ∃ v, v < 6 ∧ A.1 0 b = nI (v + 1) ∧ A.1 0 b - 1 = nI v ∧ aHolder A b = v ∧ ¬ A.1 0 b = 0 ∧ ∀ v', v' < 6 → holds A v' b = decide (v' = v) := by
  obtain ⟨k, hk, e⟩ := h.1 b hb
  cases k with
  | zero =>
    refine Or.inl ⟨e, fun v hv => decide_eq_false (fun q => ?_)⟩
    rw [e] at q
    have := (nI_inj (by omega) (by omega)).mp q
    omega
  | succ v =>
    refine Or.inr ⟨v, by omega, e, ?_, ?_, ?_, fun v' hv' => ?_⟩
    · rw [e, li_1, sub_nI (by omega)]; rfl
    · unfold aHolder; rw [e, li_1, sub_nI (by omega), cl_nI (by omega)]; rfl
    · rw [e, li_0, nI_inj (by omega) (by omega)]; omega
    · unfold holds
      rw [e]
      by_cases q : v' = v
      · subst q; simp
      · rw [decide_eq_false q, decide_eq_false (fun z => q ?_)]
        have := (nI_inj (by omega) (by omega)).mp z
        omega
theorem Inv.qlen {T : Nat} {A : AS} (h : Inv T A) {g : Nat} (hg : g < 3) : (A.2.1 g).length ≤ 20 := by
  have hn : (A.2.1 g).Nodup := by
    have := h.2.2.2.2.1
    rw [List.nodup_append] at this
    obtain ⟨h0, h12, -⟩ := this
    rw [List.nodup_append] at h12
    rcases (by omega : g = 0 ∨ g = 1 ∨ g = 2) with rfl | rfl | rfl
    · exact h0
    · exact h12.1
    · exact h12.2.1
  refine fb_holes 20 (A.2.1 g).length (fun i => (A.2.1 g).getD i 0) (fun i hi => ?_) (fun i j hij hj e => ?_)
  · have : (A.2.1 g).getD i 0 ∈ A.2.1 g := by
      rw [List.getD_eq_getElem?_getD, List.getElem?_eq_getElem hi]
      exact List.getElem_mem hi
    exact (h.2.2.2.1 g _ hg this).1
  · have hi : i < (A.2.1 g).length := by omega
    simp only [List.getD_eq_getElem?_getD, List.getElem?_eq_getElem hi, List.getElem?_eq_getElem hj, Option.getD_some] at e
    exact (List.pairwise_iff_getElem.mp hn) i j hi hj hij e
theorem Inv.qlt {T : Nat} {A : AS} (h : Inv T A) {g i : Nat} (hg : g < 3) (hi : i < (A.2.1 g).length) : (A.2.1 g).getD i 0 < 20 := by
  have : (A.2.1 g).getD i 0 ∈ A.2.1 g := by
    rw [List.getD_eq_getElem?_getD, List.getElem?_eq_getElem hi]
    exact List.getElem_mem hi
  exact (h.2.2.2.1 g _ hg this).1
section RBS
variable {row : Nat → Int32} {A : AS}
/-- one gate's row of waiting shouts is another -/
theorem RB_q {row' : Nat → Int32} (h : RB row A) (hq : ∀ g, g < 3 → (A.2.1 g).length ≤ 20) (hl : A.2.2.length ≤ 10) {g0 : Nat} (hg0 : g0 < 3) {q' : List Nat} (hq' : q'.length ≤ 20) (fr1 : ∀ j, j ≠ 124 + 4 * g0 + 2 → (j < 136 + 20 * g0 ∨ 156 + 20 * g0 ≤ j) → row' j = row j) (hw : row' (124 + 4 * g0 + 2) = nI q'.length) (hc : ∀ i, i < q'.length → row' (136 + 20 * g0 + i) = nI (q'.getD i 0)) : RB row' (A.1, (fun g => if g = g0 then q' else A.2.1 g), A.2.2) := by
  obtain ⟨h1, h2, h3, h4, ⟨h5a, h5b, h5c, h5d, h5e⟩, h6, h7, h8⟩ := h
  refine ⟨fun k' b' hk' hb' => ?_, fun k' v' hk' hv' => ?_, fun g hg => ?_, fun g i hg hi => ?_, ⟨?_, ?_, ?_, ?_, ?_⟩, ?_, ?_, fun j hj => ?_⟩
  · rw [fr1 _ (by omega) (by omega)]; exact h1 k' b' hk' hb'
  · rw [fr1 _ (by omega) (by omega)]; exact h2 k' v' hk' hv'
  · obtain ⟨t0, t1, t2, t3⟩ := h3 g hg
    refine ⟨?_, ?_, ?_, ?_⟩
    · rw [fr1 _ (by omega) (by omega)]; exact t0
    · rw [fr1 _ (by omega) (by omega)]; exact t1
    · by_cases e : g = g0
      · subst e; simp only [if_true]; exact hw
      · simp only [e, if_false]
        rw [fr1 _ (by omega) (by omega)]; exact t2
    · rw [fr1 _ (by omega) (by omega)]; exact t3
  · by_cases e : g = g0
    · subst e
      simp only [if_true] at hi ⊢
      exact hc i hi
    · simp only [e, if_false] at hi ⊢
      have := hq g hg
      rw [fr1 _ (by omega) (by omega)]; exact h4 g i hg hi
  · rw [fr1 _ (by omega) (by omega)]; exact h5a
  · rw [fr1 _ (by omega) (by omega)]; exact h5b
  · rw [fr1 _ (by omega) (by omega)]; exact h5c
  · rw [fr1 _ (by omega) (by omega)]; exact h5d
  · rw [fr1 _ (by omega) (by omega)]; exact h5e
  · rw [fr1 _ (by omega) (by omega)]; exact h6
  · rw [fr1 _ (by omega) (by omega)]; exact h7
  · have hj' : j < A.2.2.length := hj
    rw [fr1 _ (by omega) (by omega), fr1 _ (by omega) (by omega), fr1 _ (by omega) (by omega)]; exact h8 j hj
theorem RB_bk (h : RB row A) (hq : ∀ g, g < 3 → (A.2.1 g).length ≤ 20) (hl : A.2.2.length ≤ 10) {k b : Nat} (hk : k < 5) (hb : b < 20) (x : Int32) : RB (upd row (5 * b + k) x) (aS A k b x) := by
  obtain ⟨h1, h2, h3, h4, ⟨h5a, h5b, h5c, h5d, h5e⟩, h6, h7, h8⟩ := h
  have s : ∀ k' j', (aS A k b x).1 k' j' = st2 A.1 k b x k' j' := fun _ _ => rfl
  refine ⟨fun k' b' hk' hb' => ?_, fun k' v hk' hv => ?_, fun g hg => ?_, fun g i hg hi => ?_, ⟨?_, ?_, ?_, ?_, ?_⟩, ?_, ?_, fun j hj => ?_⟩
  · rw [s]
    by_cases e : 5 * b' + k' = 5 * b + k
    · rw [up_eq e, st_eq (by omega) (by omega)]
    · rw [up_ne e, st_ne (by omega), h1 k' b' hk' hb']
  · rw [s, up_ne (by omega), st_ne (by omega), h2 k' v hk' hv]
  · have := h3 g hg
    simp only [s]
    rw [up_ne (by omega), up_ne (by omega), up_ne (by omega), up_ne (by omega), st_ne (by omega), st_ne (by omega), st_ne (by omega)]
    exact this
  · have := hq g hg
    rw [up_ne (by show _ ≠ _; have hi' : i < (A.2.1 g).length := hi; omega)]
    exact h4 g i hg hi
  · rw [s, up_ne (by omega), st_ne (by omega), h5a]
  · rw [s, up_ne (by omega), st_ne (by omega), h5b]
  · rw [s, up_ne (by omega), st_ne (by omega), h5c]
  · rw [s, up_ne (by omega), st_ne (by omega), h5d]
  · rw [s, up_ne (by omega), st_ne (by omega), h5e]
  · rw [s, s, s, up_ne (by omega), st_ne (by omega), st_ne (by omega), st_ne (by omega), h6]
  · rw [up_ne (by omega)]; exact h7
  · have hj' : j < A.2.2.length := hj
    rw [up_ne (by omega), up_ne (by omega), up_ne (by omega)]; exact h8 j hj
theorem RB_vs (h : RB row A) (hq : ∀ g, g < 3 → (A.2.1 g).length ≤ 20) (hl : A.2.2.length ≤ 10) {k v : Nat} (hk : k < 4) (hv : v < 6) (x : Int32) : RB (upd row (100 + 4 * v + k) x) (aS A (5 + k) v x) := by
  obtain ⟨h1, h2, h3, h4, ⟨h5a, h5b, h5c, h5d, h5e⟩, h6, h7, h8⟩ := h
  have s : ∀ k' j', (aS A (5 + k) v x).1 k' j' = st2 A.1 (5 + k) v x k' j' := fun _ _ => rfl
  refine ⟨fun k' b' hk' hb' => ?_, fun k' v' hk' hv' => ?_, fun g hg => ?_, fun g i hg hi => ?_, ⟨?_, ?_, ?_, ?_, ?_⟩, ?_, ?_, fun j hj => ?_⟩
  · rw [s, up_ne (by omega), st_ne (by omega), h1 k' b' hk' hb']
  · rw [s]
    by_cases e : 100 + 4 * v' + k' = 100 + 4 * v + k
    · rw [up_eq e, st_eq (by omega) (by omega)]
    · rw [up_ne e, st_ne (by omega), h2 k' v' hk' hv']
  · have := h3 g hg
    simp only [s]
    rw [up_ne (by omega), up_ne (by omega), up_ne (by omega), up_ne (by omega), st_ne (by omega), st_ne (by omega), st_ne (by omega)]
    exact this
  · have := hq g hg
    rw [up_ne (by show _ ≠ _; have hi' : i < (A.2.1 g).length := hi; omega)]
    exact h4 g i hg hi
  · rw [s, up_ne (by omega), st_ne (by omega), h5a]
  · rw [s, up_ne (by omega), st_ne (by omega), h5b]
  · rw [s, up_ne (by omega), st_ne (by omega), h5c]
  · rw [s, up_ne (by omega), st_ne (by omega), h5d]
  · rw [s, up_ne (by omega), st_ne (by omega), h5e]
  · rw [s, s, s, up_ne (by omega), st_ne (by omega), st_ne (by omega), st_ne (by omega), h6]
  · rw [up_ne (by omega)]; exact h7
  · have hj' : j < A.2.2.length := hj
    rw [up_ne (by omega), up_ne (by omega), up_ne (by omega)]; exact h8 j hj
/-- strength (0) and quiet (1) of a gate -/
theorem RB_gt (h : RB row A) (hq : ∀ g, g < 3 → (A.2.1 g).length ≤ 20) (hl : A.2.2.length ≤ 10) {k g0 : Nat} (hk : k < 2) (hg0 : g0 < 3) (x : Int32) : RB (upd row (124 + 4 * g0 + k) x) (aS A (9 + k) g0 x) := by
  obtain ⟨h1, h2, h3, h4, ⟨h5a, h5b, h5c, h5d, h5e⟩, h6, h7, h8⟩ := h
  have s : ∀ k' j', (aS A (9 + k) g0 x).1 k' j' = st2 A.1 (9 + k) g0 x k' j' := fun _ _ => rfl
  refine ⟨fun k' b' hk' hb' => ?_, fun k' v' hk' hv' => ?_, fun g hg => ?_, fun g i hg hi => ?_, ⟨?_, ?_, ?_, ?_, ?_⟩, ?_, ?_, fun j hj => ?_⟩
  · rw [s, up_ne (by omega), st_ne (by omega), h1 k' b' hk' hb']
  · rw [s, up_ne (by omega), st_ne (by omega), h2 k' v' hk' hv']
  · obtain ⟨t0, t1, t2, t3⟩ := h3 g hg
    simp only [s]
    refine ⟨?_, ?_, ?_, ?_⟩
    · by_cases e : 124 + 4 * g + 0 = 124 + 4 * g0 + k
      · rw [up_eq e, st_eq (by omega) (by omega)]
      · rw [up_ne e, st_ne (by omega), t0]
    · by_cases e : 124 + 4 * g + 1 = 124 + 4 * g0 + k
      · rw [up_eq e, st_eq (by omega) (by omega)]
      · rw [up_ne e, st_ne (by omega), t1]
    · rw [up_ne (by omega)]; exact t2
    · rw [up_ne (by omega), st_ne (by omega), t3]
  · have := hq g hg
    rw [up_ne (by show _ ≠ _; have hi' : i < (A.2.1 g).length := hi; omega)]
    exact h4 g i hg hi
  · rw [s, up_ne (by omega), st_ne (by omega), h5a]
  · rw [s, up_ne (by omega), st_ne (by omega), h5b]
  · rw [s, up_ne (by omega), st_ne (by omega), h5c]
  · rw [s, up_ne (by omega), st_ne (by omega), h5d]
  · rw [s, up_ne (by omega), st_ne (by omega), h5e]
  · rw [s, s, s, up_ne (by omega), st_ne (by omega), st_ne (by omega), st_ne (by omega), h6]
  · rw [up_ne (by omega)]; exact h7
  · have hj' : j < A.2.2.length := hj
    rw [up_ne (by omega), up_ne (by omega), up_ne (by omega)]; exact h8 j hj
/-- sure, calm, ticks, caught, slipped -/
theorem RB_gl (h : RB row A) (hq : ∀ g, g < 3 → (A.2.1 g).length ≤ 20) (hl : A.2.2.length ≤ 10) {i j : Nat} (hij : (i = 196 ∧ j = 0) ∨ (i = 197 ∧ j = 1) ∨ (i = 198 ∧ j = 2) ∨ (i = 200 ∧ j = 3) ∨ (i = 201 ∧ j = 4)) (x : Int32) : RB (upd row i x) (aS A 12 j x) := by
  obtain ⟨h1, h2, h3, h4, ⟨h5a, h5b, h5c, h5d, h5e⟩, h6, h7, h8⟩ := h
  have s : ∀ k' j', (aS A 12 j x).1 k' j' = st2 A.1 12 j x k' j' := fun _ _ => rfl
  refine ⟨fun k' b' hk' hb' => ?_, fun k' v' hk' hv' => ?_, fun g hg => ?_, fun g i hg hi => ?_, ⟨?_, ?_, ?_, ?_, ?_⟩, ?_, ?_, fun j hj => ?_⟩
  · rw [s, up_ne (by omega), st_ne (by omega), h1 k' b' hk' hb']
  · rw [s, up_ne (by omega), st_ne (by omega), h2 k' v' hk' hv']
  · have := h3 g hg
    simp only [s]
    rw [up_ne (by omega), up_ne (by omega), up_ne (by omega), up_ne (by omega), st_ne (by omega), st_ne (by omega), st_ne (by omega)]
    exact this
  · have := hq g hg
    rw [up_ne (by show _ ≠ _; have hi' : i < (A.2.1 g).length := hi; omega)]
    exact h4 g i hg hi
  · rw [s]; by_cases e : j = 0
    · rw [up_eq (by omega), st_eq rfl (by omega)]
    · rw [up_ne (by omega), st_ne (by omega), h5a]
  · rw [s]; by_cases e : j = 1
    · rw [up_eq (by omega), st_eq rfl (by omega)]
    · rw [up_ne (by omega), st_ne (by omega), h5b]
  · rw [s]; by_cases e : j = 2
    · rw [up_eq (by omega), st_eq rfl (by omega)]
    · rw [up_ne (by omega), st_ne (by omega), h5c]
  · rw [s]; by_cases e : j = 3
    · rw [up_eq (by omega), st_eq rfl (by omega)]
    · rw [up_ne (by omega), st_ne (by omega), h5d]
  · rw [s]; by_cases e : j = 4
    · rw [up_eq (by omega), st_eq rfl (by omega)]
    · rw [up_ne (by omega), st_ne (by omega), h5e]
  · rw [s, s, s, up_ne (by omega), st_ne (by omega), st_ne (by omega), st_ne (by omega), h6]
  · rw [up_ne (by omega)]; exact h7
  · have hj' : j < A.2.2.length := hj
    rw [up_ne (by omega), up_ne (by omega), up_ne (by omega)]; exact h8 j hj
end RBS
theorem RB_ghost {row : Nat → Int32} {A : AS} (h : RB row A) (b : Nat) (x : Int32) : RB row (aS A 13 b x) := by
  obtain ⟨h1, h2, h3, h4, h5, h6, h7, h8⟩ := h
  have s : ∀ k' j', k' ≠ 13 → (aS A 13 b x).1 k' j' = A.1 k' j' := fun k' j' e => st_ne (Or.inl e)
  refine ⟨fun k b' hk hb => ?_, fun k v hk hv => ?_, fun g hg => ?_, h4, ?_, ?_, h7, h8⟩
  · rw [s _ _ (by omega)]; exact h1 k b' hk hb
  · rw [s _ _ (by omega)]; exact h2 k v hk hv
  · rw [s _ _ (by decide), s _ _ (by decide), s _ _ (by decide)]; exact h3 g hg
  · rw [s _ _ (by decide), s _ _ (by decide), s _ _ (by decide), s _ _ (by decide), s _ _ (by decide)]; exact h5
  · rw [s _ _ (by decide), s _ _ (by decide), s _ _ (by decide)]; exact h6
theorem RB_congQ {row : Nat → Int32} {S : gS} {q q' : Nat → List Nat} {L : List (Int32 × Int32 × Int32)} (h : RB row (S, q, L)) (e : ∀ g, g < 3 → q' g = q g) : RB row (S, q', L) := by
  obtain ⟨h1, h2, h3, h4, h5, h6, h7, h8⟩ := h
  refine ⟨h1, h2, fun g hg => ?_, fun g i hg hi => ?_, h5, h6, h7, h8⟩
  · have := h3 g hg
    show _ ∧ _ ∧ row (124 + 4 * g + 2) = nI (q' g).length ∧ _
    rw [e g hg]; exact this
  · have hi' : i < (q' g).length := hi
    show row (136 + 20 * g + i) = nI ((q' g).getD i 0)
    rw [e g hg] at hi' ⊢
    exact h4 g i hg hi'
theorem Inv_aS {T : Nat} {A : AS} (h : Inv T A) {k i : Nat} {x : Int32} (hk : k = 2 ∨ k = 7 ∨ k = 9 ∨ k = 10 ∨ k = 11 ∨ k = 12 ∨ k = 13) : Inv T (aS A k i x) := by
  obtain ⟨h1, h2, h3, h4, h5, h6, h7⟩ := h
  have s : ∀ k' j', k' ≠ k → (aS A k i x).1 k' j' = A.1 k' j' := fun k' j' e => st_ne (Or.inl e)
  refine ⟨fun b hb => ?_, fun b hb => ?_, fun v hv => ?_, fun g x hg hx => ?_, h5, h6, fun b hb => ?_⟩
  · rw [s 0 b (by omega)]; exact h1 b hb
  · rw [s 1 b (by omega), s 3 b (by omega)]; exact h2 b hb
  · rw [s 5 v (by omega), s 6 v (by omega), s 8 v (by omega)]; exact h3 v hv
  · rw [s 3 x (by omega)]; exact h4 g x hg hx
  · rw [s 4 b (by omega)]; exact h7 b hb
theorem Inv_where {T : Nat} {A : AS} (h : Inv T A) {v : Nat} {x : Int32} (hx : x = 0 ∨ x = 2) : Inv T (aS A 5 v x) := by
  obtain ⟨h1, h2, h3, h4, h5, h6, h7⟩ := h
  have s : ∀ k' j', k' ≠ 5 → (aS A 5 v x).1 k' j' = A.1 k' j' := fun k' j' e => st_ne (Or.inl e)
  refine ⟨fun b hb => ?_, fun b hb => ?_, fun v' hv => ?_, fun g x hg hx => ?_, h5, h6, fun b hb => ?_⟩
  · rw [s 0 b (by omega)]; exact h1 b hb
  · rw [s 1 b (by omega), s 3 b (by omega)]; exact h2 b hb
  · rw [s 6 v' (by omega), s 8 v' (by omega)]
    by_cases e : v' = v
    · subst e
      have : (aS A 5 v' x).1 5 v' = x := by show st2 A.1 5 v' x 5 v' = x; exact st_eq rfl rfl
      rw [this]
      refine ⟨by rcases hx with h | h <;> simp [h], fun q => ?_⟩
      rcases hx with h | h <;> rw [h] at q <;> exact absurd q (by decide)
    · have : (aS A 5 v x).1 5 v' = A.1 5 v' := by show st2 A.1 5 v x 5 v' = _; exact st_ne (Or.inr e)
      rw [this]; exact h3 v' hv
  · rw [s 3 x (by omega)]; exact h4 g x hg hx
  · rw [s 4 b (by omega)]; exact h7 b hb
theorem Inv_forget {T : Nat} {A : AS} (h : Inv T A) (b : Nat) : Inv T (aForget A b) := by
  obtain ⟨h1, h2, h3, h4, h5, h6, h7⟩ := h
  have s : ∀ k' j', k' ≠ 2 → k' ≠ 3 → (aForget A b).1 k' j' = A.1 k' j' := fun k' j' e e2 => by
    show st2 (st2 A.1 2 b 0) 3 b 0 k' j' = _
    rw [st_ne (Or.inl e2), st_ne (Or.inl e)]
  have s3 : ∀ j', (aForget A b).1 3 j' = if j' = b then 0 else A.1 3 j' := fun j' => by
    show st2 (st2 A.1 2 b 0) 3 b 0 3 j' = _
    by_cases e : j' = b
    · rw [st_eq rfl e, if_pos e]
    · rw [st_ne (Or.inr e), st_ne (Or.inl (by decide)), if_neg e]
  refine ⟨fun b' hb => ?_, fun b' hb => ?_, fun v hv => ?_, fun g x hg hx => ?_, ?_, h6, fun b' hb => ?_⟩
  · rw [s 0 b' (by decide) (by decide)]; exact h1 b' hb
  · rw [s 1 b' (by decide) (by decide), s3]
    refine ⟨(h2 b' hb).1, ?_⟩
    by_cases e : b' = b
    · rw [if_pos e]; exact Or.inl rfl
    · rw [if_neg e]; exact (h2 b' hb).2
  · rw [s 5 v (by decide) (by decide), s 6 v (by decide) (by decide), s 8 v (by decide) (by decide)]; exact h3 v hv
  · have hx' := List.mem_filter.mp hx
    have hne : x ≠ b := by simpa using hx'.2
    rw [s3, if_neg hne]
    exact h4 g x hg hx'.1
  · show ((A.2.1 0).filter _ ++ ((A.2.1 1).filter _ ++ (A.2.1 2).filter _)).Nodup
    rw [← List.filter_append, ← List.filter_append]
    exact List.Pairwise.filter _ h5
  · rw [s 4 b' (by decide) (by decide)]; exact h7 b' hb
theorem Inv_mono {T T' : Nat} {A : AS} (h : Inv T A) (hT : T ≤ T') : Inv T' A := by
  obtain ⟨h1, h2, h3, h4, h5, h6, h7⟩ := h
  exact ⟨h1, h2, h3, h4, h5, h6, fun b hb => by obtain ⟨c, hc, e⟩ := h7 b hb; exact ⟨c, by omega, e⟩⟩
theorem qlen_of {T : Nat} {A : AS} (h : Inv T A) : ∀ g, g < 3 → (A.2.1 g).length ≤ 20 := fun _ hg => h.qlen hg
