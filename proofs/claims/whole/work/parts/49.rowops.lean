section RO
variable {T : Nat} {row : Nat → Int32} {A : AS}
def aShouts (A : AS) : Int32 := A.1 11 0 + A.1 11 1 + A.1 11 2
theorem RB.sh (h : RB row A) : row 199 = aShouts A := h.2.2.2.2.2.1
def aTicks : Nat → AS → AS
  | 0, A => A
  | n + 1, A => aTicks n (aTick A)
theorem ticksL (x : Int32) : ∀ (m i n f : Nat) (row : Nat → Int32) (A : AS) (T : Nat), i + m = n → n < 1000 → m < f → RB row A → Inv T A → ∃ r, fX4_ticksIn_L8 f row (nI n) x (nI i) = some r ∧ ((r.1 = aShouts (aTicks m A) - x ∧ RB r.2 (aTicks m A)) ∧ Inv (T + 3 * m) (aTicks m A)) := by
  intro m
  induction m with
  | zero =>
    intro i n f row A T hi hn hf h hI
    obtain ⟨f, rfl⟩ : ∃ z, f = z + 1 := ⟨f - 1, by omega⟩
    simp only [fX4_ticksIn_L8]
    rw [if_pos ((le_nI (by omega) (by omega)).mpr (by omega)), cl_199, h.sh]
    exact ⟨_, rfl, ⟨rfl, h⟩, hI⟩
  | succ m ih =>
    intro i n f row A T hi hn hf h hI
    obtain ⟨f, rfl⟩ : ∃ z, f = z + 1 := ⟨f - 1, by omega⟩
    simp only [fX4_ticksIn_L8]
    rw [if_neg (fun q => absurd ((le_nI (by omega) (by omega)).mp q) (by omega))]
    obtain ⟨row', k1, k2, k3⟩ := tick_spec h hI
    refine bd_ex k1 ?_
    rw [nI_1, show T + 3 * (m + 1) = (T + 3) + 3 * m by omega]
    exact ih (i + 1) n f row' (aTick A) (T + 3) (by omega) hn (by omega) k2 k3
theorem ticksIn_spec (h : RB row A) (hI : Inv T A) {n : Nat} (hn : n < 1000) : ∃ r, fX4_ticksIn row (nI n) = some r ∧ ((r.1 = aShouts (aTicks n A) - aShouts A ∧ RB r.2 (aTicks n A)) ∧ Inv (T + 3 * n) (aTicks n A)) := by
  unfold fX4_ticksIn
  refine gl_ex fun t ht => ?_
  rw [cl_199, h.sh] at ht
  rw [ht]
  exact ticksL _ n 0 n gFuel row A T (by omega) hn (by show n < 5000; omega) h hI
def aCanTake (A : AS) (v b : Nat) : Bool := decide (A.1 0 b = 0) && (decide (A.1 5 v = 0) && decide (bagN A v < 6))
def aCanPut (A : AS) (b : Nat) : Bool := !decide (A.1 0 b = 0) && aBookIn A b
def aCanBorrow (A : AS) (b : Nat) (x : Int32) : Bool := !decide (A.1 1 b = x) && aBookIn A b
def aCanWalk (A : AS) (v : Nat) (x : Int32) : Bool := decide (A.1 5 v = if x = 0 then 2 else 0)
theorem canTake_spec (h : RB row A) {v b : Nat} (hv : v < 6) (hb : b < 20) : fX4_canTake row (nI v) (nI b) = some (bI (aCanTake A v b), row) := by
  unfold fX4_canTake aCanTake
  simp (disch := omega) only [bookAt_0, Option.bind_some, gd_in, cl_nI]
  rw [h.bk (by omega) hb]
  by_cases e : A.1 0 b = 0
  · rw [if_pos e, isInside_spec h hv, decide_eq_true e]
    simp only [Option.bind_some, bI_0]
    by_cases e2 : A.1 5 v = 0
    · rw [decide_eq_true e2, if_neg (by decide), bag_spec h hv]
      simp only [Option.bind_some]
      have hle : bagN A v ≤ 20 := fb_ct_le _ 20
      by_cases e3 : bagN A v < 6
      · rw [if_neg (fun q => absurd ((lel_6 (by omega)).mp q) (by omega)), decide_eq_true e3]; rfl
      · rw [if_pos ((lel_6 (by omega)).mpr (by omega)), decide_eq_false e3]; rfl
    · rw [decide_eq_false e2, if_pos rfl]; rfl
  · rw [if_neg e, decide_eq_false e]; rfl
theorem hold_le0 (hI : Inv T A) {b : Nat} (hb : b < 20) : A.1 0 b ≤ 0 ↔ A.1 0 b = 0 := by
  obtain ⟨k, hk, e⟩ := hI.1 b hb
  rw [e, nI_le0 (by omega), show (0 : Int32) = nI 0 from rfl, nI_inj (by omega) (by omega)]
theorem canPutBack_spec (h : RB row A) (hI : Inv T A) {b : Nat} (hb : b < 20) : fX4_canPutBack row (nI b) = some (bI (aCanPut A b), row) := by
  unfold fX4_canPutBack aCanPut
  simp (disch := omega) only [bookAt_0, Option.bind_some, gd_in, cl_nI]
  rw [h.bk (by omega) hb]
  by_cases e : A.1 0 b = 0
  · rw [if_pos ((hold_le0 hI hb).mpr e), decide_eq_true e]; rfl
  · rw [if_neg (fun q => e ((hold_le0 hI hb).mp q)), isBookInside_spec h hI hb, decide_eq_false e]
    simp only [Option.bind_some, bI_0]
    cases aBookIn A b <;> rfl
theorem canBorrow_spec (h : RB row A) (hI : Inv T A) {b : Nat} (hb : b < 20) (x : Int32) : fX4_canBorrow row (nI b) x = some (bI (aCanBorrow A b x), row) := by
  unfold fX4_canBorrow aCanBorrow
  simp (disch := omega) only [bookAt_1, Option.bind_some, gd_in, cl_nI]
  rw [h.bk (by omega) hb]
  by_cases e : A.1 1 b = x
  · rw [if_pos e, decide_eq_true e]; rfl
  · rw [if_neg e, isBookInside_spec h hI hb, decide_eq_false e]
    simp only [Option.bind_some, bI_0]
    cases aBookIn A b <;> rfl
theorem canWalk_spec (h : RB row A) {v : Nat} (hv : v < 6) (x : Int32) : fX4_canWalk row (nI v) x = some (bI (aCanWalk A v x), row) := by
  unfold fX4_canWalk aCanWalk
  simp (disch := omega) only [visitorAt_0, Option.bind_some, gd_in, cl_nI]
  rw [h.vs (k := 0) (by omega) hv]
  by_cases e : x = 0
  · rw [if_pos e, if_pos e]
    by_cases e2 : A.1 (5 + 0) v = 2
    · rw [if_pos e2, decide_eq_true e2]; rfl
    · rw [if_neg e2, decide_eq_false e2]; rfl
  · rw [if_neg e, if_neg e]
    by_cases e2 : A.1 (5 + 0) v = 0
    · rw [if_pos e2, decide_eq_true e2]; rfl
    · rw [if_neg e2, decide_eq_false e2]; rfl
def aWalk (A : AS) (v : Nat) (g : Int32) (out : Bool) : AS := aS (aS (aS (aS A 5 v 1) 6 v g) 7 v (if out then -3 else 3)) 8 v (bI out)
def aAt (A : AS) (g : Int32) (v : Nat) : Bool := decide (A.1 5 v = 1) && decide (A.1 6 v = g)
def aAtN (A : AS) (g : Int32) : Nat := fb_ct (aAt A g) 6
theorem walkL (h : RB row A) {g : Int32} : ∀ (k v f : Nat), v + k = 6 → k < f → fX4_walkIn_L55 f row g (nI (fb_ct (aAt A g) v)) (nI v) = some (nI (aAtN A g), row) := by
  intro k
  induction k with
  | zero =>
    intro v f hb hf
    obtain ⟨f, rfl⟩ : ∃ z, f = z + 1 := ⟨f - 1, by omega⟩
    have : v = 6 := by omega
    subst this
    simp (disch := omega) only [fX4_walkIn_L55, lel_3, lel_6, lel_10, lel_20, lel_120, lel_233]
    rw [if_pos (Nat.le_refl 6)]; rfl
  | succ k ih =>
    intro v f hb hf
    obtain ⟨f, rfl⟩ : ∃ z, f = z + 1 := ⟨f - 1, by omega⟩
    simp (disch := omega) only [fX4_walkIn_L55, lel_3, lel_6, lel_10, lel_20, lel_120, lel_233, bookAt_0, visitorAt_0, gateAt_0, bookAt_1, visitorAt_1, gateAt_1, bookAt_2, visitorAt_2, gateAt_2, bookAt_3, visitorAt_3, gateAt_3, bookAt_4, visitorAt_4, gateAt_4, gl, Option.bind_some, gd_in, cl_nI]
    have n1 := ih (v + 1) f (by omega) (by omega)
    rw [fb_ct_succ] at n1
    rw [if_neg (by omega), h.vs (k := 0) (by omega) (by omega), h.vs (k := 1) (by omega) (by omega), nI_1, nI_1, nI_p0]
    by_cases e : A.1 (5 + 0) v = 1
    · rw [if_pos e]
      by_cases e2 : A.1 (5 + 1) v = g
      · have q : aAt A g v = true := by unfold aAt; rw [decide_eq_true e, decide_eq_true e2]; rfl
        rw [if_pos e2]
        rw [q] at n1
        exact n1
      · have q : aAt A g v = false := by unfold aAt; rw [decide_eq_true e, decide_eq_false e2]; rfl
        rw [if_neg e2]
        rw [q] at n1
        exact n1
    · have q : aAt A g v = false := by unfold aAt; rw [decide_eq_false e]; rfl
      rw [if_neg e]
      rw [q] at n1
      exact n1
theorem walkIn_spec (h : RB row A) (hI : Inv T A) {v : Nat} (hv : v < 6) (g : Int32) (out : Bool) : ∃ r, fX4_walkIn row (nI v) g (bI out) = some r ∧ (r.1 = nI (aAtN (aWalk A v g out) g) ∧ RB r.2 (aWalk A v g out)) := by
  unfold fX4_walkIn
  refine bd_ex (visitorAt_0 v) (gd_ex rfl (by omega) (by decide) (gl_ex fun u11 h11 => bd_ex (visitorAt_1 v) (gd_ex rfl (by omega) (by decide) (gl_ex fun u13 h13 => bd_ex (visitorAt_2 v) ?_))))
  rw [cl_nI (by omega)] at h11 h13
  have q := qlen_of hI
  have l := hI.ql
  have r1 := RB_vs h q l (k := 0) (by omega) hv 1
  have r2 := RB_vs r1 q l (k := 1) (by omega) hv g
  have r3 := RB_vs r2 q l (k := 2) (by omega) hv (if out then (-3 : Int32) else 3)
  have r4 := RB_vs r3 q l (k := 3) (by omega) hv (bI out)
  have fin : ∀ z, z = bI out → ∀ u, u = upd (upd u13 (100 + 4 * v + 2) (if out then (-3 : Int32) else 3)) (100 + 4 * v + 3) z → ∃ r, fX4_walkIn_L55 gFuel u g 0 0 = some r ∧ (r.1 = nI (aAtN (aWalk A v g out) g) ∧ RB r.2 (aWalk A v g out)) := by
    intro z hz u hu
    have hr : RB u (aWalk A v g out) := by rw [hu, hz, h13, h11]; exact r4
    exact ⟨_, walkL hr 6 0 gFuel rfl (by decide), rfl, hr⟩
  have L32 : ∃ r, fX4_walkIn_L32 u13 (nI v) g (bI out) (nI (100 + 4 * v + 2)) (if out then (-3 : Int32) else 3) = some r ∧ (r.1 = nI (aAtN (aWalk A v g out) g) ∧ RB r.2 (aWalk A v g out)) := by
    unfold fX4_walkIn_L32
    refine gd_ex rfl (by omega) (by decide) (gl_ex fun u6 h6 => bd_ex (visitorAt_3 v) ?_)
    rw [cl_nI (by omega)] at h6
    cases out with
    | true =>
      rw [if_neg (by decide)]
      refine gd_ex rfl (by omega) (by decide) (gl_ex fun u9 h9 => ?_)
      rw [cl_nI (by omega), h6] at h9
      exact fin 1 rfl u9 h9
    | false =>
      rw [if_pos bI_f]
      refine gd_ex rfl (by omega) (by decide) (gl_ex fun u9 h9 => ?_)
      rw [cl_nI (by omega), h6] at h9
      exact fin 0 rfl u9 h9
  cases out with
  | true => rw [if_neg (by decide)]; exact L32
  | false => rw [if_pos bI_f]; exact L32
def aTurn (A : AS) (v : Nat) : AS := aS A 8 v (1 - A.1 8 v)
theorem turnIn_spec (h : RB row A) (hI : Inv T A) {v : Nat} (hv : v < 6) : ∃ r, fX4_turnIn row (nI v) = some r ∧ (r.1 = 1 - A.1 8 v ∧ RB r.2 (aTurn A v)) := by
  unfold fX4_turnIn
  refine bd_ex (visitorAt_3 v) (bd_ex (visitorAt_3 v) (gd_ex rfl (by omega) (by decide) (gl_ex fun t3 h3 => gd_ex rfl (by omega) (by decide) (gl_ex fun u4 h4 => bd_ex (visitorAt_3 v) (gd_ex rfl (by omega) (by decide) ?_)))))
  rw [cl_nI (by omega), h.vs (k := 3) (by omega) hv] at h3
  rw [cl_nI (by omega), h3] at h4
  refine ⟨_, rfl, ?_, ?_⟩
  · show u4 (nI (100 + 4 * v + 3)).toNatClampNeg = _
    rw [cl_nI (by omega), h4, up_eq rfl]
  · show RB u4 _
    rw [h4]
    exact RB_vs h (qlen_of hI) hI.ql (k := 3) (by omega) hv _
def aClean : AS := ((fun k i => if k = 12 then (if i = 0 then 2 else if i = 1 then 1 else 0) else if k = 9 ∧ i < 3 then 7 else 0), (fun _ => []), [])
theorem cleanL2 : ∀ (m g f : Nat) (row : Nat → Int32), g + m = 3 → m < f → (∀ j, j < 233 → row j = if (j = 124 ∨ j = 128 ∨ j = 132) ∧ j < 124 + 4 * g then 7 else 0) → ∃ row', fX4_clean_L21 f row (nI g) = some row' ∧ ∀ j, j < 233 → row' j = if j = 124 ∨ j = 128 ∨ j = 132 then 7 else if j = 196 then 2 else if j = 197 then 1 else 0 := by
  intro m
  induction m with
  | zero =>
    intro g f row hg hf h
    obtain ⟨f, rfl⟩ : ∃ z, f = z + 1 := ⟨f - 1, by omega⟩
    simp only [fX4_clean_L21]
    rw [if_pos ((lel_3 (by omega)).mpr (by omega))]
    refine gl_ex fun u1 h1 => gl_ex fun u2 h2 => ⟨u2, rfl, fun j hj => ?_⟩
    rw [cl_196] at h1
    rw [cl_197] at h2
    rw [h2, h1]
    by_cases e1 : j = 197
    · rw [up_eq e1, if_neg (by omega), if_neg (by omega), if_pos e1]
    · rw [up_ne e1]
      by_cases e2 : j = 196
      · rw [up_eq e2, if_neg (by omega), if_pos e2]
      · rw [up_ne e2, h j hj, if_neg (c := j = 196) e2, if_neg (c := j = 197) e1]
        by_cases e3 : j = 124 ∨ j = 128 ∨ j = 132
        · rw [if_pos ⟨e3, by omega⟩, if_pos e3]
        · rw [if_neg (fun q => e3 q.1), if_neg e3]
  | succ m ih =>
    intro g f row hgm hf h
    obtain ⟨f, rfl⟩ : ∃ z, f = z + 1 := ⟨f - 1, by omega⟩
    simp only [fX4_clean_L21]
    rw [if_neg (fun q => absurd ((lel_3 (by omega)).mp q) (by omega))]
    refine bd_ex (gateAt_0 g) (gd_ex rfl (by omega) (by decide) (gl_ex fun u4 h4 => ?_))
    rw [cl_nI (by omega)] at h4
    rw [nI_1]
    refine ih (g + 1) f u4 (by omega) (by omega) (fun j hj => ?_)
    rw [h4]
    by_cases e : j = 124 + 4 * g + 0
    · rw [up_eq e, if_pos (by omega)]
    · rw [up_ne e, h j hj]
      by_cases q : (j = 124 ∨ j = 128 ∨ j = 132) ∧ j < 124 + 4 * g
      · rw [if_pos q, if_pos (by omega)]
      · rw [if_neg q, if_neg (by omega)]
theorem cleanL : ∀ (m i f : Nat) (row : Nat → Int32), i + m = 233 → m < f → (∀ j, j < i → row j = 0) → ∃ row', fX4_clean_L2 f row (nI i) = some row' ∧ ∀ j, j < 233 → row' j = if j = 124 ∨ j = 128 ∨ j = 132 then 7 else if j = 196 then 2 else if j = 197 then 1 else 0 := by
  intro m
  induction m with
  | zero =>
    intro i f row hi hf h
    obtain ⟨f, rfl⟩ : ∃ z, f = z + 1 := ⟨f - 1, by omega⟩
    simp only [fX4_clean_L2]
    rw [if_pos ((lel_233 (by omega)).mpr (by omega))]
    refine cleanL2 3 0 gFuel row rfl (by decide) (fun j hj => ?_)
    rw [h j (by omega), if_neg (by omega)]
  | succ m ih =>
    intro i f row hi hf h
    obtain ⟨f, rfl⟩ : ∃ z, f = z + 1 := ⟨f - 1, by omega⟩
    simp only [fX4_clean_L2]
    rw [if_neg (fun q => absurd ((lel_233 (by omega)).mp q) (by omega))]
    refine gd_ex rfl (by omega) (by decide) (gl_ex fun u5 h5 => ?_)
    rw [cl_nI (by omega)] at h5
    rw [nI_1]
    refine ih (i + 1) f u5 (by omega) (by omega) (fun j hj => ?_)
    rw [h5]
    by_cases e : j = i
    · rw [up_eq e]
    · rw [up_ne e, h j (by omega)]
theorem RB_clean {row' : Nat → Int32} (h : ∀ j, j < 233 → row' j = if j = 124 ∨ j = 128 ∨ j = 132 then 7 else if j = 196 then 2 else if j = 197 then 1 else 0) : RB row' aClean := by
  refine ⟨fun k b hk hb => ?_, fun k v hk hv => ?_, fun g hg => ⟨?_, ?_, ?_, ?_⟩, fun g i hg hi => absurd hi (Nat.not_lt_zero _), ⟨?_, ?_, ?_, ?_, ?_⟩, ?_, ?_, fun k hk => absurd hk (Nat.not_lt_zero _)⟩
  · rw [h _ (by omega), if_neg (by omega), if_neg (by omega), if_neg (by omega)]
    show 0 = if k = 12 then _ else if k = 9 ∧ b < 3 then _ else _
    rw [if_neg (by omega), if_neg (by omega)]
  · rw [h _ (by omega), if_neg (by omega), if_neg (by omega), if_neg (by omega)]
    show 0 = if 5 + k = 12 then _ else if 5 + k = 9 ∧ v < 3 then _ else _
    rw [if_neg (by omega), if_neg (by omega)]
  · rw [h _ (by omega), if_pos (by omega)]
    show (7 : Int32) = (if 9 = 12 then (if g = 0 then 2 else if g = 1 then 1 else 0) else if 9 = 9 ∧ g < 3 then 7 else 0)
    rw [if_neg (by omega), if_pos ⟨rfl, hg⟩]
  · rw [h _ (by omega), if_neg (by omega), if_neg (by omega), if_neg (by omega)]; rfl
  · rw [h _ (by omega), if_neg (by omega), if_neg (by omega), if_neg (by omega)]; rfl
  · rw [h _ (by omega), if_neg (by omega), if_neg (by omega), if_neg (by omega)]; rfl
  · rw [h _ (by decide)]; rfl
  · rw [h _ (by decide)]; rfl
  · rw [h _ (by decide)]; rfl
  · rw [h _ (by decide)]; rfl
  · rw [h _ (by decide)]; rfl
  · rw [h _ (by decide)]; rfl
  · rw [h _ (by decide)]; rfl
theorem Inv_clean : Inv T aClean := by
  have z : ∀ k i, k ≠ 12 → k ≠ 9 → aClean.1 k i = 0 := fun k i e e2 => by
    show (if k = 12 then _ else if k = 9 ∧ i < 3 then _ else _) = _
    rw [if_neg e, if_neg (fun q => e2 q.1)]
  refine ⟨fun b hb => ⟨0, by omega, z 0 b (by decide) (by decide)⟩, fun b hb => ⟨Or.inl (z 1 b (by decide) (by decide)), Or.inl (z 3 b (by decide) (by decide))⟩, fun v hv => ⟨Or.inl (z 5 v (by decide) (by decide)), fun q => ?_⟩, fun g x hg hx => absurd hx List.not_mem_nil, List.nodup_nil, Nat.zero_le _, fun b hb => ⟨0, by omega, z 4 b (by decide) (by decide)⟩⟩
  rw [z 5 v (by decide) (by decide)] at q
  exact absurd q (by decide)
theorem clean_spec (row : Nat → Int32) : ∃ row', fX4_clean row = some row' ∧ RB row' aClean := by
  obtain ⟨row', k1, k2⟩ := cleanL 233 0 gFuel row rfl (by decide) (fun j hj => absurd hj (Nat.not_lt_zero _))
  exact ⟨row', k1, RB_clean k2⟩
end RO
