section TY
variable {c : Nat → Nat} {len p : Nat} {t t' : gS} {T : Nat} {A : AS} {s : ST} {r r0 : gS}
/-- one reading behind another -/
theorem CO_bind {α γ : Type} {x : Option (Int32 × gS)} {y : PR α} {V : α → Nat → gS → Prop} {V' : γ → Nat → gS → Prop} {F : gS → Option (Int32 × gS)} {k : α → Nat → PR γ} (h : CO c len x y V) (f : ∀ a z t', TC c len t' z → V a z t' → CO c len (F t') (k a z) V') : CO c len (x.bind fun r => if r.1 = 0 then some ((0 : Int32), r.2) else F r.2) (pB y k) V' := by
  rcases h with ⟨e, t', k1, k2, k3⟩ | ⟨a, z, t', k1, k2, k3, k4⟩
  · subst k2
    exact Or.inl ⟨e, t', pB_l k1, rfl, k3⟩
  · subst k2
    rw [pB_r k1, Option.bind_some, if_neg (show ¬ (((1 : Int32), t') : Int32 × gS).1 = 0 by show ¬ (1 : Int32) = 0; decide)]
    exact f a z t' k3 k4
theorem TC_2 (h : TC c len t p) (j : Nat) (x : Int32) : TC c len (st2 t 2 j x) p := ⟨by rw [st_ne (by omega)]; exact h.1, by rw [st_ne (by omega)]; exact h.2.1, h.2.2.1, fun i hi => by rw [st_ne (by omega)]; exact h.2.2.2 i hi⟩
def HDR (a : Hd) (t : gS) : Prop := t 2 0 = nI a.1.1 ∧ t 2 1 = nI a.1.2.1 ∧ t 2 2 = nI a.1.2.2 ∧ t 0 5 = nI a.2.1 ∧ t 0 6 = nI a.2.2
theorem cL15 {γ : Type} {V' : γ → Nat → gS → Prop} {k : Nat → Nat → PR γ} (hl : len ≤ 120) (hc : ∀ i, i < len → c i ≤ 255) (h : TC c len t p) {g : Nat} (hg : g < 3) (f : Nat) (K : ∀ s z t', TC c len t' z → t' 2 g = nI s → (∀ j, j ≠ g → t' 2 j = t 2 j) → CO c len (fX2_readHeader_L15 f t' (nI (g + 1))) (k s z) V') : CO c len (fX2_readHeader_L15 (f + 1) t (nI g)) (pB (pT c len 15 p) k) V' := by
  simp only [fX2_readHeader_L15]
  rw [if_neg (fun q => absurd ((lel_3 (by omega)).mp q) (by omega))]
  refine CO_bind (F := fun t' => gl (t' 0 3) (fun t8 => gd (inb (nI g) 3) (gl (st2 t' 2 (nI g).toNatClampNeg t8) (fun u9 => fX2_readHeader_L15 f u9 (nI g + (1 : Int32)))))) (cTw hl hc h (most := 15) (by decide)) ?_
  rintro s z t' hT ⟨k1, k2, k3, k4⟩
  simp only [gl]
  rw [gd_in hg (by decide), k3, cl_nI (by omega), nI_1]
  exact K s z _ (TC_2 hT _ _) (st_eq rfl rfl) (fun j hj => by rw [st_ne (Or.inr hj), k4.2])
theorem cL15e (hl : len ≤ 120) (hc : ∀ i, i < len → c i ≤ 255) {t4 : gS} {z2 s0 s1 s2 : Nat} (h4 : TC c len t4 z2) (g0 : t4 2 0 = nI s0) (g1 : t4 2 1 = nI s1) (g2 : t4 2 2 = nI s2) (f : Nat) : CO c len (fX2_readHeader_L15 (f + 1) t4 (nI 3)) (pB (pD c len 1 3 z2) fun su p4 => pB (pD c len 0 9 p4) fun ca p5 => (.inr (((s0, s1, s2), su, ca), p5) : PR Hd)) (fun a z t' => HDR a t') := by
  simp only [fX2_readHeader_L15]
  rw [if_pos (show (3 : Int32) ≤ nI 3 by decide)]
  refine CO_bind (F := fun t' => gl (t' 0 3) (fun t2 => (gl (st2 t' 0 5 t2) (fun u3 => ((fX2_readDigit u3 (0 : Int32) (9 : Int32)).bind fun r4 => (if r4.1 = 0 then (some ((0 : Int32), r4.2)) else (gl (r4.2 0 3) (fun t5 => (gl (st2 r4.2 0 6 t5) (fun u6 => (some ((1 : Int32), u6)))))))))))) (cDg hl hc h4 (lo := 1) (hi := 3) (by decide) (by decide)) ?_
  rintro su z3 t5 h5 ⟨k1, k2, k3, k4, k5⟩
  simp only [gl]
  rw [k4]
  refine CO_bind (F := fun t' => some ((1 : Int32), st2 t' 0 6 (t' 0 3))) (cDg hl hc (TC_st h5 (by decide) (by decide) _) (lo := 0) (hi := 9) (by decide) (by decide)) ?_
  rintro ca z4 t6 h6 ⟨j1, j2, j3, j4, j5⟩
  have q2 : ∀ j, (st2 t6 0 6 (t6 0 3)) 2 j = t4 2 j := fun j => by
    rw [st_ne (by omega), j5.2, st_ne (by omega), k5.2]
  refine Or.inr ⟨_, z4, _, rfl, rfl, TC_st h6 (by decide) (by decide) _, ?_, ?_, ?_, ?_, ?_⟩
  · rw [q2]; exact g0
  · rw [q2]; exact g1
  · rw [q2]; exact g2
  · rw [st_ne (by decide), j5.1 5 (by decide) (by decide) (by decide), st_eq rfl rfl]
  · rw [st_eq rfl rfl]; exact j4
theorem cHd (hl : len ≤ 120) (hc : ∀ i, i < len → c i ≤ 255) (h : TC c len t 0) : CO c len (fX2_readHeader t) (pH c len) (fun a z t' => HDR a t') := by
  unfold fX2_readHeader pH
  refine CO_bind (F := fun t' => fX2_readHeader_L15 gFuel t' (0 : Int32)) (cSg hl hc h (lo := 76) (hi := 76) (by decide) (by decide)) ?_
  rintro a z t1 h1 -
  refine cL15 (g := 0) hl hc h1 (by decide) 4999 (fun s0 z0 t2 h2 e0 _ => ?_)
  refine cL15 (g := 1) hl hc h2 (by decide) 4998 (fun s1 z1 t3 h3 e1 f1 => ?_)
  refine cL15 (g := 2) hl hc h3 (by decide) 4997 (fun s2 z2 t4 h4 e2 f2 => ?_)
  exact cL15e hl hc h4 (by rw [f2 0 (by decide), f1 0 (by decide)]; exact e0) (by rw [f2 1 (by decide)]; exact e1) e2 4996
def pL (c : Nat → Nat) (len : Nat) : Nat → Nat → Nat ⊕ List Cm
  | 0, _ => .inr []
  | f + 1, p => if len ≤ p then .inr [] else (match pC c len p with
    | .inl e => .inl e
    | .inr (a, z) => (match pL c len f z with
      | .inl e => .inl e
      | .inr l => .inr (a :: l)))
theorem pL_0 (h : len ≤ p) : ∀ f, pL c len f p = .inr [] := fun f => by
  cases f with
  | zero => rfl
  | succ f => simp only [pL]; rw [if_pos h]
theorem pL_e {f e : Nat} (h : ¬ len ≤ p) (h1 : pC c len p = .inl e) : pL c len (f + 1) p = .inl e := by simp only [pL]; rw [if_neg h, h1]
theorem pL_l {f e z : Nat} {a : Cm} (h : ¬ len ≤ p) (h1 : pC c len p = .inr (a, z)) (h2 : pL c len f z = .inl e) : pL c len (f + 1) p = .inl e := by simp only [pL]; rw [if_neg h, h1]; simp only []; rw [h2]
theorem pL_r {f z : Nat} {a : Cm} {l : List Cm} (h : ¬ len ≤ p) (h1 : pC c len p = .inr (a, z)) (h2 : pL c len f z = .inr l) : pL c len (f + 1) p = .inr (a :: l) := by simp only [pL]; rw [if_neg h, h1]; simp only []; rw [h2]
def pE {α : Type} (x : Nat ⊕ α) : Int32 := match x with
  | .inl e => nI e
  | .inr _ => -9
/-- the class's first reading: is all of it fine -/
theorem ferL (hl : len ≤ 120) (hc : ∀ i, i < len → c i ≤ 255) : ∀ (m i f p : Nat) (t : gS), len ≤ p + m → i + m ≤ 120 → m < f → TC c len t p → ∃ t' q, fX2_firstError_L18 f t (nI i) = some (pE (pL c len m p), t') ∧ TC c len t' q ∧ (∀ e, pL c len m p = .inl e → e ≤ len) := by
  intro m
  induction m with
  | zero =>
    intro i f p t hm hi hf h
    obtain ⟨f, rfl⟩ : ∃ z, f = z + 1 := ⟨f - 1, by omega⟩
    simp only [fX2_firstError_L18]
    rw [pL_0 (by omega)]
    refine ⟨t, p, ?_, h, fun e q => by cases q⟩
    by_cases q : 120 ≤ i
    · rw [if_pos ((lel_120 (by omega)).mpr q)]; rfl
    · rw [if_neg (fun z => q ((lel_120 (by omega)).mp z)), h.1, h.2.1, if_pos (nI_le (by omega) (by have := h.2.2.1; omega))]; rfl
  | succ m ih =>
    intro i f p t hm hi hf h
    obtain ⟨f, rfl⟩ : ∃ z, f = z + 1 := ⟨f - 1, by omega⟩
    simp only [fX2_firstError_L18]
    rw [if_neg (fun z => absurd ((lel_120 (by omega)).mp z) (by omega)), h.1, h.2.1]
    by_cases q : len ≤ p
    · rw [pL_0 q, if_pos (nI_le q (by have := h.2.2.1; omega))]
      exact ⟨t, p, rfl, h, fun e q => by cases q⟩
    · rw [if_neg (nI_ge (by omega) (by omega))]
      rcases cCm hl hc h with ⟨e, t', k1, k2, k3⟩ | ⟨a, z, t', k1, k2, k3, k4, -⟩
      · rw [k2, Option.bind_some, if_pos rfl, pL_e q k1]
        refine ⟨t', e, ?_, k3, fun e' w => by cases w; exact k3.2.2.1⟩
        simp only []
        rw [k3.2.1]; rfl
      · rw [k2, Option.bind_some, if_neg (show ¬ (((1 : Int32), t') : Int32 × gS).1 = 0 by show ¬ (1 : Int32) = 0; decide), nI_1]
        obtain ⟨t2, q2, j1, j2, j3⟩ := ih (i + 1) f z t' (by omega) (by omega) (by omega) k3
        simp only []
        rw [j1]
        rcases hz : pL c len m z with e | l
        · rw [pL_l q k1 hz]
          exact ⟨t2, q2, rfl, j2, fun e' w => by cases w; exact j3 e hz⟩
        · rw [pL_r q k1 hz]
          exact ⟨t2, q2, rfl, j2, fun e' w => by cases w⟩
/-- all of the text -/
def pX (c : Nat → Nat) (len : Nat) : Nat ⊕ (Hd × List Cm) := match pH c len with
  | .inl e => .inl e
  | .inr (a, z) => (match pL c len 120 z with
    | .inl e => .inl e
    | .inr l => .inr (a, l))
def TX (c : Nat → Nat) (len : Nat) (t : gS) : Prop := t 0 1 = nI len ∧ ∀ i, i < len → t 1 i = nI (c i)
theorem TC_0 (h : TX c len t) : TC c len (st2 t 0 2 0) 0 := ⟨by rw [st_ne (by decide)]; exact h.1, st_eq rfl rfl, Nat.zero_le _, fun i hi => by rw [st_ne (by omega)]; exact h.2 i hi⟩
theorem TC.X (h : TC c len t p) : TX c len t := ⟨h.1, h.2.2.2⟩
theorem ferr_s (hl : len ≤ 120) (hc : ∀ i, i < len → c i ≤ 255) (h : TX c len t) : ∃ t', fX2_firstError t = some (pE (pX c len), t') ∧ TX c len t' ∧ ∀ e, pX c len = .inl e → e ≤ len := by
  unfold fX2_firstError fX2_startReading pX
  simp only [gl, Option.bind_some]
  rcases cHd hl hc (TC_0 h) with ⟨e, t', k1, k2, k3⟩ | ⟨a, z, t', k1, k2, k3, -⟩
  · rw [k2, Option.bind_some, if_pos rfl, k1]
    refine ⟨t', ?_, k3.X, fun e' w => by cases w; exact k3.2.2.1⟩
    simp only []
    rw [k3.2.1]; rfl
  · rw [k2, Option.bind_some, if_neg (show ¬ (((1 : Int32), t') : Int32 × gS).1 = 0 by show ¬ (1 : Int32) = 0; decide), k1]
    obtain ⟨t2, q2, j1, j2, j3⟩ := ferL hl hc 120 0 gFuel z t' (by omega) (by omega) (by decide) k3
    have j1' : fX2_firstError_L18 gFuel t' 0 = some (pE (pL c len 120 z), t2) := j1
    simp only []
    rw [j1']
    rcases hz : pL c len 120 z with e | l
    · exact ⟨t2, rfl, j2.X, fun e' w => by cases w; exact j3 e hz⟩
    · exact ⟨t2, rfl, j2.X, fun e' w => by cases w⟩
/-- what a command does, and whether it is done -/
def cDo (A : AS) (a : Cm) : AS × Bool :=
  if a.1 = 116 then (if aCanTake A a.2.1 a.2.2 then aS A 0 a.2.2 (nI (a.2.1 + 1)) else A, aCanTake A a.2.1 a.2.2)
  else if a.1 = 112 then (if aCanPut A a.2.2 then aS A 0 a.2.2 0 else A, aCanPut A a.2.2)
  else if a.1 = 98 then (if aBookIn A a.2.2 then aS A 1 a.2.2 (1 - A.1 1 a.2.2) else A, aBookIn A a.2.2)
  else if a.1 = 111 then (if aCanWalk A a.2.1 1 then aWalk A a.2.1 (nI a.2.2) true else A, aCanWalk A a.2.1 1)
  else if a.1 = 105 then (if aCanWalk A a.2.1 0 then aWalk A a.2.1 (nI a.2.2) false else A, aCanWalk A a.2.1 0)
  else if a.1 = 114 then (if decide (A.1 5 a.2.1 = 1) then aTurn A a.2.1 else A, decide (A.1 5 a.2.1 = 1))
  else (aTicks a.2.1 A, true)
theorem G_ite {B : AS} {b : Bool} (h : Good T A) (h' : b = true → Good T B) : Good (T + 27) (if b then B else A) := by
  cases b with
  | true => exact Good_mono (h' rfl) (by omega)
  | false => exact Good_mono h (by omega)
theorem bor_flip (hI : Inv T A) {b : Nat} (hb : b < 20) : (1 - A.1 1 b = 0 ∨ 1 - A.1 1 b = 1) := by
  rcases (hI.2.1 b hb).1 with e | e <;> rw [e]
  · exact Or.inr rfl
  · exact Or.inl rfl
theorem aTicks_good (hG : Good T A) {n : Nat} (hn : n ≤ 9) {L : gS} (hA : RA L A) : Good (T + 27) (aTicks n A) := by
  obtain ⟨q, k1, ⟨-, k2⟩, ⟨k3, k4⟩, -⟩ := passTicks_s hA hG.1 hG.2 (n := n) (by omega)
  exact ⟨Inv_mono k3 (by omega), k4⟩
/-- the class does a command of its text -/
theorem doT_s {a : Cm} (hA : RA s.2.2.1 A) (hG : Good T A) (hf : FLD a s.2.1) : ∃ L, fX3_doTextCommand s = some (bI (cDo A a).2, (s.1, s.2.1, L, s.2.2.2)) ∧ RA L (cDo A a).1 ∧ Good (T + 27) (cDo A a).1 := by
  obtain ⟨h7, hd⟩ := hf
  unfold fX3_doTextCommand cDo
  simp only [gl]
  rw [h7]
  rcases hd with ⟨e, hv, hb, e8, e9⟩ | ⟨e, hb, e9⟩ | ⟨e, hb, e9⟩ | ⟨e, hv, hg, e8, e10⟩ | ⟨e, hv, hg, e8, e10⟩ | ⟨e, hv, e8⟩ | ⟨e, hn, hn9, e11⟩
  · simp only [e]
    rw [if_neg (by decide), if_neg (by decide), if_neg (by decide), if_neg (by decide), if_neg (by decide), if_pos (show nI 116 = (116 : Int32) from rfl), if_pos trivial, e8, e9]
    obtain ⟨L, t1, t2, -⟩ := tryTake_s hA hG.1 (v := a.2.1) (b := a.2.2) (by omega) (by omega) (c := aCanTake A a.2.1 a.2.2) (by rw [decide_eq_true (⟨hv, hb⟩ : a.2.1 < 6 ∧ a.2.2 < 20)]; rfl)
    rw [t1, Option.bind_some]
    simp only []
    rw [gd_t (bI_01 _)]
    exact ⟨L, rfl, t2, G_ite hG (fun _ => ⟨Inv_hold hG.1 (by omega), InvP_aS hG.2 (by decide) (by decide)⟩)⟩
  · simp only [e]
    rw [if_neg (by decide), if_neg (by decide), if_neg (by decide), if_pos (show nI 112 = (112 : Int32) from rfl), if_neg (by decide), if_pos trivial, e9]
    obtain ⟨L, t1, t2, -⟩ := tryPut_s hA hG.1 (b := a.2.2) (by omega) (c := aCanPut A a.2.2) (by rw [decide_eq_true hb]; rfl)
    rw [t1, Option.bind_some]
    simp only []
    rw [gd_t (bI_01 _)]
    exact ⟨L, rfl, t2, G_ite hG (fun _ => ⟨Inv_hold (k := 0) hG.1 (by omega), InvP_aS hG.2 (by decide) (by decide)⟩)⟩
  · simp only [e]
    rw [if_pos (show nI 98 = (98 : Int32) from rfl), if_neg (by decide), if_neg (by decide), if_pos trivial, e9]
    obtain ⟨L, t1, t2, -⟩ := tryBoB_s hA hG.1 hb (c := aBookIn A a.2.2) rfl
    rw [t1, Option.bind_some]
    simp only []
    rw [gd_t (bI_01 _)]
    exact ⟨L, rfl, t2, G_ite hG (fun _ => ⟨Inv_bor hG.1 (bor_flip hG.1 hb), InvP_aS hG.2 (by decide) (by decide)⟩)⟩
  · simp only [e]
    rw [if_neg (by decide), if_neg (by decide), if_pos (show nI 111 = (111 : Int32) from rfl), if_neg (by decide), if_neg (by decide), if_neg (by decide), if_pos trivial, e8, e10]
    obtain ⟨L, t1, t2, -⟩ := tryWalk_s hA (v := a.2.1) (g := a.2.2) (by omega) (by omega) true (c := aCanWalk A a.2.1 1) (by rw [decide_eq_true (⟨hv, hg⟩ : a.2.1 < 6 ∧ a.2.2 < 3)]; rfl)
    have t1' : fX1_tryWalk s.2.2.1 (nI a.2.1) (nI a.2.2) 1 = some (bI (aCanWalk A a.2.1 1), L) := t1
    rw [t1', Option.bind_some]
    simp only []
    rw [gd_t (bI_01 _)]
    exact ⟨L, rfl, t2, G_ite hG (fun _ => ⟨Inv_walk hG.1 hg true, InvP_walk hG.2 _ _ true⟩)⟩
  · simp only [e]
    rw [if_neg (by decide), if_pos (show nI 105 = (105 : Int32) from rfl), if_neg (by decide), if_neg (by decide), if_neg (by decide), if_neg (by decide), if_pos trivial, e8, e10]
    obtain ⟨L, t1, t2, -⟩ := tryWalk_s hA (v := a.2.1) (g := a.2.2) (by omega) (by omega) false (c := aCanWalk A a.2.1 0) (by rw [decide_eq_true (⟨hv, hg⟩ : a.2.1 < 6 ∧ a.2.2 < 3)]; rfl)
    have t1' : fX1_tryWalk s.2.2.1 (nI a.2.1) (nI a.2.2) 0 = some (bI (aCanWalk A a.2.1 0), L) := t1
    rw [t1', Option.bind_some]
    simp only []
    rw [gd_t (bI_01 _)]
    exact ⟨L, rfl, t2, G_ite hG (fun _ => ⟨Inv_walk hG.1 hg false, InvP_walk hG.2 _ _ false⟩)⟩
  · simp only [e]
    rw [if_neg (by decide), if_neg (by decide), if_neg (by decide), if_neg (by decide), if_pos (show nI 114 = (114 : Int32) from rfl), if_neg (by decide), if_neg (by decide), if_neg (by decide), if_neg (by decide), if_neg (by decide), if_pos trivial, e8]
    obtain ⟨L, t1, t2, -⟩ := tryTurn_s hA hG.1 (v := a.2.1) (by omega) (c := decide (A.1 5 a.2.1 = 1)) (by rw [decide_eq_true hv]; rfl)
    rw [t1, Option.bind_some]
    simp only []
    rw [gd_t (bI_01 _)]
    exact ⟨L, rfl, t2, G_ite hG (fun q => ⟨Inv_turn hG.1 hv (of_decide_eq_true q), InvP_aS hG.2 (by decide) (by decide)⟩)⟩
  · simp only [e]
    rw [if_neg (by decide), if_neg (by decide), if_neg (by decide), if_neg (by decide), if_neg (by decide), if_neg (by decide), if_neg (by decide), if_neg (by decide), if_neg (by decide), if_neg (by decide), if_neg (by decide), if_neg (by decide), e11]
    obtain ⟨q, k1, ⟨-, k2⟩, -, -⟩ := passTicks_s hA hG.1 hG.2 (n := a.2.1) (by omega)
    rw [k1, Option.bind_some]
    exact ⟨q.2, rfl, k2, aTicks_good hG hn9 hA⟩
def cRun : AS → List Cm → AS × Nat
  | A, [] => (A, 0)
  | A, a :: l => ((cRun (cDo A a).1 l).1, (if (cDo A a).2 = true then 0 else 1) + (cRun (cDo A a).1 l).2)
/-- the class's second reading: each command is done -/
theorem loadL (hl : len ≤ 120) (hc : ∀ i, i < len → c i ≤ 255) : ∀ (m i f p lo : Nat) (s : ST) (A : AS) (T : Nat) (l : List Cm), len ≤ p + m → i + m ≤ 120 → m < f → TC c len s.2.1 p → RA s.2.2.1 A → Good T A → pL c len m p = .inr l → ∃ t' L, fX3_load_L49 f s (nI lo) (nI i) = some (.inr (nI (lo + (cRun A l).2), (s.1, t', L, s.2.2.2))) ∧ TX c len t' ∧ RA L (cRun A l).1 ∧ Good (T + 27 * m) (cRun A l).1 := by
  intro m
  induction m with
  | zero =>
    intro i f p lo s A T l hm hi hf h hA hG hp
    obtain ⟨f, rfl⟩ : ∃ z, f = z + 1 := ⟨f - 1, by omega⟩
    simp only [fX3_load_L49]
    rw [pL_0 (by omega)] at hp
    cases hp
    by_cases q : 120 ≤ i
    · rw [if_pos ((lel_120 (by omega)).mpr q)]
      exact ⟨s.2.1, s.2.2.1, rfl, h.X, hA, hG⟩
    · rw [if_neg (fun z => q ((lel_120 (by omega)).mp z))]
      rcases cCm hl hc h with ⟨e, t', k1, k2, k3⟩ | ⟨a, z, t', k1, k2, k3, k4, -⟩
      · rw [k2, Option.bind_some]
        simp only [gl]
        rw [if_pos trivial]
        exact ⟨t', s.2.2.1, rfl, k3.X, hA, hG⟩
      · unfold pC at k1
        rw [if_neg (by omega)] at k1
        cases k1
  | succ m ih =>
    intro i f p lo s A T l hm hi hf h hA hG hp
    obtain ⟨f, rfl⟩ : ∃ z, f = z + 1 := ⟨f - 1, by omega⟩
    simp only [fX3_load_L49]
    rw [if_neg (fun z => absurd ((lel_120 (by omega)).mp z) (by omega))]
    rcases cCm hl hc h with ⟨e, t', k1, k2, k3⟩ | ⟨a, z, t', k1, k2, k3, k4, k5, -⟩
    · by_cases q : len ≤ p
      · rw [pL_0 q] at hp
        cases hp
        rw [k2, Option.bind_some]
        simp only [gl]
        rw [if_pos trivial]
        exact ⟨t', s.2.2.1, rfl, k3.X, hA, Good_mono hG (by omega)⟩
      · rw [pL_e q k1] at hp
        cases hp
    · have q : ¬ len ≤ p := fun q => by
        unfold pC at k1
        rw [if_neg (by omega)] at k1
        cases k1
      rcases hz : pL c len m z with e | l'
      · rw [pL_l q k1 hz] at hp
        cases hp
      · rw [pL_r q k1 hz] at hp
        cases hp
        rw [k2, Option.bind_some]
        simp only [gl]
        rw [if_neg (by decide)]
        obtain ⟨L, d1, d2, d3⟩ := doT_s (s := (s.1, t', s.2.2)) (a := a) hA hG k5
        rw [d1, Option.bind_some]
        simp only [nI_1]
        cases hb : (cDo A a).2 with
        | true =>
          rw [if_neg (show ¬ bI true = 0 by decide)]
          obtain ⟨t2, L2, j1, j2, j3, j4⟩ := ih (i + 1) f z lo (s.1, t', L, s.2.2.2) (cDo A a).1 (T + 27) l' (by omega) (by omega) (by omega) k3 d2 d3 hz
          refine ⟨t2, L2, ?_, j2, j3, Good_mono j4 (by omega)⟩
          rw [j1]
          simp only [cRun, hb, if_true, Nat.zero_add]
        | false =>
          rw [if_pos bI_f]
          obtain ⟨t2, L2, j1, j2, j3, j4⟩ := ih (i + 1) f z (lo + 1) (s.1, t', L, s.2.2.2) (cDo A a).1 (T + 27) l' (by omega) (by omega) (by omega) k3 d2 d3 hz
          refine ⟨t2, L2, ?_, j2, j3, Good_mono j4 (by omega)⟩
          rw [j1]
          simp only [cRun, hb, Bool.false_eq_true, if_false, Nat.add_assoc]
def aHdr (a : Hd) : AS := aS (aS (aS (aS (aS aClean 9 0 (nI a.1.1)) 9 1 (nI a.1.2.1)) 9 2 (nI a.1.2.2)) 12 0 (nI a.2.1)) 12 1 (nI a.2.2)
theorem Good_clean : Good T aClean := ⟨Inv_clean, fun v hv q => by
  have z : aClean.1 5 v = 0 := by
    show (if 5 = 12 then (if v = 0 then 2 else if v = 1 then 1 else 0) else if 5 = 9 ∧ v < 3 then 7 else 0) = (0 : Int32)
    rw [if_neg (by decide), if_neg (fun q => absurd q.1 (by decide))]
  rw [z] at q
  exact absurd q (by decide)⟩
theorem Good_aS (h : Good T A) {k i : Nat} {x : Int32} (hk : k = 9 ∨ k = 12) : Good T (aS A k i x) := ⟨Inv_aS h.1 (by omega), InvP_aS h.2 (by omega) (by omega)⟩
theorem Good_hdr (a : Hd) : Good T (aHdr a) := Good_aS (Good_aS (Good_aS (Good_aS (Good_aS Good_clean (by omega)) (by omega)) (by omega)) (by omega)) (by omega)
theorem putG_s {a : Hd} (hA : RA s.2.2.1 aClean) (hh : HDR a s.2.1) : ∃ L, fX3_putGatesOfText s = some (s.1, s.2.1, L, s.2.2.2) ∧ RA L (aHdr a) := by
  obtain ⟨h0, h1, h2, h5, h6⟩ := hh
  have st : ∀ (g f : Nat) (s : ST), g < 3 → fX3_putGatesOfText_L2 (f + 1) s (nI g) = fX3_putGatesOfText_L2 f (s.1, s.2.1, st2 s.2.2.1 1 g (s.2.1 2 g), s.2.2.2) (nI (g + 1)) := fun g f s hg => by
    simp (disch := omega) only [fX3_putGatesOfText_L2, gd_in, cl_nI, gl, nI_1]
    rw [if_neg (fun q => absurd ((lel_3 (by omega)).mp q) (by omega))]
  have e0 : fX3_putGatesOfText s = fX3_putGatesOfText_L2 (4999 + 1) s (nI 0) := rfl
  rw [e0, st 0 4999 s (by decide), st 1 4998 _ (by decide), st 2 4997 _ (by decide)]
  have fin : ∀ (f : Nat) (s : ST), fX3_putGatesOfText_L2 (f + 1) s (nI 3) = some (s.1, s.2.1, st2 (st2 s.2.2.1 9 10 (s.2.1 0 5)) 0 8 (s.2.1 0 6), s.2.2.2) := fun f s => by
    simp only [fX3_putGatesOfText_L2, gl]
    rw [if_pos (show (3 : Int32) ≤ nI 3 by decide)]
  rw [fin 4996]
  simp only []
  rw [h0, h1, h2, h5, h6]
  exact ⟨_, rfl, RA_calm (RA_sure (RA_str (RA_str (RA_str hA 0 _) 1 _) 2 _) _) _⟩
theorem fgE_s (s : ST) : ∃ L, fX3_forgetEverything s = some (st2 (st2 (st2 s.1 0 4 0) 1 0 0) 1 1 0, s.2.1, L, s.2.2.2) ∧ RA L aClean := by
  obtain ⟨L, k1, k2, -⟩ := clear_s s.2.2.1
  unfold fX3_forgetEverything
  rw [k1, Option.bind_some, gl_to rfl, gl_to rfl]
  have st : ∀ (i f : Nat) (s : ST), i < 2 → fX3_forgetEverything_L14 (f + 1) s (nI i) = fX3_forgetEverything_L14 f (st2 s.1 1 i 0, s.2) (nI (i + 1)) := fun i f s hi => by
    simp (disch := omega) only [fX3_forgetEverything_L14, gd_in, cl_nI, gl, nI_1]
    rw [if_neg (fun q => absurd ((lel_2 (by omega)).mp q) (by omega))]
  have fin : ∀ (f : Nat) (s : ST), fX3_forgetEverything_L14 (f + 1) s (nI 2) = some s := fun f s => by
    simp only [fX3_forgetEverything_L14]
    rw [if_pos (show (2 : Int32) ≤ nI 2 by decide)]
  have all : ∀ (f : Nat) (s : ST), fX3_forgetEverything_L14 (f + 1 + 1 + 1) s (0 : Int32) = some (st2 (st2 s.1 1 0 0) 1 1 0, s.2) := fun f s => (st 0 (f + 1 + 1) s (by decide)).trans ((st 1 (f + 1) _ (by decide)).trans (fin f _))
  obtain ⟨f, hf⟩ : ∃ f, gFuel = f + 1 + 1 + 1 := ⟨4997, rfl⟩
  rw [hf]
  exact ⟨L, all f _, k2⟩
end TY
