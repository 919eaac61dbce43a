section SL
variable {T : Nat} {A : AS}
theorem arr_keep (v : Nat) (out : Bool) (A : AS) (b : Nat) {k : Nat} (h2 : k ≠ 2) (h3 : k ≠ 3) (h12 : k ≠ 12) (h13 : k ≠ 13) : (aArr v out A b).1 k = A.1 k := by
  funext i
  unfold aArr
  split
  · split
    · split
      · split
        · rw [aS_1, st_ne (Or.inl h12)]
        · rw [aS_1, st_ne (Or.inl h13), aS_1, st_ne (Or.inl h12)]
      · rfl
    · show st2 (st2 A.1 2 b 0) 3 b 0 k i = _
      rw [st_ne (Or.inl h3), st_ne (Or.inl h2)]
  · rfl
theorem goOn_keep (A : AS) (v : Nat) {k i : Nat} (h2 : k ≠ 2) (h3 : k ≠ 3) (h12 : k ≠ 12) (h13 : k ≠ 13) (h5 : k ≠ 5 ∨ i ≠ v) (h7 : k ≠ 7 ∨ i ≠ v) : (aGoOn A v).1 k i = A.1 k i := by
  unfold aGoOn
  split
  · unfold aStep; rw [aS_1, st_ne h7]
  · unfold aArrive
    rw [fr_keep (f := aArr v _) (fun A b => arr_keep v _ A b h2 h3 h12 h13), aS_1, st_ne h5]
    unfold aStep; rw [aS_1, st_ne h7]
theorem move_keep (A : AS) (v : Nat) {k i : Nat} (h2 : k ≠ 2) (h3 : k ≠ 3) (h12 : k ≠ 12) (h13 : k ≠ 13) (h5 : k ≠ 5 ∨ i ≠ v) (h7 : k ≠ 7 ∨ i ≠ v) : (aMove A v).1 k i = A.1 k i := by
  unfold aMove
  split
  · exact goOn_keep A v h2 h3 h12 h13 h5 h7
  · rfl
def aZ (A : AS) (v : Nat) : Int32 := if A.1 8 v = 1 then 1 else -1
theorem step_place {p : Int32} (h : -3 ≤ p.toInt ∧ p.toInt ≤ 3) : (p + 1).toInt = p.toInt + 1 ∧ (p + -1).toInt = p.toInt - 1 := by
  rcases place_cases h with e | e | e | e | e | e | e <;> subst e <;> decide
/-- what moving does to a visitor at a gate -/
theorem move_self (hP : InvP A) {v : Nat} (hv : v < 6) (hw : A.1 5 v = 1) :
    ((aMove A v).1 5 v = 1 ∧ (aMove A v).1 7 v = A.1 7 v + aZ A v ∧ (-3 ≤ (A.1 7 v + aZ A v).toInt ∧ (A.1 7 v + aZ A v).toInt ≤ 3) ∧ (∀ i, (aMove A v).1 13 i = A.1 13 i) ∧ ∀ i, (aMove A v).1 3 i = A.1 3 i) ∨
    (A.1 8 v = 1 ∧ (aMove A v).1 5 v = 2 ∧ (∀ i, (aMove A v).1 13 i = if i < 20 ∧ aSli A v i = true then 1 else A.1 13 i) ∧ ∀ i, (aMove A v).1 3 i = A.1 3 i) ∨
    (A.1 8 v ≠ 1 ∧ (aMove A v).1 5 v = 0 ∧ (∀ i, (aMove A v).1 13 i = A.1 13 i) ∧ ∀ i, (aMove A v).1 3 i = if i < 20 ∧ holds A v i = true then 0 else A.1 3 i) := by
  have em : aMove A v = aGoOn A v := if_pos hw
  have e7 : (aStep A v).1 7 v = A.1 7 v + aZ A v := by unfold aStep aZ; rw [aS_1, st_eq rfl rfl]
  have es : ∀ k i, k ≠ 7 → (aStep A v).1 k i = A.1 k i := fun k i h => by unfold aStep; rw [aS_1, st_ne (Or.inl h)]
  rw [em]
  unfold aGoOn
  rw [e7]
  by_cases c : -3 ≤ (A.1 7 v + aZ A v).toInt ∧ (A.1 7 v + aZ A v).toInt ≤ 3
  · rw [if_pos c]
    exact Or.inl ⟨(es 5 v (by decide)).trans hw, e7, c, fun i => es 13 i (by decide), fun i => es 3 i (by decide)⟩
  · rw [if_neg c]
    have s1 : ∀ (x : Int32) k i, k ≠ 7 → k ≠ 5 → (aS (aStep A v) 5 v x).1 k i = A.1 k i := fun x k i h h5 => by rw [aS_1, st_ne (Or.inl h5)]; exact es k i h
    by_cases h8 : A.1 8 v = 1
    · refine Or.inr (Or.inl ⟨h8, ?_, fun i => ?_, fun i => ?_⟩)
      · unfold aArrive
        rw [decide_eq_true h8, fr_keep (f := aArr v true) (fun A b => arr_keep v _ A b (by decide) (by decide) (by decide) (by decide)), aS_1, st_eq rfl rfl, if_pos rfl]
      · unfold aArrive
        rw [decide_eq_true h8, arrT_eq]
        have t : aSli (aS (aStep A v) 5 v (if true = true then 2 else 0)) v i = aSli A v i := by
          unfold aSli holds
          rw [s1 _ 0 i (by decide) (by decide), s1 _ 1 i (by decide) (by decide), s1 _ 3 i (by decide) (by decide)]
        have u : ∀ (B : AS), (if 13 = 12 ∧ i = 3 then B.1 12 3 + nI (fb_ct (fun i => aCau B v (0 + i)) 20) else if 13 = 12 ∧ i = 4 then B.1 12 4 + nI (fb_ct (fun i => aSli B v (0 + i)) 20) else if 13 = 13 ∧ 0 ≤ i ∧ i < 0 + 20 ∧ aSli B v i = true then (1 : Int32) else B.1 13 i) = if i < 20 ∧ aSli B v i = true then 1 else B.1 13 i := fun B => by
          rw [if_neg (by omega), if_neg (by omega)]
          by_cases q : i < 20 ∧ aSli B v i = true
          · rw [if_pos q, if_pos ⟨rfl, by omega, by omega, q.2⟩]
          · rw [if_neg q, if_neg (fun z => q ⟨by omega, z.2.2.2⟩)]
        refine (u (aS (aStep A v) 5 v (if true = true then 2 else 0))).trans ?_
        rw [t, s1 _ 13 i (by decide) (by decide)]
      · unfold aArrive
        rw [decide_eq_true h8, arrT_eq]
        have u : ∀ (B : AS), (if 3 = 12 ∧ i = 3 then B.1 12 3 + nI (fb_ct (fun i => aCau B v (0 + i)) 20) else if 3 = 12 ∧ i = 4 then B.1 12 4 + nI (fb_ct (fun i => aSli B v (0 + i)) 20) else if 3 = 13 ∧ 0 ≤ i ∧ i < 0 + 20 ∧ aSli B v i = true then (1 : Int32) else B.1 3 i) = B.1 3 i := fun B => by
          rw [if_neg (by omega), if_neg (by omega), if_neg (by omega)]
        refine (u (aS (aStep A v) 5 v (if true = true then 2 else 0))).trans ?_
        rw [s1 _ 3 i (by decide) (by decide)]
    · refine Or.inr (Or.inr ⟨h8, ?_, fun i => ?_, fun i => ?_⟩)
      · unfold aArrive
        rw [decide_eq_false h8, fr_keep (f := aArr v false) (fun A b => arr_keep v _ A b (by decide) (by decide) (by decide) (by decide)), aS_1, st_eq rfl rfl, if_neg (by decide)]
      · unfold aArrive
        rw [decide_eq_false h8, arrF_eq]
        have u : ∀ (B : AS), (if (13 = 2 ∨ 13 = 3) ∧ 0 ≤ i ∧ i < 0 + 20 ∧ holds B v i = true then (0 : Int32) else B.1 13 i) = B.1 13 i := fun B => if_neg (by omega)
        refine (u (aS (aStep A v) 5 v (if false = true then 2 else 0))).trans ?_
        rw [s1 _ 13 i (by decide) (by decide)]
      · unfold aArrive
        rw [decide_eq_false h8, arrF_eq]
        have t : holds (aS (aStep A v) 5 v (if false = true then 2 else 0)) v i = holds A v i := by
          unfold holds
          rw [s1 _ 0 i (by decide) (by decide)]
        have u : ∀ (B : AS), (if (3 = 2 ∨ 3 = 3) ∧ 0 ≤ i ∧ i < 0 + 20 ∧ holds B v i = true then (0 : Int32) else B.1 3 i) = if i < 20 ∧ holds B v i = true then 0 else B.1 3 i := fun B => by
          by_cases q : i < 20 ∧ holds B v i = true
          · rw [if_pos q, if_pos ⟨Or.inr rfl, by omega, by omega, q.2⟩]
          · rw [if_neg q, if_neg (fun z => q ⟨by omega, z.2.2.2⟩)]
        refine (u (aS (aStep A v) 5 v (if false = true then 2 else 0))).trans ?_
        rw [t, s1 _ 3 i (by decide) (by decide)]
/-- how far a visitor is, n ticks after A0 -/
def cV (A0 : AS) (n : Nat) (B : AS) (v : Nat) : Prop := (A0.1 5 v ≠ 1 → B.1 5 v = A0.1 5 v) ∧ (B.1 5 v = 1 → (A0.1 8 v = 1 → -3 + (n : Int) ≤ (B.1 7 v).toInt) ∧ (A0.1 8 v ≠ 1 → (B.1 7 v).toInt ≤ 3 - (n : Int)))
def cB (A0 B : AS) : Prop := (∀ b, B.1 0 b = A0.1 0 b) ∧ (∀ b, B.1 1 b = A0.1 1 b) ∧ (∀ v, B.1 8 v = A0.1 8 v) ∧ ∀ b, b < 20 → (B.1 13 b = 1 ↔ ∃ v, v < 6 ∧ A0.1 0 b = nI (v + 1) ∧ A0.1 5 v = 1 ∧ B.1 5 v = 2 ∧ A0.1 1 b = 0 ∧ B.1 3 b ≠ 1)
theorem cMove {A0 B : AS} {n v : Nat} (hv : v < 6) (hP : InvP B) (hI : Inv T B) (hB : cB A0 B) (hV : ∀ v', v' < 6 → cV A0 (if v' < v then n + 1 else n) B v') : cB A0 (aMove B v) ∧ ∀ v', v' < 6 → cV A0 (if v' < v + 1 then n + 1 else n) (aMove B v) v' := by
  obtain ⟨k0, k1, k8, k13⟩ := hB
  have m0 : ∀ b, (aMove B v).1 0 b = A0.1 0 b := fun b => (move_keep B v (by decide) (by decide) (by decide) (by decide) (Or.inl (by decide)) (Or.inl (by decide))).trans (k0 b)
  have m1 : ∀ b, (aMove B v).1 1 b = A0.1 1 b := fun b => (move_keep B v (by decide) (by decide) (by decide) (by decide) (Or.inl (by decide)) (Or.inl (by decide))).trans (k1 b)
  have m8 : ∀ b, (aMove B v).1 8 b = A0.1 8 b := fun b => (move_keep B v (by decide) (by decide) (by decide) (by decide) (Or.inl (by decide)) (Or.inl (by decide))).trans (k8 b)
  have m5 : ∀ v', v' ≠ v → (aMove B v).1 5 v' = B.1 5 v' := fun v' h => move_keep B v (by decide) (by decide) (by decide) (by decide) (Or.inr h) (Or.inr h)
  have m7 : ∀ v', v' ≠ v → (aMove B v).1 7 v' = B.1 7 v' := fun v' h => move_keep B v (by decide) (by decide) (by decide) (by decide) (Or.inr h) (Or.inr h)
  have other : ∀ v', v' < 6 → v' ≠ v → cV A0 (if v' < v + 1 then n + 1 else n) (aMove B v) v' := fun v' hv' h => by
    have := hV v' hv'
    unfold cV at this ⊢
    rw [m5 v' h, m7 v' h]
    by_cases q : v' < v
    · rw [if_pos q] at this; rw [if_pos (by omega)]; exact this
    · rw [if_neg q] at this; rw [if_neg (by omega)]; exact this
  have hself := hV v hv
  rw [if_neg (Nat.lt_irrefl v)] at hself
  by_cases hw : B.1 5 v = 1
  · have a5 : A0.1 5 v = 1 := Classical.byContradiction fun q => by
      have := hself.1 q
      rw [hw] at this
      exact q this.symm
    have pl := hP v hv hw
    have sp := step_place pl
    obtain ⟨d1, d2⟩ := hself.2 hw
    have uniq : ∀ b v', v' < 6 → A0.1 0 b = nI (v + 1) → A0.1 0 b = nI (v' + 1) → v' = v := fun b v' hv' e e' => by
      rw [e, nI_inj (by omega) (by omega)] at e'; omega
    have hh : ∀ b, holds B v b = true ↔ A0.1 0 b = nI (v + 1) := fun b => by unfold holds; rw [k0, decide_eq_true_eq]
    rcases move_self hP hv hw with ⟨s5, s7, sb, s13, s3⟩ | ⟨s8, s5, s13, s3⟩ | ⟨s8, s5, s13, s3⟩
    · refine ⟨⟨m0, m1, m8, fun b hb => ?_⟩, fun v' hv' => ?_⟩
      · rw [s13, s3, k13 b hb]
        have e5 : ∀ v', (aMove B v).1 5 v' = B.1 5 v' := fun v' => by
          by_cases q : v' = v
          · rw [q, s5, hw]
          · exact m5 v' q
        simp only [e5]
      · by_cases q : v' = v
        · subst q
          rw [if_pos (by omega)]
          refine ⟨fun z => absurd a5 z, fun _ => ⟨fun z => ?_, fun z => ?_⟩⟩
          · have t : aZ B v' = 1 := by unfold aZ; rw [k8, if_pos z]
            rw [s7, t, sp.1]
            have := d1 z
            omega
          · have t : aZ B v' = -1 := by unfold aZ; rw [k8, if_neg z]
            rw [s7, t, sp.2]
            have := d2 z
            omega
        · exact other v' hv' q
    · refine ⟨⟨m0, m1, m8, fun b hb => ?_⟩, fun v' hv' => ?_⟩
      · rw [s13, s3]
        by_cases q : aSli B v b = true
        · rw [if_pos ⟨hb, q⟩]
          unfold aSli at q
          rw [Bool.and_eq_true, Bool.and_eq_true, decide_eq_true_eq, Bool.not_eq_true', decide_eq_false_iff_not] at q
          refine ⟨fun _ => ⟨v, hv, (hh b).mp q.1, a5, s5, by rw [← k1]; exact q.2.1, q.2.2⟩, fun _ => rfl⟩
        · rw [if_neg (fun z => q z.2), k13 b hb]
          constructor
          · rintro ⟨v', a, b1, c, d, e⟩
            refine ⟨v', a, b1, c, ?_, e⟩
            by_cases z : v' = v
            · rw [z]; exact s5
            · rw [m5 v' z]; exact d
          · rintro ⟨v', a, b1, c, d, e, f⟩
            by_cases z : v' = v
            · subst z
              exfalso
              apply q
              unfold aSli
              rw [(hh b).mpr b1, k1, decide_eq_true e, decide_eq_false f]; rfl
            · rw [m5 v' z] at d
              exact ⟨v', a, b1, c, d, e, f⟩
      · by_cases q : v' = v
        · subst q
          rw [if_pos (by omega)]
          refine ⟨fun z => absurd a5 z, fun z => ?_⟩
          rw [s5] at z
          exact absurd z (by decide)
        · exact other v' hv' q
    · refine ⟨⟨m0, m1, m8, fun b hb => ?_⟩, fun v' hv' => ?_⟩
      · rw [s13, s3, k13 b hb]
        constructor
        · rintro ⟨v', a, b1, c, d, e, f⟩
          have z : v' ≠ v := fun z => by rw [z, hw] at d; exact absurd d (by decide)
          refine ⟨v', a, b1, c, by rw [m5 v' z]; exact d, e, ?_⟩
          rw [if_neg (fun y => z (uniq b v' a ((hh b).mp y.2) b1))]
          exact f
        · rintro ⟨v', a, b1, c, d, e, f⟩
          have z : v' ≠ v := fun z => by rw [z, s5] at d; exact absurd d (by decide)
          rw [m5 v' z] at d
          refine ⟨v', a, b1, c, d, e, ?_⟩
          rw [if_neg (fun y => z (uniq b v' a ((hh b).mp y.2) b1))] at f
          exact f
      · by_cases q : v' = v
        · subst q
          rw [if_pos (by omega)]
          refine ⟨fun z => absurd a5 z, fun z => ?_⟩
          rw [s5] at z
          exact absurd z (by decide)
        · exact other v' hv' q
  · have em : aMove B v = B := if_neg hw
    rw [em]
    refine ⟨⟨k0, k1, k8, k13⟩, fun v' hv' => ?_⟩
    by_cases q : v' = v
    · subst q
      exact ⟨hself.1, fun z => absurd z hw⟩
    · have := other v' hv' q
      rw [em] at this; exact this
end SL
