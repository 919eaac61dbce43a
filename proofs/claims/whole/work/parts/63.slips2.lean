section SM
variable {T : Nat} {A : AS}
theorem fr_inv2 {α : Type} {P : α → Prop} {f : α → Nat → α} (N : Nat) (hs : ∀ a b, b < N → P a → P (f a b)) : ∀ (m b : Nat) (a : α), b + m = N → P a → P (fr f m b a) := by
  intro m
  induction m with
  | zero => intro b a _ h; exact h
  | succ m ih => intro b a hb h; rw [fr_succ]; exact ih _ _ (by omega) (hs a b (by omega) h)
theorem noRead {B : AS} {b v : Nat} (hv : v < 6) (hh : B.1 0 b = nI (v + 1)) (hw : B.1 5 v ≠ 1) (g : Nat) : aReadsBook B g b = false := by
  unfold aReadsBook aReads
  have : aHolder B b = v := by unfold aHolder; rw [hh, nI_pred, cl_nI (by omega)]
  rw [this, decide_eq_false hw, Bool.false_and, Bool.and_false]
theorem read3 {B : AS} {b v : Nat} (hv : v < 6) (hh : B.1 0 b = nI (v + 1)) (hw : B.1 5 v ≠ 1) : (fr aReadGate 3 0 B).1 3 b = B.1 3 b := by
  have st : ∀ (g : Nat) (C : AS) (b' : Nat), (C.1 0 b = nI (v + 1) ∧ C.1 5 v ≠ 1 ∧ C.1 3 b = B.1 3 b) → ((aReadStep g C b').1 0 b = nI (v + 1) ∧ (aReadStep g C b').1 5 v ≠ 1 ∧ (aReadStep g C b').1 3 b = B.1 3 b) := by
    rintro g C b' ⟨c0, c5, c3⟩
    refine ⟨by rw [readStep_1 C g b' (by decide) (Or.inl (by decide))]; exact c0, by rw [readStep_1 C g b' (by decide) (Or.inl (by decide))]; exact c5, ?_⟩
    by_cases e : b = b'
    · subst e
      have : aReadStep g C b = C := by unfold aReadStep; rw [noRead hv c0 c5 g]; rfl
      rw [this]; exact c3
    · rw [readStep_1 C g b' (by decide) (Or.inr e)]; exact c3
  have := fr_inv (P := fun C : AS => C.1 0 b = nI (v + 1) ∧ C.1 5 v ≠ 1 ∧ C.1 3 b = B.1 3 b) (f := aReadGate) (fun C g h => by
    unfold aReadGate
    exact fr_inv (P := fun C : AS => C.1 0 b = nI (v + 1) ∧ C.1 5 v ≠ 1 ∧ C.1 3 b = B.1 3 b) (f := aReadStep g) (fun a b' h => st g a b' h) 20 0 C h) 3 0 B ⟨hh, hw, rfl⟩
  exact this.2.2
theorem tick_tail (B : AS) {k : Nat} (h2 : k ≠ 2) (h3 : k ≠ 3) (h4 : k ≠ 4) (h10 : k ≠ 10) (h11 : k ≠ 11) : (fr aSpeak 3 0 (fr aReadGate 3 0 B)).1 k = B.1 k := by
  rw [fr_keep (f := aSpeak) (fun A b => speak_keep A b h4 h10 h11), fr_keep (f := aReadGate) (fun A g => readGate_keep A g h2 h3)]
theorem cMoves {A0 : AS} {n : Nat} : ∀ (m v : Nat) (B : AS), v + m = 6 → InvP B → Inv T B → cB A0 B → (∀ v', v' < 6 → cV A0 (if v' < v then n + 1 else n) B v') → cB A0 (fr aMove m v B) ∧ ∀ v', v' < 6 → cV A0 (n + 1) (fr aMove m v B) v' := by
  intro m
  induction m with
  | zero =>
    intro v B hv hP hI hB hV
    refine ⟨hB, fun v' hv' => ?_⟩
    have := hV v' hv'
    rw [if_pos (by omega)] at this
    exact this
  | succ m ih =>
    intro v B hv hP hI hB hV
    rw [fr_succ]
    obtain ⟨c1, c2⟩ := cMove (v := v) (by omega) hP hI hB hV
    refine ih (v + 1) _ (by omega) ?_ ?_ c1 c2
    · unfold aMove; split
      · exact InvP_goOn hP
      · exact hP
    · unfold aMove; split
      · exact Inv_goOn hI
      · exact hI
theorem cTick {A0 B : AS} {n : Nat} (hP : InvP B) (hI : Inv T B) (hB : cB A0 B) (hV : ∀ v, v < 6 → cV A0 n B v) : cB A0 (aTick B) ∧ ∀ v, v < 6 → cV A0 (n + 1) (aTick B) v := by
  have s : ∀ k i, k ≠ 12 → (aS B 12 2 (B.1 12 2 + 1)).1 k i = B.1 k i := fun k i h => by rw [aS_1, st_ne (Or.inl h)]
  have hB0 : cB A0 (aS B 12 2 (B.1 12 2 + 1)) := by
    obtain ⟨k0, k1, k8, k13⟩ := hB
    refine ⟨fun b => (s 0 b (by decide)).trans (k0 b), fun b => (s 1 b (by decide)).trans (k1 b), fun b => (s 8 b (by decide)).trans (k8 b), fun b hb => ?_⟩
    simp (disch := decide) only [s]
    exact k13 b hb
  have hV0 : ∀ v, v < 6 → cV A0 (if v < 0 then n + 1 else n) (aS B 12 2 (B.1 12 2 + 1)) v := fun v hv => by
    rw [if_neg (Nat.not_lt_zero _)]
    have := hV v hv
    unfold cV at this ⊢
    rw [s 5 v (by decide), s 7 v (by decide)]
    exact this
  obtain ⟨c1, c2⟩ := cMoves (A0 := A0) (n := n) 6 0 (aS B 12 2 (B.1 12 2 + 1)) rfl (InvP_aS hP (by decide) (by decide)) (Inv_aS hI (by omega)) hB0 hV0
  unfold aTick
  generalize fr aMove 6 0 (aS B 12 2 (B.1 12 2 + 1)) = C at c1 c2
  have t : ∀ k i, k ≠ 2 → k ≠ 3 → k ≠ 4 → k ≠ 10 → k ≠ 11 → (fr aSpeak 3 0 (fr aReadGate 3 0 C)).1 k i = C.1 k i := fun k i a b c d e => by rw [tick_tail C a b c d e]
  refine ⟨?_, fun v hv => ?_⟩
  · obtain ⟨k0, k1, k8, k13⟩ := c1
    refine ⟨fun b => (t 0 b (by decide) (by decide) (by decide) (by decide) (by decide)).trans (k0 b), fun b => (t 1 b (by decide) (by decide) (by decide) (by decide) (by decide)).trans (k1 b), fun b => (t 8 b (by decide) (by decide) (by decide) (by decide) (by decide)).trans (k8 b), fun b hb => ?_⟩
    rw [t 13 b (by decide) (by decide) (by decide) (by decide) (by decide), k13 b hb]
    have sp3 : (fr aSpeak 3 0 (fr aReadGate 3 0 C)).1 3 b = (fr aReadGate 3 0 C).1 3 b := by
      rw [fr_keep (f := aSpeak) (fun A b => speak_keep A b (by decide) (by decide) (by decide))]
    constructor
    · rintro ⟨v, a, b1, c, d, e, f⟩
      refine ⟨v, a, b1, c, by rw [t 5 v (by decide) (by decide) (by decide) (by decide) (by decide)]; exact d, e, ?_⟩
      rw [sp3, read3 a ((k0 b).trans b1) (by rw [d]; decide)]
      exact f
    · rintro ⟨v, a, b1, c, d, e, f⟩
      rw [t 5 v (by decide) (by decide) (by decide) (by decide) (by decide)] at d
      rw [sp3, read3 a ((k0 b).trans b1) (by rw [d]; decide)] at f
      exact ⟨v, a, b1, c, d, e, f⟩
  · have := c2 v hv
    unfold cV at this ⊢
    rw [t 5 v (by decide) (by decide) (by decide) (by decide) (by decide), t 7 v (by decide) (by decide) (by decide) (by decide) (by decide)]
    exact this
theorem aTicks_succ : ∀ (n : Nat) (A : AS), aTicks (n + 1) A = aTick (aTicks n A) := by
  intro n
  induction n with
  | zero => intro A; rfl
  | succ n ih => intro A; show aTicks (n + 1) (aTick A) = _; rw [ih]; rfl
theorem InvP_tick (hP : InvP A) : InvP (aTick A) := by
  intro v hv hw
  unfold aTick at hw ⊢
  rw [tick_tail _ (by decide) (by decide) (by decide) (by decide) (by decide)] at hw
  rw [tick_tail _ (by decide) (by decide) (by decide) (by decide) (by decide)]
  refine fr_inv (P := InvP) (f := aMove) (fun a b h => ?_) 6 0 _ (InvP_aS hP (by decide) (by decide)) v hv hw
  unfold aMove; split
  · exact InvP_goOn h
  · exact h
theorem Inv_ticks : ∀ (n : Nat) (T : Nat) (A : AS), Inv T A → Inv (T + 3 * n) (aTicks n A) := by
  intro n
  induction n with
  | zero => intro T A h; exact h
  | succ n ih => intro T A h; have := ih (T + 3) (aTick A) (Inv_tick h); rw [show T + 3 * (n + 1) = T + 3 + 3 * n by omega]; exact this
theorem InvP_ticks : ∀ (n : Nat) (A : AS), InvP A → InvP (aTicks n A) := by
  intro n
  induction n with
  | zero => intro A h; exact h
  | succ n ih => intro A h; exact ih (aTick A) (InvP_tick h)
theorem cTicks {A0 : AS} (hP : InvP A0) (hI : Inv T A0) (hz : ∀ b, A0.1 13 b = 0) : ∀ n, cB A0 (aTicks n A0) ∧ ∀ v, v < 6 → cV A0 n (aTicks n A0) v := by
  intro n
  induction n with
  | zero =>
    refine ⟨⟨fun _ => rfl, fun _ => rfl, fun _ => rfl, fun b hb => ?_⟩, fun v hv => ⟨fun _ => rfl, fun q => ?_⟩⟩
    · show A0.1 13 b = 1 ↔ _
      rw [hz b]
      constructor
      · intro q; exact absurd q (by decide)
      · rintro ⟨v, a, b1, c, d, e, f⟩
        have d' : A0.1 5 v = 2 := d
        rw [c] at d'; exact absurd d' (by decide)
    · have := hP v hv q
      exact ⟨fun _ => by show -3 + (0 : Int) ≤ (A0.1 7 v).toInt; omega, fun _ => by show (A0.1 7 v).toInt ≤ 3 - (0 : Int); omega⟩
  | succ n ih =>
    rw [aTicks_succ]
    exact cTick (InvP_ticks n A0 hP) (Inv_ticks n T A0 hI) ih.1 ih.2
theorem aTicks8 (A : AS) : aTicks 8 A = aTick (aTicks 7 A) := aTicks_succ 7 A
theorem quiet_tick {A0 B : AS} {b : Nat} (k0 : ∀ b, B.1 0 b = A0.1 0 b) (hw : ∀ v, v < 6 → B.1 5 v ≠ 1) : (∀ v, (aTick B).1 5 v = B.1 5 v) ∧ ∀ v, v < 6 → A0.1 0 b = nI (v + 1) → (aTick B).1 3 b = B.1 3 b := by
  have mv : ∀ (m v : Nat) (C : AS), v + m = 6 → (∀ v, v < 6 → C.1 5 v ≠ 1) → fr aMove m v C = C := by
    intro m
    induction m with
    | zero => intro v C _ _; rfl
    | succ m ih =>
      intro v C hv h
      rw [fr_succ, show aMove C v = C from if_neg (h v (by omega))]
      exact ih (v + 1) C (by omega) h
  have s : ∀ k i, k ≠ 12 → (aS B 12 2 (B.1 12 2 + 1)).1 k i = B.1 k i := fun k i h => by rw [aS_1, st_ne (Or.inl h)]
  have e5 : ∀ v, (aTick B).1 5 v = B.1 5 v := fun v => by
    unfold aTick
    rw [tick_tail _ (by decide) (by decide) (by decide) (by decide) (by decide), mv 6 0 _ rfl (fun v hv => by rw [s 5 v (by decide)]; exact hw v hv)]
    exact s 5 v (by decide)
  have e3 : ∀ v, v < 6 → A0.1 0 b = nI (v + 1) → (aTick B).1 3 b = B.1 3 b := fun v hv e => by
    unfold aTick
    rw [fr_keep (f := aSpeak) (fun A b => speak_keep A b (by decide) (by decide) (by decide)), mv 6 0 _ rfl (fun v hv => by rw [s 5 v (by decide)]; exact hw v hv), read3 hv (by rw [s 0 b (by decide)]; exact (k0 b).trans e) (by rw [s 5 v (by decide)]; exact hw v hv)]
    exact s 3 b (by decide)
  exact ⟨e5, e3⟩
theorem slips_set0 {A0 B : AS} (c1 : cB A0 B) (c2 : ∀ v, v < 6 → cV A0 7 B v) (hP7 : InvP B) {b : Nat} (hb : b < 20) : (B.1 13 b = 1 ↔ ∃ v, v < 6 ∧ A0.1 0 b = nI (v + 1) ∧ A0.1 5 v = 1 ∧ (aTick B).1 5 v = 2 ∧ A0.1 1 b = 0 ∧ (aTick B).1 3 b ≠ 1) := by
  have hw : ∀ v, v < 6 → B.1 5 v ≠ 1 := fun v hv q => by
    by_cases a : A0.1 5 v = 1
    · have p := hP7 v hv q
      obtain ⟨d1, d2⟩ := (c2 v hv).2 q
      by_cases o : A0.1 8 v = 1
      · have := d1 o; omega
      · have := d2 o; omega
    · have := (c2 v hv).1 a
      rw [q] at this
      exact a this.symm
  obtain ⟨e5, e3⟩ := quiet_tick (b := b) c1.1 hw
  rw [c1.2.2.2 b hb]
  constructor
  · rintro ⟨v, a, b1, c, d, e, f⟩
    exact ⟨v, a, b1, c, by rw [e5]; exact d, e, by rw [e3 v a b1]; exact f⟩
  · rintro ⟨v, a, b1, c, d, e, f⟩
    rw [e5] at d
    rw [e3 v a b1] at f
    exact ⟨v, a, b1, c, d, e, f⟩
theorem slips_set {A0 : AS} (hP : InvP A0) (hI : Inv T A0) (hz : ∀ b, A0.1 13 b = 0) {b : Nat} (hb : b < 20) : ((aTicks 7 A0).1 13 b = 1 ↔ ∃ v, v < 6 ∧ A0.1 0 b = nI (v + 1) ∧ A0.1 5 v = 1 ∧ (aTicks 8 A0).1 5 v = 2 ∧ A0.1 1 b = 0 ∧ (aTicks 8 A0).1 3 b ≠ 1) := by
  have h := cTicks hP hI hz 7
  rw [aTicks8]
  exact slips_set0 h.1 h.2 (InvP_ticks 7 A0 hP) hb
end SM
