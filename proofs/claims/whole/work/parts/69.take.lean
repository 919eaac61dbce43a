section TK
variable {T T' : Nat} {A A' : AS} {s s' : ST} {r r' : gS}
theorem lt_int (x : Int32) {n : Nat} (hn : n < 2147483648) : x < nI n ↔ x.toInt < (n : Int) := by
  rw [Int32.lt_iff_toInt_lt, show (nI n).toInt = (n : Int) from Int32.toInt_ofNat_of_lt hn]
theorem le_int (x : Int32) {n : Nat} (hn : n < 2147483648) : nI n ≤ x ↔ (n : Int) ≤ x.toInt := by
  rw [Int32.le_iff_toInt_le, show (nI n).toInt = (n : Int) from Int32.toInt_ofNat_of_lt hn]
theorem rng_any (p : Int32) {n : Nat} (hn : n < 2147483648) : (if p < 0 then some ((0 : Int32), ()) else (if nI n ≤ p then some ((0 : Int32), ()) else some ((1 : Int32), ()))) = some (bI (decide (0 ≤ p.toInt ∧ p.toInt < (n : Int))), ()) := by
  have l0 : p < 0 ↔ p.toInt < 0 := lt_int p (n := 0) (by decide)
  have l1 := le_int p hn
  by_cases c : p < 0
  · rw [if_pos c, decide_eq_false (fun q => by have := l0.mp c; omega)]; rfl
  · rw [if_neg c]
    by_cases d : nI n ≤ p
    · rw [if_pos d, decide_eq_false (fun q => by have := l1.mp d; omega)]; rfl
    · rw [if_neg d, decide_eq_true ⟨by have h : ¬ p.toInt < 0 := fun q => c (l0.mpr q); omega, by have h : ¬ (n : Int) ≤ p.toInt := fun q => d (l1.mpr q); omega⟩]; rfl
theorem reqB (p : Int32) : fX3_requireBook p = some (if 0 ≤ p.toInt ∧ p.toInt < 20 then .inr () else .inl (3, ())) := by
  have e : fX3_isBook p = some (bI (decide (0 ≤ p.toInt ∧ p.toInt < 20)), ()) := rng_any p (n := 20) (by decide)
  unfold fX3_requireBook
  rw [e, Option.bind_some]
  by_cases c : 0 ≤ p.toInt ∧ p.toInt < 20
  · rw [if_pos c, decide_eq_true c]; rfl
  · rw [if_neg c, decide_eq_false c]; rfl
theorem reqV (p : Int32) : fX3_requireVisitor p = some (if 0 ≤ p.toInt ∧ p.toInt < 6 then .inr () else .inl (3, ())) := by
  have e : fX3_isVisitor p = some (bI (decide (0 ≤ p.toInt ∧ p.toInt < 6)), ()) := rng_any p (n := 6) (by decide)
  unfold fX3_requireVisitor
  rw [e, Option.bind_some]
  by_cases c : 0 ≤ p.toInt ∧ p.toInt < 6
  · rw [if_pos c, decide_eq_true c]; rfl
  · rw [if_neg c, decide_eq_false c]; rfl
theorem reqA (c : Bool) : fX3_requireAllowed (bI c) = some (if c = true then .inr () else .inl (2, ())) := by
  cases c <;> rfl
theorem tb_in {α V : Type} (f : Option ((Nat × Unit) ⊕ Unit)) (σ : α) (k : Option ((Nat × α) ⊕ V)) (h : f = some (.inr ())) : tb f σ k = k := by subst h; rfl
theorem tb_out {α V : Type} {n : Nat} (f : Option ((Nat × Unit) ⊕ Unit)) (σ : α) (k : Option ((Nat × α) ⊕ V)) (h : f = some (.inl (n, ()))) : tb f σ k = some (.inl (n, σ)) := by subst h; rfl
theorem mB (p : Int32) : fX4_isBook p = some (bI (decide (0 ≤ p.toInt ∧ p.toInt < 20)), ()) := by
  unfold fX4_isBook
  rw [inI_spec p 0 19 0 19 (by decide) (by decide), Option.bind_some, gd_t (bI_01 _)]
  have : decide (0 ≤ p.toInt ∧ p.toInt ≤ 19) = decide (0 ≤ p.toInt ∧ p.toInt < 20) := by
    by_cases c : 0 ≤ p.toInt ∧ p.toInt < 20
    · rw [decide_eq_true c, decide_eq_true (by omega)]
    · rw [decide_eq_false c, decide_eq_false (by omega)]
  rw [this]
theorem mV (p : Int32) : fX4_isVisitor p = some (bI (decide (0 ≤ p.toInt ∧ p.toInt < 6)), ()) := by
  unfold fX4_isVisitor
  rw [inI_spec p 0 5 0 5 (by decide) (by decide), Option.bind_some, gd_t (bI_01 _)]
  have : decide (0 ≤ p.toInt ∧ p.toInt ≤ 5) = decide (0 ≤ p.toInt ∧ p.toInt < 6) := by
    by_cases c : 0 ≤ p.toInt ∧ p.toInt < 6
    · rw [decide_eq_true c, decide_eq_true (by omega)]
    · rw [decide_eq_false c, decide_eq_false (by omega)]
  rw [this]
theorem refused_0 (r : gS) : fX4_refused r 0 = some (0, st2 r 0 0 0) := rfl
theorem refused_1 (r : gS) : fX4_refused r 1 = some (1, st2 r 0 0 1) := rfl
theorem refused_2 (r : gS) : fX4_refused r 2 = some (1, st2 r 0 0 2) := rfl
theorem TopA_ref (h : TopA T s r A) (x : Int32) : TopA T s (st2 r 0 0 x) A := by
  have e3 : (st2 r 0 0 x) 3 = r 3 := funext fun j => st_ne (Or.inl (by decide))
  exact TopA_upd (s' := s) h (Nat.le_refl _) rfl rfl rfl h.2.1 (by rw [e3]; exact h.2.2.1) h.1 (fun k j _ _ c => st_ne (by omega))
theorem Step_no (h : TopA T s r A) {code : Nat → Nat} {x : Option ((Nat × ST) ⊕ (Int32 × ST))} {y : Option (Int32 × gS)} {n : Nat} {z : Int32} {v : Int32} (hx : x = some (.inl (n, s))) (hz : z = nI (code n)) (h1 : 1 ≤ code n) (hy : y = some (v, st2 r 0 0 z)) : Step T code x y := ⟨s, v, _, hy, ⟨A, TopA_ref h z⟩, Or.inl ⟨n, hx, h1, by rw [st_eq rfl rfl, hz]⟩⟩
/-- the law's number of our number of a class: the first and the second that it catches (0: not caught) -/
def cdL (a b n : Nat) : Nat := if n = a then 1 else if n = b then 2 else 0
/-- IndexOutOfBounds 1, IllegalState 2 -/
def cdX : Nat → Nat := cdL 3 2
def cdO : Nat → Nat := cdL 3 3
def cdI : Nat → Nat := cdL 1 1
def cdA : Nat → Nat := cdL 1 2
theorem st2_row (r : gS) (k j : Nat) (x : Int32) : (st2 r k j x) k = upd (r k) j x := by unfold st2; exact sf_eq
theorem take_step (h : TopA T s r A) (p q : Int32) : Step T cdX (fX3_take s p q) (fX4_take r p q) := by
  have no46 : ∀ z : Int32, (z = 1 ∨ z = 2) → fX4_take_L46 r p q z = some (0, st2 r 0 0 z) := fun z hz => by
    unfold fX4_take_L46
    rcases hz with e | e <;> subst e <;> rfl
  unfold fX3_take fX4_take
  by_cases hv : 0 ≤ p.toInt ∧ p.toInt < 6
  · rw [tb_in _ _ _ (by rw [reqV, if_pos hv]), mV, decide_eq_true hv, Option.bind_some, if_neg (show ¬ bI true = 0 by decide)]
    by_cases hb : 0 ≤ q.toInt ∧ q.toInt < 20
    · rw [tb_in _ _ _ (by rw [reqB, if_pos hb]), mB, decide_eq_true hb, Option.bind_some, if_neg (show ¬ bI true = 0 by decide)]
      obtain ⟨v, hv6, ev⟩ := in_nI (n := 6) hv
      obtain ⟨b, hb20, eb⟩ := in_nI (n := 20) hb
      obtain ⟨hG, hA, hB, -⟩ := id h
      have hI := hG.1
      subst ev
      subst eb
      unfold fX4_take_L19
      rw [if_neg (by decide), canTake_s hA hI (by omega) (by omega), canTake_spec hB hv6 hb20, decide_eq_true (⟨hv6, hb20⟩ : v < 6 ∧ b < 20), Bool.true_and]
      simp only [Option.bind_some, gl, sf_self]
      cases hc : aCanTake A v b with
      | false =>
        rw [tb_out _ _ _ (reqA false), if_pos bI_f]
        exact Step_no h (n := 2) rfl rfl (by decide) (no46 2 (Or.inr rfl))
      | true =>
        rw [tb_in _ _ _ (reqA true), if_neg (show ¬ bI true = 0 by decide)]
        obtain ⟨s1, r1, k1, k2, k3, k4, k5, k6⟩ := TopA_rem (TopA_ref h 0)
        obtain ⟨L, t1, t2, -⟩ := tryTake_s (σ := s1.2.2.1) (A := A) (by rw [k4]; exact hA) hI (v := v) (b := b) (by omega) (by omega) (c := true) (by rw [hc, decide_eq_true (⟨hv6, hb20⟩ : v < 6 ∧ b < 20)]; rfl)
        have t2' : RA L (aS A 0 b (nI (v + 1))) := t2
        have hk : fX3_remember (s.1, s.2.1, s.2.2.1, s.2.2.2) = some s1 := k1
        rw [hk, Option.bind_some, t1, Option.bind_some]
        simp (disch := omega) only [gd_in, cl_nI]
        rw [t2'.bagC hv6, Option.bind_some]
        unfold fX4_take_L46
        rw [refused_0, Option.bind_some, if_pos rfl, k2, Option.bind_some]
        simp (disch := omega) only [bookAt_0, Option.bind_some, gl, gd_in, cl_nI, nI_1]
        have hB1 : RB (st2 r1 3 (5 * b + 0) (nI (v + 1)) 3) (aS A 0 b (nI (v + 1))) := by
          rw [st2_row, k5, show (st2 r 0 0 0) 3 = r 3 from funext fun j => st_ne (Or.inl (by decide))]
          exact RB_bk hB (qlen_of hI) hI.ql (k := 0) (by omega) hb20 _
        rw [bag_spec hB1 hv6, Option.bind_some]
        simp only [sf_self]
        refine ⟨(s1.1, s1.2.1, L, s1.2.2.2), _, _, rfl, ⟨_, TopA_upd (s' := (s1.1, s1.2.1, L, s1.2.2.2)) k3 (Nat.le_refl _) rfl rfl rfl t2' hB1 ⟨Inv_hold hI (by omega), InvP_aS hG.2 (by decide) (by decide)⟩ (fun k j c1 _ _ => st_ne (Or.inl c1))⟩, Or.inr ⟨rfl, ?_⟩⟩
        rw [st_ne (Or.inl (by decide)), k6]; rfl
    · rw [tb_out _ _ _ (by rw [reqB, if_neg hb]), mB, decide_eq_false hb, Option.bind_some, if_pos bI_f]
      unfold fX4_take_L19
      rw [if_pos rfl]
      exact Step_no h (n := 3) rfl rfl (by decide) (no46 1 (Or.inl rfl))
  · rw [tb_out _ _ _ (by rw [reqV, if_neg hv]), mV, decide_eq_false hv, Option.bind_some, if_pos bI_f]
    unfold fX4_take_L19
    rw [if_pos rfl]
    exact Step_no h (n := 3) rfl rfl (by decide) (no46 1 (Or.inl rfl))
end TK
