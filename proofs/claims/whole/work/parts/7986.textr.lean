section TZ
variable {c : Nat → Nat} {len p lo : Nat} {T : Nat} {A : AS} {r r0 : gS} {x : Nat ⊕ Nat}
def pP {α : Type} (y : PR α) : Nat ⊕ Nat := match y with
  | .inl e => .inl e
  | .inr (_, q) => .inr q
def pA {α : Type} (x : Nat ⊕ Nat) (f : Nat → PR α) : PR α := match x with
  | .inl e => .inl e
  | .inr q => f q
def pOk {α β : Type} (x : α ⊕ β) : Bool := match x with
  | .inl _ => false
  | .inr _ => true
def pAt (x : Nat ⊕ Nat) : Nat := match x with
  | .inl e => e
  | .inr q => q
/-- the reference's text at a place, or after an error -/
def TR (c : Nat → Nat) (len : Nat) (r0 r : gS) (x : Nat ⊕ Nat) (lo : Nat) : Prop := (r 0 2 = nI len ∧ ∀ i, i < len → r 1 i = nI (c i)) ∧ r 0 5 = nI lo ∧ (r 0 4 = bI (pOk x) ∧ r 0 3 = nI (pAt x) ∧ pAt x ≤ len) ∧ ∀ k j, k ≠ 2 → ¬ (k = 0 ∧ 3 ≤ j ∧ j ≤ 5) → r k j = r0 k j
theorem acc17 (b : Bool) : fX4_accept_L17 r (bI b) = some (st2 (st2 r 0 4 (bI b)) 0 3 (r 0 3 + bI b)) := by
  unfold fX4_accept_L17
  rw [gd_t (bI_01 b)]
  simp only [gl]
  rw [st_eq rfl rfl, show (st2 r 0 4 (bI b)) 0 3 = r 0 3 from st_ne (by omega)]
  cases b <;> rfl
def aAcc (r : gS) (b : Bool) : gS := st2 (st2 r 0 4 (bI b)) 0 3 (r 0 3 + bI b)
theorem acc_s {g : Bool} (h : r 0 4 = bI g) (b : Bool) : fX4_accept r (bI b) = some (aAcc r (g && b)) := by
  unfold fX4_accept
  rw [h]
  cases g with
  | false => rw [if_pos bI_f]; exact acc17 false
  | true =>
    rw [if_neg (show ¬ bI true = 0 by decide)]
    cases b with
    | false => rw [if_pos bI_f]; exact acc17 false
    | true => rw [if_neg (show ¬ bI true = 0 by decide)]; exact acc17 true
theorem aAcc_2 (r : gS) (b : Bool) : (aAcc r b) 2 = r 2 := by
  funext j
  unfold aAcc
  rw [st_ne (by omega), st_ne (by omega)]
/-- where acceptance leads -/
def pAcc (x : Nat ⊕ Nat) (b : Bool) : Nat ⊕ Nat := match x with
  | .inl e => .inl e
  | .inr q => if b = true then .inr (q + 1) else .inl q
theorem TR_acc (hl : len ≤ 120) (h : TR c len r0 r x lo) {b : Bool} (hb : b = true → pAt x < len) : TR c len r0 (aAcc r (pOk x && b)) (pAcc x b) lo := by
  obtain ⟨⟨h1, h2⟩, h3, ⟨h4, h5, h6⟩, h7⟩ := h
  have f : ∀ k j, ¬ (k = 0 ∧ (j = 3 ∨ j = 4)) → (aAcc r (pOk x && b)) k j = r k j := fun k j z => by
    unfold aAcc
    rw [st_ne (by omega), st_ne (by omega)]
  have e4 : (aAcc r (pOk x && b)) 0 4 = bI (pOk x && b) := by
    unfold aAcc
    rw [st_ne (by decide), st_eq rfl rfl]
  have e3 : (aAcc r (pOk x && b)) 0 3 = nI (pAt x) + bI (pOk x && b) := by
    unfold aAcc
    rw [st_eq rfl rfl, h5]
  refine ⟨⟨by rw [f 0 2 (by omega)]; exact h1, fun i hi => by rw [f 1 i (by omega)]; exact h2 i hi⟩, by rw [f 0 5 (by omega)]; exact h3, ?_, fun k j a d => by rw [f k j (by omega)]; exact h7 k j a d⟩
  cases x with
  | inl e => exact ⟨e4, by rw [e3]; exact nI_p0 e, h6⟩
  | inr q =>
    cases b with
    | false => exact ⟨e4, by rw [e3]; exact nI_p0 q, h6⟩
    | true => exact ⟨e4, by rw [e3]; exact nI_1 q, hb rfl⟩
theorem l59 {g : Bool} (h : r 0 4 = bI g) (v w : Int32) (b : Bool) : fX4_digit_L59 r v w (bI b) = some (if (g && b) = true then w else v, aAcc r (g && b)) := by
  unfold fX4_digit_L59
  rw [acc_s h, Option.bind_some]
  have e4 : (aAcc r (g && b)) 0 4 = bI (g && b) := by
    unfold aAcc
    rw [st_ne (by decide), st_eq rfl rfl]
  rw [e4]
  cases (g && b) with
  | false => rw [if_pos bI_f]; rfl
  | true => rw [if_neg (show ¬ bI true = 0 by decide)]; rfl
theorem l28 {g : Bool} (h : r 0 4 = bI g) {l hi : Nat} (hl : l ≤ 9) (hh : hi ≤ 9) (w : Int32) : fX4_digit_L28 r (nI l) (nI hi) w = some (if (g && decide ((l : Int) ≤ w.toInt ∧ w.toInt ≤ (hi : Int))) = true then w else nI l, aAcc r (g && decide ((l : Int) ≤ w.toInt ∧ w.toInt ≤ (hi : Int)))) := by
  have il : (nI l).toInt64.toInt = (l : Int) := by rw [Int32.toInt_toInt64]; exact Int32.toInt_ofNat_of_lt (by omega)
  have ih : (nI hi).toInt64.toInt = (hi : Int) := by rw [Int32.toInt_toInt64]; exact Int32.toInt_ofNat_of_lt (by omega)
  unfold fX4_digit_L28
  rw [inI_spec w 0 9 0 9 (by decide) (by decide), Option.bind_some]
  by_cases a : 0 ≤ w.toInt ∧ w.toInt ≤ 9
  · rw [decide_eq_true a, if_neg (show ¬ bI true = 0 by decide), in_spec, Option.bind_some, il, ih, Int32.toInt_toInt64]
    by_cases b : (l : Int) ≤ w.toInt ∧ w.toInt ≤ (hi : Int)
    · rw [decide_eq_true b, if_neg (show ¬ bI true = 0 by decide)]; exact l59 h _ _ true
    · rw [decide_eq_false b, if_pos bI_f]; exact l59 h _ _ false
  · have b : ¬ ((l : Int) ≤ w.toInt ∧ w.toInt ≤ (hi : Int)) := fun z => a (by omega)
    rw [decide_eq_false a, if_pos bI_f, decide_eq_false b]; exact l59 h _ _ false
theorem rDg (hl : len ≤ 120) (hc : ∀ i, i < len → c i ≤ 255) (h : TR c len r0 r x lo) {l hi : Nat} (hlh : l ≤ hi) (hh : hi ≤ 9) : ∃ d r', fX4_digit r (nI l) (nI hi) = some (nI d, r') ∧ (l ≤ d ∧ d ≤ hi) ∧ r' 2 = r 2 ∧ TR c len r0 r' (pP (pA x (pD c len l hi))) lo ∧ ∀ d' z, pA x (pD c len l hi) = .inr (d', z) → d = d' := by
  obtain ⟨⟨h1, h2⟩, h3, ⟨h4, h5, h6⟩, h7⟩ := id h
  -- whatever is read there
  have any : ∀ w : Int32, (pOk x && decide ((l : Int) ≤ w.toInt ∧ w.toInt ≤ (hi : Int))) = false → pP (pA x (pD c len l hi)) = .inl (pAt x) → fX4_digit r (nI l) (nI hi) = fX4_digit_L28 r (nI l) (nI hi) w → ∃ d r', fX4_digit r (nI l) (nI hi) = some (nI d, r') ∧ (l ≤ d ∧ d ≤ hi) ∧ r' 2 = r 2 ∧ TR c len r0 r' (pP (pA x (pD c len l hi))) lo ∧ ∀ d' z, pA x (pD c len l hi) = .inr (d', z) → d = d' := fun w hw hx he => by
    have hacc := TR_acc hl h (b := false) (fun z => by cases z)
    rw [Bool.and_false] at hacc
    refine ⟨l, aAcc r false, ?_, ⟨Nat.le_refl _, hlh⟩, aAcc_2 r false, ?_, fun d' z q => ?_⟩
    · rw [he, l28 h4 (by omega) hh, hw]; rfl
    · rw [hx]
      cases x with
      | inl e => exact hacc
      | inr q => exact hacc
    · rw [q] at hx; cases hx
  by_cases hp : pAt x < len
  · have hcp := hc _ hp
    have he : fX4_digit r (nI l) (nI hi) = fX4_digit_L28 r (nI l) (nI hi) (nI (c (pAt x)) - (48 : Int32)) := by
      unfold fX4_digit
      rw [h1, h5, if_neg (nI_ge hp (by omega)), gd_in (by omega) (by decide), cl_nI (by omega), h2 _ hp]
    have i1 : (nI (c (pAt x)) - (48 : Int32)).toInt = (c (pAt x) : Int) - 48 := pk_sub_toInt (b := 48) (by omega) (by omega)
    cases x with
    | inl e => exact any _ rfl rfl he
    | inr q =>
      have hq : q < len := hp
      by_cases a : 48 + l ≤ c q ∧ c q ≤ 48 + hi
      · have ev : nI (c q) - (48 : Int32) = nI (c q - 48) := sub_nI (b := 48) (by omega)
        have hd : pA (.inr q) (pD c len l hi) = .inr (c q - 48, q + 1) := if_pos ⟨hq, a⟩
        have hw : decide ((l : Int) ≤ (nI (c q) - (48 : Int32)).toInt ∧ (nI (c q) - (48 : Int32)).toInt ≤ (hi : Int)) = true := decide_eq_true (by
          have : (nI (c q) - (48 : Int32)).toInt = (c q : Int) - 48 := i1
          rw [this]; omega)
        have hacc := TR_acc hl h (b := true) (fun _ => hq)
        refine ⟨c q - 48, aAcc r true, ?_, ⟨by omega, by omega⟩, aAcc_2 r true, ?_, fun d' z w => ?_⟩
        · rw [he, l28 h4 (by omega) hh]
          show some (if (true && decide ((l : Int) ≤ (nI (c q) - (48 : Int32)).toInt ∧ (nI (c q) - (48 : Int32)).toInt ≤ (hi : Int))) = true then nI (c q) - (48 : Int32) else nI l, aAcc r (true && decide ((l : Int) ≤ (nI (c q) - (48 : Int32)).toInt ∧ (nI (c q) - (48 : Int32)).toInt ≤ (hi : Int)))) = _
          rw [hw, ev]; rfl
        · rw [hd]; exact hacc
        · rw [hd] at w; cases w; rfl
      · have hd : pA (.inr q) (pD c len l hi) = .inl q := if_neg (fun z => a z.2)
        have hw : decide ((l : Int) ≤ (nI (c q) - (48 : Int32)).toInt ∧ (nI (c q) - (48 : Int32)).toInt ≤ (hi : Int)) = false := decide_eq_false (fun z => a (by
          have : (nI (c q) - (48 : Int32)).toInt = (c q : Int) - 48 := i1
          rw [this] at z; omega))
        exact any _ (by rw [Bool.and_comm]; show (decide ((l : Int) ≤ (nI (c q) - (48 : Int32)).toInt ∧ (nI (c q) - (48 : Int32)).toInt ≤ (hi : Int)) && _) = false; rw [hw]; rfl) (by rw [hd]; rfl) he
  · have he : fX4_digit r (nI l) (nI hi) = fX4_digit_L28 r (nI l) (nI hi) (-9) := by
      unfold fX4_digit
      rw [h1, h5, if_pos (nI_le (by omega) (by omega))]
    have hw : decide ((l : Int) ≤ (-9 : Int32).toInt ∧ (-9 : Int32).toInt ≤ (hi : Int)) = false := decide_eq_false (fun z => by
      have : (-9 : Int32).toInt = -9 := by decide
      rw [this] at z; omega)
    cases x with
    | inl e => exact any _ rfl rfl he
    | inr q =>
      have hd : pA (.inr q) (pD c len l hi) = .inl q := if_neg (fun z => hp z.1)
      exact any _ (by rw [hw]; rfl) (by rw [hd]; rfl) he
theorem le9 {n : Nat} (h : n < 2147483648) : nI n ≤ (9 : Int32) ↔ n ≤ 9 := le_nI (b := 9) h (by decide)
theorem rTw (hl : len ≤ 120) (hc : ∀ i, i < len → c i ≤ 255) (h : TR c len r0 r x lo) {most : Nat} (hm : most < 100) : ∃ d r', fX4_two r (nI most) = some (nI d, r') ∧ d ≤ most ∧ r' 2 = r 2 ∧ TR c len r0 r' (pP (pA x (pT c len most))) lo ∧ ∀ d' z, pA x (pT c len most) = .inr (d', z) → d = d' := by
  unfold fX4_two
  have ed : nI most / (10 : Int32) = nI (most / 10) := pk_div (d := 10) (by omega) (by decide) (by decide)
  rw [ed]
  obtain ⟨t, r1, k1, ⟨-, k2⟩, k3, k4, k5⟩ := rDg hl hc h (l := 0) (hi := most / 10) (Nat.zero_le _) (by omega)
  rw [show fX4_digit r 0 (nI (most / 10)) = some (nI t, r1) from k1, Option.bind_some]
  have em : nI most - (10 : Int32) * nI t = nI (most - 10 * t) := by rw [li_10, pk_mul, sub_nI (by omega)]
  rw [gl_to em]
  have hi2 : (if t < most / 10 then 9 else most % 10) = (if most - 10 * t ≤ 9 then most - 10 * t else 9) := by
    by_cases q : t < most / 10
    · rw [if_pos q]
      by_cases w : most - 10 * t ≤ 9
      · omega
      · rw [if_neg w]
    · rw [if_neg q, if_pos (by omega)]; omega
  obtain ⟨hi, hhi⟩ : ∃ hi, hi = (if t < most / 10 then 9 else most % 10) := ⟨_, rfl⟩
  have hi9 : hi ≤ 9 := by rw [hhi]; split <;> omega
  have hile : 10 * t + hi ≤ most := by rw [hhi, hi2]; split <;> omega
  obtain ⟨u, r2, j1, ⟨-, j2⟩, j3, j4, j5⟩ := rDg hl hc k4 (l := 0) (hi := hi) (Nat.zero_le _) hi9
  have eu : (10 : Int32) * nI t + nI u = nI (10 * t + u) := by rw [li_10, pk_mul, nI_add]
  refine ⟨10 * t + u, r2, ?_, by omega, j3.trans k3, ?_, ?_⟩
  · have j1' : fX4_digit r1 0 (nI hi) = some (nI u, r2) := j1
    by_cases w : most - 10 * t ≤ 9
    · have : hi = most - 10 * t := by rw [hhi, hi2, if_pos w]
      rw [if_pos ((le9 (by omega)).mpr w), ← this, j1', Option.bind_some]
      simp only []
      rw [eu]
    · have : hi = 9 := by rw [hhi, hi2, if_neg w]
      rw [this] at j1'
      have j1'' : fX4_digit r1 0 9 = some (nI u, r2) := j1'
      rw [if_neg (fun z => w ((le9 (by omega)).mp z)), j1'', Option.bind_some]
      simp only []
      rw [eu]
  all_goals
    cases x with
    | inl e => first | exact j4 | (intro d' z q; cases q)
    | inr q =>
      rcases hD : pD c len 0 (most / 10) q with e | ⟨t', q'⟩
      · have hT : pA (.inr q) (pT c len most) = .inl e := pB_l hD
        have hX : pP (pA (.inr q) (pD c len 0 (most / 10))) = .inl e := by show pP (pD c len 0 (most / 10) q) = _; rw [hD]; rfl
        rw [hX] at j4 j5
        rw [hT]
        first | exact j4 | (intro d' z w; cases w)
      · have et : t = t' := k5 t' q' hD
        subst et
        have hX : pP (pA (.inr q) (pD c len 0 (most / 10))) = .inr q' := by show pP (pD c len 0 (most / 10) q) = _; rw [hD]; rfl
        rw [hX] at j4 j5
        have hT : pA (.inr q) (pT c len most) = pB (pD c len 0 hi q') fun u z => .inr (10 * t + u, z) := by
          show pT c len most q = _
          unfold pT
          rw [pB_r hD, hhi]
        rw [hT]
        rcases hU : pD c len 0 hi q' with e | ⟨u', z'⟩
        · have hj : pA (.inr q') (pD c len 0 hi) = .inl e := hU
          rw [hj] at j4
          rw [pB_l rfl]
          first | exact j4 | (intro d' z w; cases w)
        · have hj : pA (.inr q') (pD c len 0 hi) = .inr (u', z') := hU
          rw [hj] at j4 j5
          have eu' := j5 u' z' rfl
          rw [pB_r rfl]
          first | exact j4 | (intro d' z w; cases w; omega)
theorem rGo (h : TR c len r0 r x lo) (can : Bool) : ∃ r', fX4_goes r (bI can) = some (bI (pOk x && can), r') ∧ r' 2 = r 2 ∧ TR c len r0 r' x (lo + if (pOk x && !can) = true then 1 else 0) := by
  obtain ⟨⟨h1, h2⟩, h3, ⟨h4, h5, h6⟩, h7⟩ := id h
  have l21 : ∀ n : Nat, fX4_goes_L21 r (bI can) (nI lo) (nI n) = some (bI (pOk x && can), st2 r 0 5 (nI (lo + n))) := fun n => by
    unfold fX4_goes_L21
    simp only [gl]
    rw [nI_add, show (st2 r 0 5 (nI (lo + n))) 0 4 = bI (pOk x) from (st_ne (by omega)).trans h4]
    cases pOk x with
    | false => rw [if_pos bI_f]; rfl
    | true =>
      rw [if_neg (show ¬ bI true = 0 by decide)]
      cases can with
      | false => rw [if_pos bI_f]; rfl
      | true => rw [if_neg (show ¬ bI true = 0 by decide)]; rfl
  have fin : ∀ n : Nat, TR c len r0 (st2 r 0 5 (nI (lo + n))) x (lo + n) := fun n => ⟨⟨by rw [st_ne (by omega)]; exact h1, fun i hi => by rw [st_ne (by omega)]; exact h2 i hi⟩, st_eq rfl rfl, ⟨by rw [st_ne (by omega)]; exact h4, by rw [st_ne (by omega)]; exact h5, h6⟩, fun k j a b => by rw [st_ne (by omega)]; exact h7 k j a b⟩
  have r2 : ∀ n : Nat, (st2 r 0 5 (nI (lo + n))) 2 = r 2 := fun n => funext fun j => st_ne (by omega)
  unfold fX4_goes
  rw [h4, h3]
  cases hx : pOk x with
  | false =>
    rw [hx] at l21
    rw [if_pos bI_f]
    exact ⟨_, l21 0, r2 0, fin 0⟩
  | true =>
    rw [hx] at l21
    rw [if_neg (show ¬ bI true = 0 by decide)]
    cases can with
    | false => rw [if_pos bI_f]; exact ⟨_, l21 1, r2 1, fin 1⟩
    | true => rw [if_neg (show ¬ bI true = 0 by decide)]; exact ⟨_, l21 0, r2 0, fin 0⟩
theorem TR_row (h : TR c len r0 r x lo) (row : Nat → Int32) : TR c len r0 (stf r 2 row) x lo := by
  obtain ⟨⟨h1, h2⟩, h3, ⟨h4, h5, h6⟩, h7⟩ := h
  exact ⟨⟨by rw [sf_ne (by decide)]; exact h1, fun i hi => by rw [sf_ne (by decide)]; exact h2 i hi⟩, by rw [sf_ne (by decide)]; exact h3, ⟨by rw [sf_ne (by decide)]; exact h4, by rw [sf_ne (by decide)]; exact h5, h6⟩, fun k j a b => by rw [sf_ne a]; exact h7 k j a b⟩
end TZ
