def bt (x : Int32) (i : Nat) : Bool := x.toBitVec.getLsbD i
theorem b_ext {x y : Int32} (h : ∀ i, i < 32 → bt x i = bt y i) : x = y := Int32.toBitVec_inj.mp (BitVec.eq_of_getLsbD_eq (fun i hi => h i hi))
theorem b_or (x y : Int32) (i : Nat) : bt (x ||| y) i = (bt x i || bt y i) := by unfold bt; rw [Int32.toBitVec_or, BitVec.getLsbD_or]
theorem b_and (x y : Int32) (i : Nat) : bt (x &&& y) i = (bt x i && bt y i) := by unfold bt; rw [Int32.toBitVec_and, BitVec.getLsbD_and]
theorem b_xor (x y : Int32) (i : Nat) : bt (x ^^^ y) i = (bt x i ^^ bt y i) := by unfold bt; rw [Int32.toBitVec_xor, BitVec.getLsbD_xor]
theorem b_big {x : Int32} {i : Nat} (h : 32 ≤ i) : bt x i = false := BitVec.getLsbD_of_ge _ _ h
theorem b_255 (i : Nat) : bt 255 i = decide (i < 8) := by
  rcases Nat.lt_or_ge i 32 with h | h
  · exact (by decide +kernel : ∀ i, i < 32 → bt 255 i = decide (i < 8)) i h
  · rw [b_big h, decide_eq_false (by omega)]
theorem b_65535 (i : Nat) : bt 65535 i = decide (i < 16) := by
  rcases Nat.lt_or_ge i 32 with h | h
  · exact (by decide +kernel : ∀ i, i < 32 → bt 65535 i = decide (i < 16)) i h
  · rw [b_big h, decide_eq_false (by omega)]
theorem b_m1 : ∀ i, i < 32 → bt (-1) i = true := by decide +kernel
theorem b_0 (i : Nat) : bt 0 i = false := BitVec.getLsbD_zero
theorem s_l : ∀ n, n < 32 → ((nI n &&& 31).toBitVec.smod 32).toNat = n := by decide +kernel
theorem s_u : ∀ n, n < 32 → (((nI n).toUInt32 &&& Int32.toUInt32 31).toBitVec % 32).toNat = n := by decide +kernel
theorem b_shl (n : Nat) (hn : n < 32) (x : Int32) {i : Nat} (hi : i < 32) : bt (x <<< (nI n &&& 31)) i = (decide (n ≤ i) && bt x (i - n)) := by
  unfold bt
  rw [Int32.toBitVec_shiftLeft]
  show (x.toBitVec <<< ((nI n &&& 31).toBitVec.smod 32).toNat).getLsbD i = _
  rw [s_l n hn, BitVec.getLsbD_shiftLeft]
  rcases Nat.lt_or_ge i n with h | h
  · simp [h, Nat.not_le.mpr h]
  · simp [hi, h, Nat.not_lt.mpr h]
theorem b_ushr (n : Nat) (hn : n < 32) (x : Int32) (i : Nat) : bt ((x.toUInt32 >>> ((nI n).toUInt32 &&& Int32.toUInt32 31)).toInt32) i = bt x (n + i) := by
  show (x.toUInt32 >>> ((nI n).toUInt32 &&& Int32.toUInt32 31)).toBitVec.getLsbD i = x.toUInt32.toBitVec.getLsbD (n + i)
  rw [UInt32.toBitVec_shiftRight]
  show (x.toUInt32.toBitVec >>> (((nI n).toUInt32 &&& Int32.toUInt32 31).toBitVec % 32).toNat).getLsbD i = _
  rw [s_u n hn, BitVec.getLsbD_ushiftRight]
theorem b_sshr (n : Nat) (hn : n < 32) (x : Int32) {i : Nat} (hi : i < 32) : bt (x >>> (nI n &&& 31)) i = if n + i < 32 then bt x (n + i) else bt x 31 := by
  unfold bt
  rw [Int32.toBitVec_shiftRight]
  show (x.toBitVec.sshiftRight ((nI n &&& 31).toBitVec.smod 32).toNat).getLsbD i = _
  rw [s_l n hn, BitVec.getLsbD_sshiftRight, BitVec.msb_eq_getLsbD_last]
  simp [hi]
theorem b_shl8 (x : Int32) {i : Nat} (hi : i < 32) : bt (x <<< ((8 : Int32) &&& 31)) i = (decide (8 ≤ i) && bt x (i - 8)) := b_shl 8 (by omega) x hi
theorem b_shl16 (x : Int32) {i : Nat} (hi : i < 32) : bt (x <<< ((16 : Int32) &&& 31)) i = (decide (16 ≤ i) && bt x (i - 16)) := b_shl 16 (by omega) x hi
theorem b_shl24 (x : Int32) {i : Nat} (hi : i < 32) : bt (x <<< ((24 : Int32) &&& 31)) i = (decide (24 ≤ i) && bt x (i - 24)) := b_shl 24 (by omega) x hi
theorem b_sshr8 (x : Int32) {i : Nat} (hi : i < 32) : bt (x >>> ((8 : Int32) &&& 31)) i = if 8 + i < 32 then bt x (8 + i) else bt x 31 := b_sshr 8 (by omega) x hi
/-! ===== nI under and, xor, >>>, one bit, 65535 ===== -/
theorem fb_holes : ∀ (m n : Nat) (f : Nat → Nat), (∀ i, i < n → f i < m) → (∀ i j, i < j → j < n → f i ≠ f j) → n ≤ m := by
  intro m
  induction m with
  | zero =>
    intro n f h1 _
    rcases Nat.eq_zero_or_pos n with h | h
    · omega
    · exact absurd (h1 0 h) (Nat.not_lt_zero _)
  | succ m ih =>
    intro n f h1 h2
    by_cases hx : ∃ i, i < n ∧ f i = m
    · obtain ⟨a, ha, hfa⟩ := hx
      have hg := ih (n - 1) (fun i => if i < a then f i else f (i + 1)) (by
        intro i hi
        by_cases q : i < a
        · simp only [if_pos q]
          have b1 := h1 i (by omega)
          have b2 := h2 i a q ha
          omega
        · simp only [if_neg q]
          have b1 := h1 (i + 1) (by omega)
          have b2 := h2 a (i + 1) (by omega) (by omega)
          omega) (by
        intro i j hij hj
        by_cases q : i < a
        · by_cases r : j < a
          · simp only [if_pos q, if_pos r]
            exact h2 i j hij (by omega)
          · simp only [if_pos q, if_neg r]
            exact h2 i (j + 1) (by omega) (by omega)
        · have r : ¬ j < a := by omega
          simp only [if_neg q, if_neg r]
          exact h2 (i + 1) (j + 1) (by omega) (by omega))
      omega
    · have hg := ih n f (fun i hi => by
        have b1 := h1 i hi
        have b2 : f i ≠ m := fun e => hx ⟨i, hi, e⟩
        omega) h2
      omega
/-- two of them in one place -/
theorem fb_twice {m n : Nat} {f : Nat → Nat} (h : ∀ i, i < n → f i < m) (hm : m < n) : ∃ i j, i < j ∧ j < n ∧ f i = f j := by
  refine Classical.byContradiction fun hx => ?_
  have := fb_holes m n f h (fun i j hij hj e => hx ⟨i, j, hij, hj, e⟩)
  omega
/-- as many as places, none twice: each place is taken -/
theorem fb_onto {n : Nat} {f : Nat → Nat} (h : ∀ i, i < n → f i < n) (h2 : ∀ i j, i < j → j < n → f i ≠ f j) {y : Nat} (hy : y < n) : ∃ i, i < n ∧ f i = y := by
  refine Classical.byContradiction fun hx => ?_
  have hne : ∀ i, i < n → f i ≠ y := fun i hi e => hx ⟨i, hi, e⟩
  have := fb_holes (n - 1) n (fun i => if f i < y then f i else f i - 1) (by
    intro i hi
    have b1 := h i hi
    have b2 := hne i hi
    by_cases q : f i < y
    · simp only [if_pos q]; omega
    · simp only [if_neg q]; omega) (by
    intro i j hij hj
    have b1 := hne i (by omega)
    have b2 := hne j hj
    have b3 := h2 i j hij hj
    by_cases q : f i < y
    · by_cases r : f j < y
      · simp only [if_pos q, if_pos r]; exact b3
      · simp only [if_pos q, if_neg r]; omega
    · by_cases r : f j < y
      · simp only [if_neg q, if_pos r]; omega
      · simp only [if_neg q, if_neg r]; omega)
  omega
/-! ===== how many places have a property ===== -/
def fb_ct (p : Nat → Bool) : Nat → Nat
  | 0 => 0
  | n + 1 => fb_ct p n + (if p n then 1 else 0)
theorem fb_ct_succ (p : Nat → Bool) (n : Nat) : fb_ct p (n + 1) = fb_ct p n + (if p n then 1 else 0) := rfl
theorem fb_ct_le (p : Nat → Bool) : ∀ n, fb_ct p n ≤ n
  | 0 => Nat.le_refl _
  | n + 1 => by
    have h := fb_ct_le p n
    rw [fb_ct_succ]
    split <;> omega
theorem fb_ct_step (p : Nat → Bool) (m : Nat) : ∀ n, fb_ct p m ≤ fb_ct p (m + n)
  | 0 => Nat.le_refl _
  | n + 1 => by
    have h := fb_ct_step p m n
    show fb_ct p m ≤ fb_ct p (m + n + 1)
    rw [fb_ct_succ]
    omega
theorem fb_ct_mono (p : Nat → Bool) {m n : Nat} (h : m ≤ n) : fb_ct p m ≤ fb_ct p n := by
  have := fb_ct_step p m (n - m)
  rwa [Nat.add_sub_cancel' h] at this
theorem fb_ct_cong {p q : Nat → Bool} : ∀ {n : Nat}, (∀ k, k < n → p k = q k) → fb_ct p n = fb_ct q n
  | 0, _ => rfl
  | n + 1, h => by
    rw [fb_ct_succ, fb_ct_succ, fb_ct_cong (fun k hk => h k (by omega)), h n (by omega)]
/-- one place changed -/
theorem fb_ct_out (p : Nat → Bool) (b : Bool) {i n : Nat} (h : n ≤ i) : fb_ct (fun k => if k = i then b else p k) n = fb_ct p n :=
  fb_ct_cong fun k hk => if_neg (by omega)
theorem fb_ct_upd (p : Nat → Bool) (b : Bool) {i : Nat} : ∀ {n : Nat}, i < n → fb_ct (fun k => if k = i then b else p k) n + (if p i then 1 else 0) = fb_ct p n + (if b then 1 else 0)
  | 0, h => absurd h (Nat.not_lt_zero i)
  | n + 1, h => by
    rw [fb_ct_succ, fb_ct_succ]
    rcases Nat.lt_or_ge i n with q | q
    · have := fb_ct_upd p b q
      have e : (if n = i then b else p n) = p n := if_neg (by omega)
      rw [e]
      omega
    · have e : i = n := by omega
      subst e
      rw [fb_ct_out p b (Nat.le_refl _)]
      simp only [if_true]
      omega
theorem fb_ct_sub {p q : Nat → Bool} : ∀ {n : Nat}, (∀ k, k < n → p k = true → q k = true) → fb_ct p n ≤ fb_ct q n
  | 0, _ => Nat.le_refl _
  | n + 1, h => by
    have h1 := fb_ct_sub (n := n) (p := p) (q := q) (fun k hk => h k (by omega))
    have h2 := h n (by omega)
    rw [fb_ct_succ, fb_ct_succ]
    cases hp : p n <;> cases hq : q n <;> simp_all <;> omega
theorem fb_ct_or {p q : Nat → Bool} : ∀ {n : Nat}, (∀ k, k < n → ¬ (p k = true ∧ q k = true)) → fb_ct (fun k => p k || q k) n = fb_ct p n + fb_ct q n
  | 0, _ => rfl
  | n + 1, h => by
    have h1 := fb_ct_or (n := n) (p := p) (q := q) (fun k hk => h k (by omega))
    have h2 := h n (by omega)
    rw [fb_ct_succ, fb_ct_succ, fb_ct_succ, h1]
    cases hp : p n <;> cases hq : q n <;> simp_all <;> omega
theorem fb_ct_not (p : Nat → Bool) : ∀ n, fb_ct p n + fb_ct (fun k => !p k) n = n
  | 0 => rfl
  | n + 1 => by
    have h := fb_ct_not p n
    rw [fb_ct_succ, fb_ct_succ]
    cases p n <;> simp <;> omega
theorem fb_ct_split (p : Nat → Bool) (m : Nat) : ∀ n, fb_ct p (m + n) = fb_ct p m + fb_ct (fun k => p (m + k)) n
  | 0 => rfl
  | n + 1 => by
    have h := fb_ct_split p m n
    show fb_ct p (m + n + 1) = _
    rw [fb_ct_succ, fb_ct_succ, h, Nat.add_assoc]
theorem fb_ct_zero {p : Nat → Bool} : ∀ {n : Nat}, fb_ct p n = 0 ↔ ∀ k, k < n → p k = false
  | 0 => ⟨fun _ k hk => absurd hk (Nat.not_lt_zero k), fun _ => rfl⟩
  | n + 1 => by
    have h := fb_ct_zero (p := p) (n := n)
    rw [fb_ct_succ]
    constructor
    · intro e k hk
      have e1 : fb_ct p n = 0 := by omega
      rcases Nat.lt_or_ge k n with q | q
      · exact h.mp e1 k q
      · have ek : k = n := by omega
        subst ek
        cases hp : p k
        · rfl
        · simp [hp] at e
    · intro a
      rw [h.mpr (fun k hk => a k (by omega)), a n (by omega)]
      rfl
theorem fb_ct_pos {p : Nat → Bool} {n : Nat} : 0 < fb_ct p n ↔ ∃ k, k < n ∧ p k = true := by
  constructor
  · intro h
    refine Classical.byContradiction fun hx => ?_
    have := fb_ct_zero.mpr (fun k hk => by
      cases hp : p k
      · rfl
      · exact absurd ⟨k, hk, hp⟩ hx : ∀ k, k < n → p k = false)
    omega
  · rintro ⟨k, hk, hp⟩
    rcases Nat.eq_zero_or_pos (fb_ct p n) with e | e
    · have := fb_ct_zero.mp e k hk
      rw [this] at hp
      cases hp
    · exact e
theorem fb_ct_all {p : Nat → Bool} {n : Nat} : fb_ct p n = n ↔ ∀ k, k < n → p k = true := by
  have h := fb_ct_not p n
  constructor
  · intro e k hk
    have z : fb_ct (fun k => !p k) n = 0 := by omega
    have := fb_ct_zero.mp z k hk
    cases hp : p k
    · simp [hp] at this
    · rfl
  · intro a
    have z : fb_ct (fun k => !p k) n = 0 := fb_ct_zero.mpr (fun k hk => by simp [a k hk])
    omega
/-- the k-th place with the property -/
theorem fb_ct_kth {p : Nat → Bool} {k : Nat} : ∀ {n : Nat}, k < fb_ct p n → ∃ i, i < n ∧ p i = true ∧ fb_ct p i = k
  | 0, h => absurd h (Nat.not_lt_zero k)
  | n + 1, h => by
    rcases Nat.lt_or_ge k (fb_ct p n) with q | q
    · obtain ⟨i, h1, h2⟩ := fb_ct_kth q
      exact ⟨i, by omega, h2⟩
    · rw [fb_ct_succ] at h
      cases hp : p n
      · simp [hp] at h; omega
      · simp [hp] at h
        exact ⟨n, by omega, hp, by omega⟩
theorem fb_ct_kth_one {p : Nat → Bool} {i j : Nat} (hi : p i = true) (hj : p j = true) (e : fb_ct p i = fb_ct p j) : i = j := by
  have key : ∀ a b : Nat, a < b → p a = true → fb_ct p a < fb_ct p b := by
    intro a b hab ha
    have h := fb_ct_mono p (show a + 1 ≤ b from hab)
    rw [fb_ct_succ, ha] at h
    simp at h
    omega
  rcases Nat.lt_trichotomy i j with q | q | q
  · have := key i j q hi; omega
  · exact q
  · have := key j i q hj; omega
theorem li_0 : (0 : Int32) = nI 0 := rfl
theorem li_1 : (1 : Int32) = nI 1 := rfl
theorem li_2 : (2 : Int32) = nI 2 := rfl
theorem li_3 : (3 : Int32) = nI 3 := rfl
theorem li_4 : (4 : Int32) = nI 4 := rfl
theorem li_5 : (5 : Int32) = nI 5 := rfl
theorem li_6 : (6 : Int32) = nI 6 := rfl
theorem li_7 : (7 : Int32) = nI 7 := rfl
theorem li_8 : (8 : Int32) = nI 8 := rfl
theorem li_9 : (9 : Int32) = nI 9 := rfl
theorem li_10 : (10 : Int32) = nI 10 := rfl
theorem li_14 : (14 : Int32) = nI 14 := rfl
theorem li_15 : (15 : Int32) = nI 15 := rfl
theorem li_16 : (16 : Int32) = nI 16 := rfl
theorem li_19 : (19 : Int32) = nI 19 := rfl
theorem li_20 : (20 : Int32) = nI 20 := rfl
theorem li_29 : (29 : Int32) = nI 29 := rfl
theorem li_33 : (33 : Int32) = nI 33 := rfl
theorem li_48 : (48 : Int32) = nI 48 := rfl
theorem li_50 : (50 : Int32) = nI 50 := rfl
theorem li_63 : (63 : Int32) = nI 63 := rfl
theorem li_64 : (64 : Int32) = nI 64 := rfl
theorem li_76 : (76 : Int32) = nI 76 := rfl
theorem li_97 : (97 : Int32) = nI 97 := rfl
theorem li_98 : (98 : Int32) = nI 98 := rfl
theorem li_99 : (99 : Int32) = nI 99 := rfl
theorem li_100 : (100 : Int32) = nI 100 := rfl
theorem li_105 : (105 : Int32) = nI 105 := rfl
theorem li_110 : (110 : Int32) = nI 110 := rfl
theorem li_111 : (111 : Int32) = nI 111 := rfl
theorem li_112 : (112 : Int32) = nI 112 := rfl
theorem li_114 : (114 : Int32) = nI 114 := rfl
theorem li_116 : (116 : Int32) = nI 116 := rfl
theorem li_120 : (120 : Int32) = nI 120 := rfl
theorem li_122 : (122 : Int32) = nI 122 := rfl
theorem li_124 : (124 : Int32) = nI 124 := rfl
theorem li_136 : (136 : Int32) = nI 136 := rfl
theorem li_196 : (196 : Int32) = nI 196 := rfl
theorem li_197 : (197 : Int32) = nI 197 := rfl
theorem li_198 : (198 : Int32) = nI 198 := rfl
theorem li_199 : (199 : Int32) = nI 199 := rfl
theorem li_200 : (200 : Int32) = nI 200 := rfl
theorem li_201 : (201 : Int32) = nI 201 := rfl
theorem li_202 : (202 : Int32) = nI 202 := rfl
theorem li_203 : (203 : Int32) = nI 203 := rfl
theorem li_204 : (204 : Int32) = nI 204 := rfl
theorem li_205 : (205 : Int32) = nI 205 := rfl
theorem li_233 : (233 : Int32) = nI 233 := rfl
theorem li_1000 : (1000 : Int32) = nI 1000 := rfl
theorem li_2048 : (2048 : Int32) = nI 2048 := rfl
theorem li_3029 : (3029 : Int32) = nI 3029 := rfl
theorem li_10000 : (10000 : Int32) = nI 10000 := rfl
theorem gd_t {α : Type} {c : Prop} [Decidable c] (h : c) (x : Option α) : gd c x = x := if_pos h
theorem gd_in {α : Type} {n N : Nat} (h : n < N) (hN : N < 2147483648) (x : Option α) : gd (inb (nI n) N) x = x := gd_t (c := inb (nI n) N) (vp_in_nI h hN) x
theorem cl_nI {n : Nat} (h : n < 2147483648) : (nI n).toNatClampNeg = n := nI_clamp h
theorem nI_inj {a b : Nat} (ha : a < 2147483648) (hb : b < 2147483648) : nI a = nI b ↔ a = b := nI_eq ha hb
theorem le_nI {a b : Nat} (ha : a < 2147483648) (hb : b < 2147483648) : nI a ≤ nI b ↔ a ≤ b := nI_leI ha hb
theorem lt_nI {a b : Nat} (ha : a < 2147483648) (hb : b < 2147483648) : nI a < nI b ↔ a < b := nI_ltI ha hb
theorem neg_nI {a : Nat} (ha : a < 2147483648) : ¬ nI a < 0 := nI_pos ha
theorem sub_nI {a b : Nat} (h : b ≤ a) : nI a - nI b = nI (a - b) := pk_sub h
theorem up_eq {f : Nat → Int32} {k j : Nat} {x : Int32} (h : j = k) : upd f k x j = x := by subst h; exact pk_us
theorem up_ne {f : Nat → Int32} {k j : Nat} {x : Int32} (h : j ≠ k) : upd f k x j = f j := pk_un h
theorem st_eq {σ : gS} {k j k' j' : Nat} {x : Int32} (h : k' = k) (h2 : j' = j) : st2 σ k j x k' j' = x := by subst h; subst h2; simp [st2, stf, upd]
theorem st_ne {σ : gS} {k j k' j' : Nat} {x : Int32} (h : k' ≠ k ∨ j' ≠ j) : st2 σ k j x k' j' = σ k' j' := by
  unfold st2 stf upd
  by_cases e : k' = k
  · subst e
    rcases h with h | h
    · exact absurd rfl h
    · simp [h]
  · simp [e]
theorem sf_eq {σ : gS} {k : Nat} {f : Nat → Int32} : stf σ k f k = f := by simp [stf]
theorem sf_ne {σ : gS} {k k' : Nat} {f : Nat → Int32} (h : k' ≠ k) : stf σ k f k' = σ k' := by simp [stf, h]
theorem sf_self (σ : gS) (k : Nat) : stf σ k (σ k) = σ := by
  funext i
  by_cases h : i = k
  · subst h; exact sf_eq
  · exact sf_ne h
/-- a truth value as an int -/
def bI (b : Bool) : Int32 := if b then 1 else 0
theorem bI_t : bI true = 1 := rfl
theorem bI_f : bI false = 0 := rfl
theorem bI_0 (b : Bool) : bI b = 0 ↔ b = false := by cases b <;> decide
theorem bI_1 (b : Bool) : bI b = 1 ↔ b = true := by cases b <;> decide
theorem bI_01 (b : Bool) : bI b = 0 ∨ bI b = 1 := by cases b <;> decide
theorem ic_lcmp_lt (x y : Int64) : lg_cmp x y < 0 ↔ x.toInt < y.toInt := by
  unfold lg_cmp
  by_cases h : x > y
  · simp only [h, if_true]
    have h1 := Int64.lt_iff_toInt_lt.mp h
    constructor
    · intro q; exact absurd q (by decide)
    · intro q; omega
  · by_cases e : x = y
    · subst e; simp
    · simp only [h, e, if_false]
      have h1 : ¬ y.toInt < x.toInt := fun q => h (Int64.lt_iff_toInt_lt.mpr q)
      have h2 : x.toInt ≠ y.toInt := fun q => e (Int64.toInt_inj.mp q)
      constructor
      · intro; omega
      · intro; decide
theorem ic_lcmp_gt (x y : Int64) : 0 < lg_cmp x y ↔ y.toInt < x.toInt := by
  unfold lg_cmp
  by_cases h : x > y
  · simp only [h, if_true]
    have h1 := Int64.lt_iff_toInt_lt.mp h
    exact ⟨fun _ => h1, fun _ => by decide⟩
  · have h1 : ¬ y.toInt < x.toInt := fun q => h (Int64.lt_iff_toInt_lt.mpr q)
    by_cases e : x = y
    · subst e; simp
    · simp only [h, e, if_false]
      exact ⟨fun q => absurd q (by decide), fun q => absurd q h1⟩
theorem in_spec (x a b : Int64) : fX4_in x a b = some (bI (decide (a.toInt ≤ x.toInt ∧ x.toInt ≤ b.toInt)), ()) := by
  unfold fX4_in
  simp only [ic_lcmp_lt, ic_lcmp_gt]
  by_cases h1 : x.toInt < a.toInt
  · rw [if_pos h1, decide_eq_false (by omega)]; rfl
  · rw [if_neg h1]
    by_cases h2 : b.toInt < x.toInt
    · rw [if_pos h2, decide_eq_false (by omega)]; rfl
    · rw [if_neg h2, decide_eq_true (by omega)]; rfl
theorem inI_spec (x : Int32) (a b : Int64) (A B : Int) (ha : a.toInt = A) (hb : b.toInt = B) : fX4_in x.toInt64 a b = some (bI (decide (A ≤ x.toInt ∧ x.toInt ≤ B)), ()) := by
  rw [in_spec, ha, hb, Int32.toInt_toInt64]
theorem bookAt_spec (b k : Nat) : fX4_bookAt (nI b) (nI k) = some (nI (5 * b + k), ()) := by
  simp only [fX4_bookAt, li_0, li_1, li_2, li_3, li_4, li_5, li_6, li_7, li_8, li_9, li_10, li_14, li_15, li_16, li_19, li_20, li_29, li_33, li_48, li_50, li_63, li_64, li_76, li_97, li_98, li_99, li_100, li_105, li_110, li_111, li_112, li_114, li_116, li_120, li_122, li_124, li_136, li_196, li_197, li_198, li_199, li_200, li_201, li_202, li_203, li_204, li_205, li_233, li_1000, li_2048, li_3029, li_10000, nI_add, pk_mul]
theorem visitorAt_spec (v k : Nat) : fX4_visitorAt (nI v) (nI k) = some (nI (100 + 4 * v + k), ()) := by
  simp only [fX4_visitorAt, li_0, li_1, li_2, li_3, li_4, li_5, li_6, li_7, li_8, li_9, li_10, li_14, li_15, li_16, li_19, li_20, li_29, li_33, li_48, li_50, li_63, li_64, li_76, li_97, li_98, li_99, li_100, li_105, li_110, li_111, li_112, li_114, li_116, li_120, li_122, li_124, li_136, li_196, li_197, li_198, li_199, li_200, li_201, li_202, li_203, li_204, li_205, li_233, li_1000, li_2048, li_3029, li_10000, nI_add, pk_mul]
theorem gateAt_spec (g k : Nat) : fX4_gateAt (nI g) (nI k) = some (nI (124 + 4 * g + k), ()) := by
  simp only [fX4_gateAt, li_0, li_1, li_2, li_3, li_4, li_5, li_6, li_7, li_8, li_9, li_10, li_14, li_15, li_16, li_19, li_20, li_29, li_33, li_48, li_50, li_63, li_64, li_76, li_97, li_98, li_99, li_100, li_105, li_110, li_111, li_112, li_114, li_116, li_120, li_122, li_124, li_136, li_196, li_197, li_198, li_199, li_200, li_201, li_202, li_203, li_204, li_205, li_233, li_1000, li_2048, li_3029, li_10000, nI_add, pk_mul]
theorem lel_0 {b : Nat} (h : b < 2147483648) : (0 : Int32) ≤ nI b ↔ 0 ≤ b := nI_leI (a := 0) (by decide) h
theorem lel_1 {b : Nat} (h : b < 2147483648) : (1 : Int32) ≤ nI b ↔ 1 ≤ b := nI_leI (a := 1) (by decide) h
theorem lel_2 {b : Nat} (h : b < 2147483648) : (2 : Int32) ≤ nI b ↔ 2 ≤ b := nI_leI (a := 2) (by decide) h
theorem lel_3 {b : Nat} (h : b < 2147483648) : (3 : Int32) ≤ nI b ↔ 3 ≤ b := nI_leI (a := 3) (by decide) h
theorem lel_4 {b : Nat} (h : b < 2147483648) : (4 : Int32) ≤ nI b ↔ 4 ≤ b := nI_leI (a := 4) (by decide) h
theorem lel_5 {b : Nat} (h : b < 2147483648) : (5 : Int32) ≤ nI b ↔ 5 ≤ b := nI_leI (a := 5) (by decide) h
theorem lel_6 {b : Nat} (h : b < 2147483648) : (6 : Int32) ≤ nI b ↔ 6 ≤ b := nI_leI (a := 6) (by decide) h
theorem lel_7 {b : Nat} (h : b < 2147483648) : (7 : Int32) ≤ nI b ↔ 7 ≤ b := nI_leI (a := 7) (by decide) h
theorem lel_8 {b : Nat} (h : b < 2147483648) : (8 : Int32) ≤ nI b ↔ 8 ≤ b := nI_leI (a := 8) (by decide) h
theorem lel_9 {b : Nat} (h : b < 2147483648) : (9 : Int32) ≤ nI b ↔ 9 ≤ b := nI_leI (a := 9) (by decide) h
theorem lel_10 {b : Nat} (h : b < 2147483648) : (10 : Int32) ≤ nI b ↔ 10 ≤ b := nI_leI (a := 10) (by decide) h
theorem lel_14 {b : Nat} (h : b < 2147483648) : (14 : Int32) ≤ nI b ↔ 14 ≤ b := nI_leI (a := 14) (by decide) h
theorem lel_15 {b : Nat} (h : b < 2147483648) : (15 : Int32) ≤ nI b ↔ 15 ≤ b := nI_leI (a := 15) (by decide) h
theorem lel_16 {b : Nat} (h : b < 2147483648) : (16 : Int32) ≤ nI b ↔ 16 ≤ b := nI_leI (a := 16) (by decide) h
theorem lel_19 {b : Nat} (h : b < 2147483648) : (19 : Int32) ≤ nI b ↔ 19 ≤ b := nI_leI (a := 19) (by decide) h
theorem lel_20 {b : Nat} (h : b < 2147483648) : (20 : Int32) ≤ nI b ↔ 20 ≤ b := nI_leI (a := 20) (by decide) h
theorem lel_29 {b : Nat} (h : b < 2147483648) : (29 : Int32) ≤ nI b ↔ 29 ≤ b := nI_leI (a := 29) (by decide) h
theorem lel_33 {b : Nat} (h : b < 2147483648) : (33 : Int32) ≤ nI b ↔ 33 ≤ b := nI_leI (a := 33) (by decide) h
theorem lel_48 {b : Nat} (h : b < 2147483648) : (48 : Int32) ≤ nI b ↔ 48 ≤ b := nI_leI (a := 48) (by decide) h
theorem lel_50 {b : Nat} (h : b < 2147483648) : (50 : Int32) ≤ nI b ↔ 50 ≤ b := nI_leI (a := 50) (by decide) h
theorem lel_63 {b : Nat} (h : b < 2147483648) : (63 : Int32) ≤ nI b ↔ 63 ≤ b := nI_leI (a := 63) (by decide) h
theorem lel_64 {b : Nat} (h : b < 2147483648) : (64 : Int32) ≤ nI b ↔ 64 ≤ b := nI_leI (a := 64) (by decide) h
theorem lel_76 {b : Nat} (h : b < 2147483648) : (76 : Int32) ≤ nI b ↔ 76 ≤ b := nI_leI (a := 76) (by decide) h
theorem lel_97 {b : Nat} (h : b < 2147483648) : (97 : Int32) ≤ nI b ↔ 97 ≤ b := nI_leI (a := 97) (by decide) h
theorem lel_98 {b : Nat} (h : b < 2147483648) : (98 : Int32) ≤ nI b ↔ 98 ≤ b := nI_leI (a := 98) (by decide) h
theorem lel_99 {b : Nat} (h : b < 2147483648) : (99 : Int32) ≤ nI b ↔ 99 ≤ b := nI_leI (a := 99) (by decide) h
theorem lel_100 {b : Nat} (h : b < 2147483648) : (100 : Int32) ≤ nI b ↔ 100 ≤ b := nI_leI (a := 100) (by decide) h
theorem lel_105 {b : Nat} (h : b < 2147483648) : (105 : Int32) ≤ nI b ↔ 105 ≤ b := nI_leI (a := 105) (by decide) h
theorem lel_110 {b : Nat} (h : b < 2147483648) : (110 : Int32) ≤ nI b ↔ 110 ≤ b := nI_leI (a := 110) (by decide) h
theorem lel_111 {b : Nat} (h : b < 2147483648) : (111 : Int32) ≤ nI b ↔ 111 ≤ b := nI_leI (a := 111) (by decide) h
theorem lel_112 {b : Nat} (h : b < 2147483648) : (112 : Int32) ≤ nI b ↔ 112 ≤ b := nI_leI (a := 112) (by decide) h
theorem lel_114 {b : Nat} (h : b < 2147483648) : (114 : Int32) ≤ nI b ↔ 114 ≤ b := nI_leI (a := 114) (by decide) h
theorem lel_116 {b : Nat} (h : b < 2147483648) : (116 : Int32) ≤ nI b ↔ 116 ≤ b := nI_leI (a := 116) (by decide) h
theorem lel_120 {b : Nat} (h : b < 2147483648) : (120 : Int32) ≤ nI b ↔ 120 ≤ b := nI_leI (a := 120) (by decide) h
theorem lel_122 {b : Nat} (h : b < 2147483648) : (122 : Int32) ≤ nI b ↔ 122 ≤ b := nI_leI (a := 122) (by decide) h
theorem lel_124 {b : Nat} (h : b < 2147483648) : (124 : Int32) ≤ nI b ↔ 124 ≤ b := nI_leI (a := 124) (by decide) h
theorem lel_136 {b : Nat} (h : b < 2147483648) : (136 : Int32) ≤ nI b ↔ 136 ≤ b := nI_leI (a := 136) (by decide) h
theorem lel_196 {b : Nat} (h : b < 2147483648) : (196 : Int32) ≤ nI b ↔ 196 ≤ b := nI_leI (a := 196) (by decide) h
theorem lel_197 {b : Nat} (h : b < 2147483648) : (197 : Int32) ≤ nI b ↔ 197 ≤ b := nI_leI (a := 197) (by decide) h
theorem lel_198 {b : Nat} (h : b < 2147483648) : (198 : Int32) ≤ nI b ↔ 198 ≤ b := nI_leI (a := 198) (by decide) h
theorem lel_199 {b : Nat} (h : b < 2147483648) : (199 : Int32) ≤ nI b ↔ 199 ≤ b := nI_leI (a := 199) (by decide) h
theorem lel_200 {b : Nat} (h : b < 2147483648) : (200 : Int32) ≤ nI b ↔ 200 ≤ b := nI_leI (a := 200) (by decide) h
theorem lel_201 {b : Nat} (h : b < 2147483648) : (201 : Int32) ≤ nI b ↔ 201 ≤ b := nI_leI (a := 201) (by decide) h
theorem lel_202 {b : Nat} (h : b < 2147483648) : (202 : Int32) ≤ nI b ↔ 202 ≤ b := nI_leI (a := 202) (by decide) h
theorem lel_203 {b : Nat} (h : b < 2147483648) : (203 : Int32) ≤ nI b ↔ 203 ≤ b := nI_leI (a := 203) (by decide) h
theorem lel_204 {b : Nat} (h : b < 2147483648) : (204 : Int32) ≤ nI b ↔ 204 ≤ b := nI_leI (a := 204) (by decide) h
theorem lel_205 {b : Nat} (h : b < 2147483648) : (205 : Int32) ≤ nI b ↔ 205 ≤ b := nI_leI (a := 205) (by decide) h
theorem lel_233 {b : Nat} (h : b < 2147483648) : (233 : Int32) ≤ nI b ↔ 233 ≤ b := nI_leI (a := 233) (by decide) h
theorem lel_1000 {b : Nat} (h : b < 2147483648) : (1000 : Int32) ≤ nI b ↔ 1000 ≤ b := nI_leI (a := 1000) (by decide) h
theorem lel_2048 {b : Nat} (h : b < 2147483648) : (2048 : Int32) ≤ nI b ↔ 2048 ≤ b := nI_leI (a := 2048) (by decide) h
theorem lel_3029 {b : Nat} (h : b < 2147483648) : (3029 : Int32) ≤ nI b ↔ 3029 ≤ b := nI_leI (a := 3029) (by decide) h
theorem lel_10000 {b : Nat} (h : b < 2147483648) : (10000 : Int32) ≤ nI b ↔ 10000 ≤ b := nI_leI (a := 10000) (by decide) h
theorem cl_0 : (0 : Int32).toNatClampNeg = 0 := nI_clamp (n := 0) (by decide)
theorem cl_1 : (1 : Int32).toNatClampNeg = 1 := nI_clamp (n := 1) (by decide)
theorem cl_2 : (2 : Int32).toNatClampNeg = 2 := nI_clamp (n := 2) (by decide)
theorem cl_3 : (3 : Int32).toNatClampNeg = 3 := nI_clamp (n := 3) (by decide)
theorem cl_4 : (4 : Int32).toNatClampNeg = 4 := nI_clamp (n := 4) (by decide)
theorem cl_5 : (5 : Int32).toNatClampNeg = 5 := nI_clamp (n := 5) (by decide)
theorem cl_6 : (6 : Int32).toNatClampNeg = 6 := nI_clamp (n := 6) (by decide)
theorem cl_7 : (7 : Int32).toNatClampNeg = 7 := nI_clamp (n := 7) (by decide)
theorem cl_8 : (8 : Int32).toNatClampNeg = 8 := nI_clamp (n := 8) (by decide)
theorem cl_9 : (9 : Int32).toNatClampNeg = 9 := nI_clamp (n := 9) (by decide)
theorem cl_10 : (10 : Int32).toNatClampNeg = 10 := nI_clamp (n := 10) (by decide)
theorem cl_14 : (14 : Int32).toNatClampNeg = 14 := nI_clamp (n := 14) (by decide)
theorem cl_15 : (15 : Int32).toNatClampNeg = 15 := nI_clamp (n := 15) (by decide)
theorem cl_16 : (16 : Int32).toNatClampNeg = 16 := nI_clamp (n := 16) (by decide)
theorem cl_19 : (19 : Int32).toNatClampNeg = 19 := nI_clamp (n := 19) (by decide)
theorem cl_20 : (20 : Int32).toNatClampNeg = 20 := nI_clamp (n := 20) (by decide)
theorem cl_29 : (29 : Int32).toNatClampNeg = 29 := nI_clamp (n := 29) (by decide)
theorem cl_33 : (33 : Int32).toNatClampNeg = 33 := nI_clamp (n := 33) (by decide)
theorem cl_48 : (48 : Int32).toNatClampNeg = 48 := nI_clamp (n := 48) (by decide)
theorem cl_50 : (50 : Int32).toNatClampNeg = 50 := nI_clamp (n := 50) (by decide)
theorem cl_63 : (63 : Int32).toNatClampNeg = 63 := nI_clamp (n := 63) (by decide)
theorem cl_64 : (64 : Int32).toNatClampNeg = 64 := nI_clamp (n := 64) (by decide)
theorem cl_76 : (76 : Int32).toNatClampNeg = 76 := nI_clamp (n := 76) (by decide)
theorem cl_97 : (97 : Int32).toNatClampNeg = 97 := nI_clamp (n := 97) (by decide)
theorem cl_98 : (98 : Int32).toNatClampNeg = 98 := nI_clamp (n := 98) (by decide)
theorem cl_99 : (99 : Int32).toNatClampNeg = 99 := nI_clamp (n := 99) (by decide)
theorem cl_100 : (100 : Int32).toNatClampNeg = 100 := nI_clamp (n := 100) (by decide)
theorem cl_105 : (105 : Int32).toNatClampNeg = 105 := nI_clamp (n := 105) (by decide)
theorem cl_110 : (110 : Int32).toNatClampNeg = 110 := nI_clamp (n := 110) (by decide)
theorem cl_111 : (111 : Int32).toNatClampNeg = 111 := nI_clamp (n := 111) (by decide)
theorem cl_112 : (112 : Int32).toNatClampNeg = 112 := nI_clamp (n := 112) (by decide)
theorem cl_114 : (114 : Int32).toNatClampNeg = 114 := nI_clamp (n := 114) (by decide)
theorem cl_116 : (116 : Int32).toNatClampNeg = 116 := nI_clamp (n := 116) (by decide)
theorem cl_120 : (120 : Int32).toNatClampNeg = 120 := nI_clamp (n := 120) (by decide)
theorem cl_122 : (122 : Int32).toNatClampNeg = 122 := nI_clamp (n := 122) (by decide)
theorem cl_124 : (124 : Int32).toNatClampNeg = 124 := nI_clamp (n := 124) (by decide)
theorem cl_136 : (136 : Int32).toNatClampNeg = 136 := nI_clamp (n := 136) (by decide)
theorem cl_196 : (196 : Int32).toNatClampNeg = 196 := nI_clamp (n := 196) (by decide)
theorem cl_197 : (197 : Int32).toNatClampNeg = 197 := nI_clamp (n := 197) (by decide)
theorem cl_198 : (198 : Int32).toNatClampNeg = 198 := nI_clamp (n := 198) (by decide)
theorem cl_199 : (199 : Int32).toNatClampNeg = 199 := nI_clamp (n := 199) (by decide)
theorem cl_200 : (200 : Int32).toNatClampNeg = 200 := nI_clamp (n := 200) (by decide)
theorem cl_201 : (201 : Int32).toNatClampNeg = 201 := nI_clamp (n := 201) (by decide)
theorem cl_202 : (202 : Int32).toNatClampNeg = 202 := nI_clamp (n := 202) (by decide)
theorem cl_203 : (203 : Int32).toNatClampNeg = 203 := nI_clamp (n := 203) (by decide)
theorem cl_204 : (204 : Int32).toNatClampNeg = 204 := nI_clamp (n := 204) (by decide)
theorem cl_205 : (205 : Int32).toNatClampNeg = 205 := nI_clamp (n := 205) (by decide)
theorem cl_233 : (233 : Int32).toNatClampNeg = 233 := nI_clamp (n := 233) (by decide)
theorem cl_1000 : (1000 : Int32).toNatClampNeg = 1000 := nI_clamp (n := 1000) (by decide)
theorem cl_2048 : (2048 : Int32).toNatClampNeg = 2048 := nI_clamp (n := 2048) (by decide)
theorem cl_3029 : (3029 : Int32).toNatClampNeg = 3029 := nI_clamp (n := 3029) (by decide)
theorem cl_10000 : (10000 : Int32).toNatClampNeg = 10000 := nI_clamp (n := 10000) (by decide)
theorem bookAt_0 (b : Nat) : fX4_bookAt (nI b) 0 = some (nI (5 * b + 0), ()) := bookAt_spec b 0
theorem visitorAt_0 (v : Nat) : fX4_visitorAt (nI v) 0 = some (nI (100 + 4 * v + 0), ()) := visitorAt_spec v 0
theorem gateAt_0 (g : Nat) : fX4_gateAt (nI g) 0 = some (nI (124 + 4 * g + 0), ()) := gateAt_spec g 0
theorem bookAt_1 (b : Nat) : fX4_bookAt (nI b) 1 = some (nI (5 * b + 1), ()) := bookAt_spec b 1
theorem visitorAt_1 (v : Nat) : fX4_visitorAt (nI v) 1 = some (nI (100 + 4 * v + 1), ()) := visitorAt_spec v 1
theorem gateAt_1 (g : Nat) : fX4_gateAt (nI g) 1 = some (nI (124 + 4 * g + 1), ()) := gateAt_spec g 1
theorem bookAt_2 (b : Nat) : fX4_bookAt (nI b) 2 = some (nI (5 * b + 2), ()) := bookAt_spec b 2
theorem visitorAt_2 (v : Nat) : fX4_visitorAt (nI v) 2 = some (nI (100 + 4 * v + 2), ()) := visitorAt_spec v 2
theorem gateAt_2 (g : Nat) : fX4_gateAt (nI g) 2 = some (nI (124 + 4 * g + 2), ()) := gateAt_spec g 2
theorem bookAt_3 (b : Nat) : fX4_bookAt (nI b) 3 = some (nI (5 * b + 3), ()) := bookAt_spec b 3
theorem visitorAt_3 (v : Nat) : fX4_visitorAt (nI v) 3 = some (nI (100 + 4 * v + 3), ()) := visitorAt_spec v 3
theorem gateAt_3 (g : Nat) : fX4_gateAt (nI g) 3 = some (nI (124 + 4 * g + 3), ()) := gateAt_spec g 3
theorem bookAt_4 (b : Nat) : fX4_bookAt (nI b) 4 = some (nI (5 * b + 4), ()) := bookAt_spec b 4
theorem visitorAt_4 (v : Nat) : fX4_visitorAt (nI v) 4 = some (nI (100 + 4 * v + 4), ()) := visitorAt_spec v 4
theorem gateAt_4 (g : Nat) : fX4_gateAt (nI g) 4 = some (nI (124 + 4 * g + 4), ()) := gateAt_spec g 4
theorem row_at (g : Nat) : (136 : Int32) + (20 : Int32) * nI g = nI (136 + 20 * g) := by
  rw [li_136, li_20, pk_mul, nI_add]
theorem nI_p0 (n : Nat) : nI n + (0 : Int32) = nI n := by rw [li_0, nI_add]; rfl
theorem fuel_ge : 4096 ≤ gFuel := by decide
theorem fuel_eq (n : Nat) (h : n < 4096) : ∃ f, gFuel = f + n + 1 := ⟨gFuel - n - 1, by have := fuel_ge; omega⟩
