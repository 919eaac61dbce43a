theorem nx_cnt : ∀ j : Fin 32, (UInt32.ofNat j.val &&& Int32.toUInt32 31).toNat % 32 = j.val := by decide +kernel
theorem nx_and (a b : Nat) : nI a &&& nI b = nI (a &&& b) := by
  apply Int32.toBitVec_inj.1
  show BitVec.ofNat 32 a &&& BitVec.ofNat 32 b = BitVec.ofNat 32 (a &&& b)
  apply BitVec.eq_of_getLsbD_eq
  intro i hi
  simp [hi]
theorem ush_nI {k j : Nat} (hk : k < 4294967296) (hj : j < 32) : ((nI k).toUInt32 >>> ((nI j).toUInt32 &&& Int32.toUInt32 31)).toInt32 = nI (k / 2 ^ j) := by
  have hs : k >>> j ≤ k := by
    rw [Nat.shiftRight_eq_div_pow]
    exact Nat.div_le_self _ _
  have e2 : UInt32.ofNat k >>> (UInt32.ofNat j &&& Int32.toUInt32 31) = UInt32.ofNat (k >>> j) := by
    apply UInt32.toNat_inj.1
    have h1 : (UInt32.ofNat k).toNat = k := Nat.mod_eq_of_lt (by omega)
    have h2 : (UInt32.ofNat (k >>> j)).toNat = k >>> j := Nat.mod_eq_of_lt (by omega)
    rw [UInt32.toNat_shiftRight, nx_cnt ⟨j, hj⟩, h1, h2]
  rw [← Nat.shiftRight_eq_div_pow]
  show (UInt32.ofNat k >>> (UInt32.ofNat j &&& Int32.toUInt32 31)).toInt32 = _
  rw [e2]
  rfl
def pU (m x : Nat) : Nat := x - ((x / 2) &&& m)
def pV (m x : Nat) : Nat := (x &&& m) + ((x / 4) &&& m)
def pW (m x : Nat) : Nat := (x + x / 16) &&& m
theorem and_sp (p q m : Nat) (hq : q < 256) : ((256 * p + q) &&& m) = 256 * (p &&& (m / 256)) + (q &&& (m % 256)) := by
  have h1 : ((256 * p + q) &&& m) / 2 ^ 8 = (256 * p + q) / 2 ^ 8 &&& m / 2 ^ 8 := Nat.and_div_two_pow
  have h2 : ((256 * p + q) &&& m) % 2 ^ 8 = ((256 * p + q) % 2 ^ 8) &&& (m % 2 ^ 8) := Nat.and_mod_two_pow
  have e1 : (256 * p + q) / 2 ^ 8 = p := by omega
  have e2 : (256 * p + q) % 2 ^ 8 = q := by omega
  rw [e1] at h1
  rw [e2] at h2
  have e3 : (2 : Nat) ^ 8 = 256 := rfl
  rw [e3] at h1 h2
  omega
theorem pU_lo : ∀ e, e < 2 → ∀ c, c < 128 → (128 * e + c) &&& 85 = c &&& 85 := by decide +kernel
theorem pV_lo : ∀ e, e < 4 → ∀ c, c < 64 → (64 * e + c) &&& 51 = c &&& 51 := by decide +kernel
theorem pU_le (m x : Nat) : pU m x ≤ x := Nat.sub_le _ _
theorem pU_sp {a b m : Nat} (hb : b < 256) (hm : m % 256 = 85) : pU m (256 * a + b) = 256 * pU (m / 256) a + pU 85 b := by
  unfold pU
  have e : (256 * a + b) / 2 = 256 * (a / 2) + (128 * (a % 2) + b / 2) := by omega
  rw [e, and_sp _ _ _ (by omega), hm, pU_lo _ (by omega) _ (by omega)]
  have h1 : (a / 2) &&& (m / 256) ≤ a / 2 := Nat.and_le_left
  have h2 : (b / 2) &&& 85 ≤ b / 2 := Nat.and_le_left
  omega
theorem pV_sp {a b m : Nat} (hb : b < 256) (hm : m % 256 = 51) : pV m (256 * a + b) = 256 * pV (m / 256) a + pV 51 b := by
  unfold pV
  have e : (256 * a + b) / 4 = 256 * (a / 4) + (64 * (a % 4) + b / 4) := by omega
  rw [e, and_sp a b m hb, and_sp _ _ _ (by omega), hm, pV_lo _ (by omega) _ (by omega)]
  omega
theorem pV_le (b : Nat) : pV 51 b ≤ 102 := by
  unfold pV
  have h1 : b &&& 51 ≤ 51 := Nat.and_le_right
  have h2 : (b / 4) &&& 51 ≤ 51 := Nat.and_le_right
  omega
theorem pV_16 {a m : Nat} (hm : m % 16 = 3) : pV m a % 16 ≤ 6 := by
  unfold pV
  have h1 : (a &&& m) % 2 ^ 4 = (a % 2 ^ 4) &&& (m % 2 ^ 4) := Nat.and_mod_two_pow
  have h2 : ((a / 4) &&& m) % 2 ^ 4 = ((a / 4) % 2 ^ 4) &&& (m % 2 ^ 4) := Nat.and_mod_two_pow
  have h3 : (a % 2 ^ 4) &&& (m % 2 ^ 4) ≤ m % 2 ^ 4 := Nat.and_le_right
  have h4 : ((a / 4) % 2 ^ 4) &&& (m % 2 ^ 4) ≤ m % 2 ^ 4 := Nat.and_le_right
  have e3 : (2 : Nat) ^ 4 = 16 := rfl
  rw [e3] at h1 h2 h3 h4
  omega
theorem pW_sp {a b m : Nat} (hb : b ≤ 102) (ha : a % 16 ≤ 6) (hm : m % 256 = 15) : pW m (256 * a + b) = 256 * pW (m / 256) a + pW 15 b := by
  unfold pW
  have e : (256 * a + b) + (256 * a + b) / 16 = 256 * (a + a / 16) + (b + b / 16 + 16 * (a % 16)) := by omega
  rw [e, and_sp _ _ _ (by omega), hm]
  have h1 : (b + b / 16 + 16 * (a % 16)) &&& 15 = (b + b / 16 + 16 * (a % 16)) % 16 := Nat.and_two_pow_sub_one_eq_mod (n := 4) _
  have h2 : (b + b / 16) &&& 15 = (b + b / 16) % 16 := Nat.and_two_pow_sub_one_eq_mod (n := 4) _
  rw [h1, h2]
  omega
theorem p8 : ∀ b, b < 256 → pW 15 (pV 51 (pU 85 b)) = fb_ct (fun i => b.testBit i) 8 := by decide +kernel
theorem p8t : ∀ b, b < 16 → pW 3855 (pV 13107 (pU 21845 b)) = fb_ct (fun i => b.testBit i) 4 := by decide +kernel
theorem p20 {X : Nat} (hX : X < 1048576) : pW 252645135 (pV 858993459 (pU 1431655765 X)) = fb_ct (fun i => (X % 256).testBit i) 8 + 256 * fb_ct (fun i => (X / 256 % 256).testBit i) 8 + 65536 * fb_ct (fun i => (X / 65536).testBit i) 4 := by
  have hb0 : X % 256 < 256 := by omega
  have hb1 : X / 256 % 256 < 256 := by omega
  have hb2 : X / 65536 < 16 := by omega
  have e : X = 256 * (256 * (X / 65536) + X / 256 % 256) + X % 256 := by omega
  rw [← p8 _ hb0, ← p8 _ hb1, ← p8t _ hb2]
  generalize X % 256 = b0 at *
  generalize X / 256 % 256 = b1 at *
  generalize X / 65536 = b2 at *
  subst e
  rw [pU_sp hb0 rfl, pU_sp hb1 rfl]
  have l0 := pU_le 85 b0
  have l1 := pU_le 85 b1
  rw [pV_sp (by omega) rfl, pV_sp (by omega) rfl]
  have w1 := pV_le (pU 85 b1)
  have w2 : pV 13107 (pU 21845 b2) % 16 ≤ 6 := pV_16 rfl
  have w3 : (256 * pV (858993459 / 256 / 256) (pU (1431655765 / 256 / 256) b2) + pV 51 (pU 85 b1)) % 16 ≤ 6 := by
    have := pV_16 (a := pU 85 b1) (m := 51) rfl
    omega
  rw [pW_sp (pV_le _) w3 rfl, pW_sp w1 w2 rfl]
  show 256 * (256 * pW 3855 (pV 13107 (pU 21845 b2)) + _) + _ = _
  omega
theorem ct20 {X : Nat} (p : Nat → Bool) (h : ∀ i, i < 20 → p i = X.testBit i) : fb_ct p 20 = fb_ct (fun i => (X % 256).testBit i) 8 + fb_ct (fun i => (X / 256 % 256).testBit i) 8 + fb_ct (fun i => (X / 65536).testBit i) 4 := by
  rw [fb_ct_split p 8 12, fb_ct_split (fun k => p (8 + k)) 8 4]
  have e0 : fb_ct p 8 = fb_ct (fun i => (X % 256).testBit i) 8 := fb_ct_cong (fun k hk => by
    rw [h k (by omega)]
    have := Nat.testBit_mod_two_pow X 8 k
    rw [decide_eq_true (show k < 8 from hk), Bool.true_and] at this
    exact this.symm)
  have e1 : fb_ct (fun k => p (8 + k)) 8 = fb_ct (fun i => (X / 256 % 256).testBit i) 8 := fb_ct_cong (fun k hk => by
    show p (8 + k) = _
    rw [h _ (by omega)]
    have := Nat.testBit_mod_two_pow (X / 256) 8 k
    rw [decide_eq_true (show k < 8 from hk), Bool.true_and] at this
    have t2 := Nat.testBit_div_two_pow (n := 8) X k
    rw [show X / 256 = X / 2 ^ 8 from rfl] at *
    rw [show (256 : Nat) = 2 ^ 8 from rfl, this, t2, Nat.add_comm])
  have e2 : fb_ct (fun k => p (8 + (8 + k))) 4 = fb_ct (fun i => (X / 65536).testBit i) 4 := fb_ct_cong (fun k hk => by
    show p (8 + (8 + k)) = _
    rw [h _ (by omega)]
    have t2 := Nat.testBit_div_two_pow (n := 16) X k
    rw [show X / 65536 = X / 2 ^ 16 from rfl, t2]
    congr 1; omega)
  omega
theorem bitCount_nI {X : Nat} (hX : X < 1048576) : fJ6_bitCount_0f7a4 (nI X) = some (nI (fb_ct (fun i => X.testBit i) 20), ()) := by
  have c : fb_ct (fun i => X.testBit i) 20 = _ := ct20 (X := X) _ (fun _ _ => rfl)
  have hp := p20 hX
  have b0 := fb_ct_le (fun i => (X % 256).testBit i) 8
  have b1 := fb_ct_le (fun i => (X / 256 % 256).testBit i) 8
  have b2 := fb_ct_le (fun i => (X / 65536).testBit i) 4
  rw [c]
  generalize fb_ct (fun i => (X % 256).testBit i) 8 = c0 at *
  generalize fb_ct (fun i => (X / 256 % 256).testBit i) 8 = c1 at *
  generalize fb_ct (fun i => (X / 65536).testBit i) 4 = c2 at *
  have hu := pU_le 1431655765 X
  have hv : pV 858993459 (pU 1431655765 X) ≤ 2 * pU 1431655765 X := by
    unfold pV
    have h1 : pU 1431655765 X &&& 858993459 ≤ pU 1431655765 X := Nat.and_le_left
    have h2 : (pU 1431655765 X / 4) &&& 858993459 ≤ pU 1431655765 X / 4 := Nat.and_le_left
    omega
  unfold fJ6_bitCount_0f7a4
  simp only [gl]
  have s1 : ((nI X).toUInt32 >>> (((1 : Int32)).toUInt32 &&& Int32.toUInt32 31)).toInt32 = nI (X / 2) := ush_nI (j := 1) (by omega) (by decide)
  have m1 : nI (X / 2) &&& (1431655765 : Int32) = nI (X / 2 &&& 1431655765) := nx_and _ 1431655765
  have h1 : X / 2 &&& 1431655765 ≤ X / 2 := Nat.and_le_left
  rw [s1, m1, sub_nI (by omega)]
  show some ((((_ : Int32)) &&& 63), ()) = _
  rw [show X - (X / 2 &&& 1431655765) = pU 1431655765 X from rfl]
  generalize pU 1431655765 X = U at *
  have s2 : ((nI U).toUInt32 >>> (((2 : Int32)).toUInt32 &&& Int32.toUInt32 31)).toInt32 = nI (U / 4) := ush_nI (j := 2) (by omega) (by decide)
  have m2 : nI U &&& (858993459 : Int32) = nI (U &&& 858993459) := nx_and _ 858993459
  have m2' : nI (U / 4) &&& (858993459 : Int32) = nI (U / 4 &&& 858993459) := nx_and _ 858993459
  rw [s2, m2, m2', nI_add, show (U &&& 858993459) + (U / 4 &&& 858993459) = pV 858993459 U from rfl]
  generalize pV 858993459 U = V at *
  have s3 : ((nI V).toUInt32 >>> (((4 : Int32)).toUInt32 &&& Int32.toUInt32 31)).toInt32 = nI (V / 16) := ush_nI (j := 4) (by omega) (by decide)
  have m3 : nI (V + V / 16) &&& (252645135 : Int32) = nI ((V + V / 16) &&& 252645135) := nx_and _ 252645135
  rw [s3, nI_add, m3, show (V + V / 16) &&& 252645135 = pW 252645135 V from rfl, hp]
  have s4 : ((nI (c0 + 256 * c1 + 65536 * c2)).toUInt32 >>> (((8 : Int32)).toUInt32 &&& Int32.toUInt32 31)).toInt32 = nI ((c0 + 256 * c1 + 65536 * c2) / 256) := ush_nI (j := 8) (by omega) (by decide)
  rw [s4, nI_add, show (c0 + 256 * c1 + 65536 * c2) + (c0 + 256 * c1 + 65536 * c2) / 256 = (c0 + c1) + 256 * (c1 + c2) + 65536 * c2 by omega]
  have s5 : ((nI ((c0 + c1) + 256 * (c1 + c2) + 65536 * c2)).toUInt32 >>> (((16 : Int32)).toUInt32 &&& Int32.toUInt32 31)).toInt32 = nI (((c0 + c1) + 256 * (c1 + c2) + 65536 * c2) / 65536) := ush_nI (j := 16) (by omega) (by decide)
  rw [s5, nI_add, show ((c0 + c1) + 256 * (c1 + c2) + 65536 * c2) + ((c0 + c1) + 256 * (c1 + c2) + 65536 * c2) / 65536 = (c0 + c1 + c2) + 64 * (4 * (c1 + c2) + 1024 * c2) by omega]
  have m5 : nI ((c0 + c1 + c2) + 64 * (4 * (c1 + c2) + 1024 * c2)) &&& (63 : Int32) = nI (((c0 + c1 + c2) + 64 * (4 * (c1 + c2) + 1024 * c2)) &&& 63) := nx_and _ 63
  have m6 : ((c0 + c1 + c2) + 64 * (4 * (c1 + c2) + 1024 * c2)) &&& 63 = ((c0 + c1 + c2) + 64 * (4 * (c1 + c2) + 1024 * c2)) % 64 := Nat.and_two_pow_sub_one_eq_mod (n := 6) _
  rw [m5, m6]
  have m7 : ((c0 + c1 + c2) + 64 * (4 * (c1 + c2) + 1024 * c2)) % 64 = c0 + c1 + c2 := by omega
  rw [m7]
/-- w is the set p of books -/
def isM (w : Int32) (p : Nat → Prop) : Prop := ∀ i, i < 32 → (bt w i = true ↔ (i < 20 ∧ p i))
theorem bt_nI (w : Int32) : ∃ X, w = nI X ∧ X < 4294967296 ∧ ∀ i, bt w i = X.testBit i := by
  refine ⟨w.toBitVec.toNat, ?_, w.toBitVec.isLt, fun i => rfl⟩
  apply Int32.toBitVec_inj.1
  show w.toBitVec = BitVec.ofNat 32 w.toBitVec.toNat
  simp
theorem isM_count {w : Int32} {p : Nat → Prop} [DecidablePred p] (h : isM w p) : fJ6_bitCount_0f7a4 w = some (nI (fb_ct (fun i => decide (p i)) 20), ()) := by
  obtain ⟨X, e, hX, hb⟩ := bt_nI w
  have hX2 : X < 2 ^ 20 := Nat.lt_pow_two_of_testBit X (fun i hi => by
    rw [← hb i]
    rcases Nat.lt_or_ge i 32 with q | q
    · have := h i q
      cases hc : bt w i with
      | false => rfl
      | true => exact absurd (this.mp hc).1 (by omega)
    · exact b_big q)
  have c : fb_ct (fun i => decide (p i)) 20 = fb_ct (fun i => X.testBit i) 20 := fb_ct_cong (fun k hk => by
    show decide (p k) = X.testBit k
    rw [← hb k]
    have := h k (by omega)
    by_cases q : p k
    · rw [decide_eq_true q, this.mpr ⟨hk, q⟩]
    · rw [decide_eq_false q]
      cases hc : bt w k with
      | false => rfl
      | true => exact absurd (this.mp hc).2 q)
  rw [c, e]
  exact bitCount_nI hX2
