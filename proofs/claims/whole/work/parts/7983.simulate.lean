theorem wb_tb (n : Nat) : (lN n).toBitVec = BitVec.ofNat 64 n := rfl
theorem wb_inj {a b : Int64} (h : a.toBitVec = b.toBitVec) : a = b := Int64.toBitVec_inj.mp h
theorem wb_tn {n : Nat} (h : n < 2 ^ 64) : (lN n).toBitVec.toNat = n := by rw [wb_tb, BitVec.toNat_ofNat, Nat.mod_eq_of_lt h]
theorem wb_of (x : Int64) : ∃ n, n < 2 ^ 64 ∧ x = lN n := ⟨x.toBitVec.toNat, x.toBitVec.isLt, wb_inj (by rw [wb_tb]; simp)⟩
theorem wb_cu : ∀ k, k < 64 → ((nI k).toInt64.toUInt64 &&& Int64.toUInt64 63) = UInt64.ofNat k := by decide +kernel
theorem wb_shr {n k : Nat} (hn : n < 2 ^ 64) (hk : k < 64) : ((lN n).toUInt64 >>> ((nI k).toInt64.toUInt64 &&& Int64.toUInt64 63)).toInt64 = lN (n / 2 ^ k) := by
  rw [wb_cu k hk]
  apply wb_inj
  apply BitVec.eq_of_toNat_eq
  show ((lN n).toUInt64 >>> UInt64.ofNat k).toNat = (BitVec.ofNat 64 _).toNat
  have h1 : (UInt64.ofNat k).toNat = k := by
    show (BitVec.ofNat 64 k).toNat = k
    rw [BitVec.toNat_ofNat, Nat.mod_eq_of_lt (by omega)]
  have h2 : (lN n).toUInt64.toNat = n := wb_tn hn
  rw [UInt64.toNat_shiftRight, h1, h2, Nat.mod_eq_of_lt hk, Nat.shiftRight_eq_div_pow, BitVec.toNat_ofNat, Nat.mod_eq_of_lt (Nat.lt_of_le_of_lt (Nat.div_le_self _ _) hn)]
section SU
variable {T T' : Nat} {A B : AS} {s : ST} {r : gS}
theorem tel (x a y : Int32) : (x - a) + (y - x) = y - a := by
  rw [Int32.add_comm, Int32.sub_eq_add_neg x a, ← Int32.add_assoc, Int32.sub_add_cancel, ← Int32.sub_eq_add_neg]
theorem tel2 (x c d : Int32) : x + (c - d) = x + c - d := by
  rw [Int32.sub_eq_add_neg c d, ← Int32.add_assoc, ← Int32.sub_eq_add_neg]
def Ps (T : Nat) (B : AS) (s : ST) (r : gS) (x : Option ST) (y : Option gS) : Prop := ∃ (L : gS) (row : Nat → Int32) (B' : AS), x = some (s.1, s.2.1, s.2.2.1, L, s.2.2.2.2) ∧ y = some (stf r 4 row) ∧ RA L B' ∧ RB row B' ∧ Good T B' ∧ ∀ i, B'.1 11 i = B.1 11 i
theorem Ps_neg {c d : Prop} [Decidable c] [Decidable d] {x1 x2 : Option ST} {y1 y2 : Option gS} (hc : ¬ c) (hd : ¬ d) (h : Ps T B s r x2 y2) : Ps T B s r (if c then x1 else x2) (if d then y1 else y2) := by rw [if_neg hc, if_neg hd]; exact h
theorem Ps_pos {c d : Prop} [Decidable c] [Decidable d] {x1 x2 : Option ST} {y1 y2 : Option gS} (hc : c) (hd : d) (h : Ps T B s r x1 y1) : Ps T B s r (if c then x1 else x2) (if d then y1 else y2) := by rw [if_pos hc, if_pos hd]; exact h
theorem Ps_Pt {x y : Option (Int32 × gS)} (h : Pt T B r x y) : Ps T B s r (x.bind fun r6 => gl (s.1, s.2.1, s.2.2.1, r6.2, s.2.2.2.2) (fun u7 => some u7)) (y.bind fun r6 => some r6.2) := by
  obtain ⟨c, L, row, B', h1, h2, h3, h4, h5, h6⟩ := h
  subst h1
  subst h2
  exact ⟨L, row, B', rfl, rfl, h3, h4, h5, h6⟩
theorem pBoB {σ : gS} (hA : RA σ B) (hB : RB (r 4) B) (hG : Good T B) {b : Nat} (hb : b < 20) : Pt T B r (fX1_tryBorrowOrBringBack σ (nI b)) ((fX4_bookAt (nI b) (1 : Int32)).bind fun r10 => (gd (inb r10.1 233) (if (r 4 r10.1.toNatClampNeg) = 0 then (fX4_marks r (nI b) (1 : Int32)) else (fX4_marks r (nI b) (2 : Int32))))) := by
  simp (disch := omega) only [bookAt_1, Option.bind_some, gd_in, cl_nI]
  rw [hB.bk (k := 1) (by omega) hb]
  unfold fX1_tryBorrowOrBringBack
  rw [isM_has hA.2.1 hb, Option.bind_some]
  rcases (hG.1.2.1 b hb).1 with e | e
  · obtain ⟨c, L, row, B', h1, h2, h3, h4, h5, h6⟩ := pBor (b := b) hA hB hG (by omega)
    rw [decide_eq_false (show ¬ B.1 1 b = 1 by rw [e]; decide), if_pos bI_f, h1, Option.bind_some, if_pos e]
    exact ⟨c, L, row, B', gd_t (bI_01 c) _, h2, h3, h4, h5, h6⟩
  · obtain ⟨c, L, row, B', h1, h2, h3, h4, h5, h6⟩ := pBring (b := b) hA hB hG (by omega)
    rw [decide_eq_true e, if_neg (show ¬ bI true = 0 by decide), h1, Option.bind_some, if_neg (show ¬ B.1 1 b = 0 by rw [e]; decide)]
    exact ⟨c, L, row, B', gd_t (bI_01 c) _, h2, h3, h4, h5, h6⟩
theorem pWEW {σ : gS} (hA : RA σ B) (hB : RB (r 4) B) (hG : Good T B) {v g : Nat} (hv : v < 6) (hg : g < 3) : Pt T B r (fX1_tryWalkEitherWay σ (nI v) (nI g)) (fX4_walks r (nI v) (nI g) (bI (decide (B.1 5 v = 0)))) := by
  unfold fX1_tryWalkEitherWay
  rw [isVisitor_s (by omega), Option.bind_some]
  simp only [bI_0]
  rw [decide_eq_true hv, if_neg (by decide), gd_in hv (by decide)]
  simp (disch := omega) only [cl_nI]
  rw [hA.wh hv]
  have key : ∀ out : Bool, Pt T B r (fX1_tryWalkEitherWay_L24 σ (nI v) (nI g) (bI out)) (fX4_walks r (nI v) (nI g) (bI out)) := fun out => by
    obtain ⟨c, L, row, B', h1, h2, h3, h4, h5, h6⟩ := pWalk (v := v) (g := g) hA hB hG (by omega) (by omega) out
    unfold fX1_tryWalkEitherWay_L24
    rw [h1, Option.bind_some]
    exact ⟨c, L, row, B', ifb c _, h2, h3, h4, h5, h6⟩
  by_cases e : B.1 5 v = 0
  · rw [if_pos e, decide_eq_true e]; exact key true
  · rw [if_neg e, decide_eq_false e]; exact key false
theorem stir_pr (hA : RA s.2.2.2.1 B) (hB : RB (r 4) B) (hG : Good T B) {R : Nat} (hR : R < 2147483648) : Ps T B s r (fX3_doSimulatedTurn s (nI R)) (fX4_stir r (nI R)) := by
  obtain ⟨v, hv⟩ : ∃ v, v = R / 8 % 6 := ⟨_, rfl⟩
  obtain ⟨b, hb⟩ : ∃ v, v = R / 64 % 20 := ⟨_, rfl⟩
  obtain ⟨g, hg⟩ : ∃ v, v = R / 2048 % 3 := ⟨_, rfl⟩
  obtain ⟨w, hw⟩ : ∃ v, v = R % 8 := ⟨_, rfl⟩
  have e1 : nI R / (8 : Int32) - nI R / (8 : Int32) / (6 : Int32) * (6 : Int32) = nI v := by rw [hv]; exact dgt (d := 8) (e := 6) (by omega) (by decide) (by decide) (by decide) (by decide)
  have e2 : nI R / (64 : Int32) - nI R / (64 : Int32) / (20 : Int32) * (20 : Int32) = nI b := by rw [hb]; exact dgt (d := 64) (e := 20) (by omega) (by decide) (by decide) (by decide) (by decide)
  have e3 : nI R / (2048 : Int32) - nI R / (2048 : Int32) / (3 : Int32) * (3 : Int32) = nI g := by rw [hg]; exact dgt (d := 2048) (e := 3) (by omega) (by decide) (by decide) (by decide) (by decide)
  have e4 : nI R - nI R / (8 : Int32) * (8 : Int32) = nI w := by rw [hw]; exact pk_rem (d := 8) hR (by decide) (by decide)
  have lv : v < 6 := by omega
  have lb : b < 20 := by omega
  have lg : g < 3 := by omega
  have lw : w < 8 := by omega
  clear hv hb hg hw
  unfold fX3_doSimulatedTurn fX4_stir
  rw [gl_to e1, gl_to e2, gl_to e3, gl_to e4, gl_to e1, gl_to e2, gl_to e3, gl_to e4]
  clear e1 e2 e3 e4
  have ways : Ps T B s r ((fX1_tryWalkEitherWay s.2.2.2.1 (nI v) (nI g)).bind fun r15 => gl (s.1, s.2.1, s.2.2.1, r15.2, s.2.2.2.2) (fun u16 => some u16)) ((fX4_isInside (r 4) (nI v)).bind fun r14 => (gl (stf r 4 r14.2) (fun u15 => ((fX4_walks u15 (nI v) (nI g) r14.1).bind fun r16 => (some r16.2))))) := by
    rw [isInside_spec hB lv, Option.bind_some]
    simp only [gl, sf_self]
    exact Ps_Pt (s := s) (pWEW hA hB hG lv lg)
  have same : Ps T B s r (some s) (some r) := ⟨s.2.2.2.1, r 4, B, rfl, by rw [sf_self], hA, hB, hG, fun _ => rfl⟩
  rcases (by omega : w = 0 ∨ w = 1 ∨ w = 2 ∨ w = 3 ∨ w = 4 ∨ w = 5 ∨ w = 6 ∨ w = 7) with rfl | rfl | rfl | rfl | rfl | rfl | rfl | rfl
  · exact Ps_pos rfl rfl (Ps_Pt (pTake hA hB hG (by omega) (by omega)))
  all_goals refine Ps_neg (by decide) (by decide) ?_
  · exact Ps_pos rfl rfl (Ps_Pt (pTake hA hB hG (by omega) (by omega)))
  all_goals refine Ps_neg (by decide) (by decide) ?_
  · refine Ps_pos rfl rfl ?_
    have h := Ps_Pt (s := s) (pBoB hA hB hG lb)
    simp (disch := omega) only [bookAt_1, Option.bind_some, gd_in, cl_nI] at h ⊢
    by_cases e : r 4 (5 * b + 1) = 0
    · rw [if_pos e] at h ⊢; exact h
    · rw [if_neg e] at h ⊢; exact h
  all_goals refine Ps_neg (by decide) (by decide) ?_
  · exact Ps_pos rfl rfl ways
  all_goals refine Ps_neg (by decide) (by decide) ?_
  · exact Ps_pos rfl rfl ways
  all_goals refine Ps_neg (by decide) (by decide) ?_
  · exact Ps_pos rfl rfl (Ps_Pt (pTurn hA hB hG (by omega)))
  all_goals exact Ps_neg (by decide) (by decide) same
theorem lcg31 (x : Int64) : ∃ R, R < 2147483648 ∧ ((x.toUInt64 >>> (((33 : Int32)).toInt64.toUInt64 &&& Int64.toUInt64 63)).toInt64).toInt32 = nI R := by
  obtain ⟨n, hn, e⟩ := wb_of x
  subst e
  refine ⟨n / 2 ^ 33, by omega, ?_⟩
  have : ((lN n).toUInt64 >>> (((33 : Int32)).toInt64.toUInt64 &&& Int64.toUInt64 63)).toInt64 = lN (n / 2 ^ 33) := wb_shr (k := 33) hn (by decide)
  rw [this, lN_i]
end SU
