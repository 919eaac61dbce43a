section RM
variable {T : Nat} {A : AS}
theorem remC {σ : ST} {n : Nat} (hn : n < 14) (hc : σ.1 0 4 = nI n) (hρ : σ.2.2.2.2.2 n < 14) (h : RA σ.2.2.1 A) (hI : Inv T A) : ∃ σ', fX3_remember_L13 σ = some σ' ∧ (σ'.1 = st2 σ.1 0 4 (nI (n + 1)) ∧ σ'.2.1 = σ.2.1 ∧ σ'.2.2.1 = σ.2.2.1 ∧ σ'.2.2.2.1 = σ.2.2.2.1 ∧ σ'.2.2.2.2.2 = σ.2.2.2.2.2 ∧ ∃ t, RA t A ∧ σ'.2.2.2.2.1 = kUp σ.2.2.2.2.1 (σ.2.2.2.2.2 n) t) := by
  obtain ⟨t, k1, k2, -⟩ := copy_s (σ.2.2.2.2.1 (σ.2.2.2.2.2 n)) h (qlen_of hI)
  unfold fX3_remember_L13
  refine gd_ex hc hn (by decide) (gl_ex fun q1 h1 => ?_)
  rw [hc, cl_nI (by omega)] at h1
  subst h1
  rw [gd_t (by omega)]
  refine bd_ex k1 (gl_ex fun u4 h4 => gl_ex fun t5 h5 => gl_ex fun u6 h6 => ⟨u6, rfl, ?_⟩)
  subst h6
  subst h5
  subst h4
  refine ⟨?_, rfl, rfl, rfl, rfl, t, k2, rfl⟩
  show st2 σ.1 0 4 (σ.1 0 4 + 1) = _
  rw [hc, nI_1]
theorem remR {r : gS} {n : Nat} (hn : n < 14) (hc : r 0 10 = nI n) : ∃ r', fX4_remember_L37 r = some r' ∧ ((∀ k j, k ≠ 5 → ¬ (k = 0 ∧ j = 10) → r' k j = r k j) ∧ r' 0 10 = nI (n + 1) ∧ ∀ j, r' 5 j = if 233 * n ≤ j ∧ j < 233 * n + 233 then r 3 (j - 233 * n) else r 5 j) := by
  have e : (233 : Int32) * r 0 10 = nI (233 * n) := by rw [hc, li_233, pk_mul]
  obtain ⟨row, k1, k2, k3⟩ := X4_copy_233_3262_spec (r 3) (r 5) (s := 0) (d := 233 * n) (n := 233) (by omega) (by omega)
  unfold fX4_remember_L37
  rw [e]
  refine bd_ex (v := (r 3, row)) k1 (gl_ex fun u2 h2 => gl_ex fun t3 h3 => gl_ex fun u4 h4 => ⟨u4, rfl, fun k j a b => ?_, ?_, fun j => ?_⟩)
  · rw [h4, st_ne (by omega), h2]
    show stf (stf r 3 (r 3)) 5 row k j = _
    rw [sf_self, sf_ne a]
  · rw [h4, st_eq rfl rfl, h3, h2]
    show stf (stf r 3 (r 3)) 5 row 0 10 + 1 = _
    rw [sf_self, sf_ne (by decide), hc, nI_1]
  · rw [h4, st_ne (Or.inl (by decide)), h2]
    show stf (stf r 3 (r 3)) 5 row 5 j = _
    rw [sf_eq]
    by_cases c : 233 * n ≤ j ∧ j < 233 * n + 233
    · rw [if_pos c, k2 j c.1 c.2, Nat.zero_add]
    · rw [if_neg c, k3 j (by omega)]
/-- both sides remember -/
theorem remember_s {s : ST} {r : gS} {n : Nat} {Ar : Nat → AS} (hR : Rem T n s.2.2.2.2.2 s.2.2.2.2.1 (r 5) Ar) (c1 : s.1 0 4 = nI n) (c2 : r 0 10 = nI n) (hG : Good T A) (h : RA s.2.2.1 A) (h3 : RB (r 3) A) : ∃ s' r' n' Ar', fX3_remember s = some s' ∧ fX4_remember r = some r' ∧ ((∀ k j, ¬ (k = 0 ∧ j = 4) → s'.1 k j = s.1 k j) ∧ s'.2.1 = s.2.1 ∧ s'.2.2.1 = s.2.2.1 ∧ s'.2.2.2.1 = s.2.2.2.1 ∧ (∀ j, 14 ≤ j → s'.2.2.2.2.1 j = s.2.2.2.2.1 j)) ∧ (∀ k j, k ≠ 5 → ¬ (k = 0 ∧ j = 10) → r' k j = r k j) ∧ s'.1 0 4 = nI n' ∧ r' 0 10 = nI n' ∧ Rem T n' s'.2.2.2.2.2 s'.2.2.2.2.1 (r' 5) Ar' := by
  obtain ⟨hn, hr, hinj, hrem⟩ := hR
  unfold fX3_remember fX4_remember
  rw [c1, c2]
  by_cases e : n < 14
  · have l1 : nI n < (14 : Int32) := (lt_nI (a := n) (b := 14) (by omega) (by omega)).mpr e
    have l2 : ¬ nI n = (14 : Int32) := fun q => by have := (nI_inj (a := n) (b := 14) (by omega) (by omega)).mp q; omega
    rw [if_pos l1, if_neg l2]
    obtain ⟨s', a1, a2, a3, a4, a5, a6, t, a7, a8⟩ := remC e c1 (hr n (by omega)) h hG.1
    obtain ⟨r', b1, b2, b3, b4⟩ := remR e c2
    refine ⟨s', r', n + 1, (fun i => if i = n then A else Ar i), a1, b1, ⟨fun k j q => by rw [a2, st_ne (by omega)], a3, a4, a5, fun j hj => ?_⟩, b2, by rw [a2, st_eq rfl rfl], b3, by omega, ?_, ?_, fun i hi => ?_⟩
    · rw [a8, kUp_ne (by have := hr n (by omega); omega)]
    · rw [a6]; exact hr
    · rw [a6]; exact hinj
    · rw [a6, a8]
      by_cases q : i = n
      · subst q
        rw [kUp_eq]
        simp only [if_true]
        refine ⟨hG, a7, RB_agree h3 hG.1 (fun j hj => ?_)⟩
        rw [b4, if_pos (by omega)]
        exact congrArg (r 3) (by omega)
      · rw [kUp_ne (fun z => q (hinj i n (by omega) (by omega) z))]
        simp only [q, if_false]
        obtain ⟨d1, d2, d3⟩ := hrem i (by omega)
        refine ⟨d1, d2, RB_agree d3 d1.1 (fun j hj => ?_)⟩
        rw [b4, if_neg (by omega)]
  · have en : n = 14 := by omega
    subst en
    have l1 : ¬ nI 14 < (14 : Int32) := by decide
    have l2 : nI 14 = (14 : Int32) := rfl
    rw [if_neg l1, if_pos l2]
    obtain ⟨s1, o1, o2, o3, o4, o5, o6, o7⟩ := oldest_s s hr
    obtain ⟨row, p1, p2, p3⟩ := X4_copy_s3262_spec (r 5) (s := 233) (d := 0) (n := 3029) (by omega) (by omega)
    have hr1 : ∀ i, i < 14 → s1.2.2.2.2.2 i < 14 := fun i hi => by
      rw [o7 i hi]
      by_cases q : i < 13
      · rw [if_pos q]; exact hr _ (by omega)
      · rw [if_neg q]; exact hr 0 (by omega)
    have hinj1 : ∀ i j, i < 14 → j < 14 → s1.2.2.2.2.2 i = s1.2.2.2.2.2 j → i = j := fun i j hi hj z => by
      rw [o7 i hi, o7 j hj] at z
      by_cases q : i < 13
      · rw [if_pos q] at z
        by_cases q2 : j < 13
        · rw [if_pos q2] at z
          have := hinj _ _ (by omega) (by omega) z; omega
        · rw [if_neg q2] at z
          have := hinj _ _ (by omega) (by omega) z; omega
      · rw [if_neg q] at z
        by_cases q2 : j < 13
        · rw [if_pos q2] at z
          have := hinj _ _ (by omega) (by omega) z; omega
        · omega
    obtain ⟨s', a1, a2, a3, a4, a5, a6, t, a7, a8⟩ := remC (σ := s1) (n := 13) (by omega) (by rw [o2, st_eq rfl rfl]; rfl) (hr1 13 (by omega)) (by rw [o4]; exact h) hG.1
    rw [o1, Option.bind_some]
    have hrr : ∃ r', ((fX4_copy_s3262 (r 5) (233 : Int32) (0 : Int32) (3029 : Int32)).bind fun r5 => (gl (stf r 5 r5) (fun u6 => (gl ((u6 0 10) - (1 : Int32)) (fun t7 => (gl (st2 u6 0 10 t7) (fun u8 => (fX4_remember_L37 u8)))))))) = some r' ∧ ((∀ k j, k ≠ 5 → ¬ (k = 0 ∧ j = 10) → r' k j = r k j) ∧ r' 0 10 = nI 14 ∧ ∀ j, j < 3262 → r' 5 j = if 233 * 13 ≤ j then r 3 (j - 233 * 13) else r 5 (233 + j)) := by
      refine bd_ex p1 (gl_ex fun u6 h6 => gl_ex fun t7 h7 => gl_ex fun u8 h8 => ?_)
      have e10 : u8 0 10 = nI 13 := by rw [h8, st_eq rfl rfl, h7, h6, sf_ne (by decide), c2]; rfl
      obtain ⟨r', b1, b2, b3, b4⟩ := remR (r := u8) (n := 13) (by omega) e10
      refine ⟨r', b1, fun k j a b => ?_, b3, fun j hj => ?_⟩
      · rw [b2 k j a b, h8, st_ne (by omega), h6, sf_ne a]
      · rw [b4 j]
        have u3 : u8 3 = r 3 := by
          funext x
          rw [h8, st_ne (Or.inl (by decide)), h6, sf_ne (by decide)]
        have u5 : ∀ x, u8 5 x = row x := fun x => by rw [h8, st_ne (Or.inl (by decide)), h6, sf_eq]
        by_cases q : 233 * 13 ≤ j
        · rw [if_pos ⟨q, by omega⟩, if_pos q, u3]
        · rw [if_neg (fun z => q z.1), if_neg q, u5, p2 j (by omega) (by omega)]
          exact congrArg (r 5) (by omega)
    obtain ⟨r', b1, b2, b3, b4⟩ := hrr
    refine ⟨s', r', 14, (fun i => if i = 13 then A else Ar (i + 1)), a1, b1, ⟨fun k j q => ?_, a3.trans o3, a4.trans o4, a5.trans o5, fun j hj => ?_⟩, b2, by rw [a2, st_eq rfl rfl], b3, by omega, ?_, ?_, fun i hi => ?_⟩
    · rw [a2, st_ne (by omega), o2, st_ne (by omega)]
    · rw [a8, kUp_ne (by have := hr1 13 (by omega); omega), o6]
    · rw [a6]; exact hr1
    · rw [a6]; exact hinj1
    · rw [a6, a8]
      by_cases q : i = 13
      · subst q
        rw [kUp_eq]
        simp only [if_true]
        refine ⟨hG, a7, RB_agree h3 hG.1 (fun j hj => ?_)⟩
        show r' 5 (233 * 13 + j) = _
        rw [b4 _ (by omega), if_pos (by omega)]
        exact congrArg (r 3) (by omega)
      · rw [kUp_ne (fun z => q (hinj1 i 13 (by omega) (by omega) z))]
        simp only [q, if_false]
        obtain ⟨d1, d2, d3⟩ := hrem (i + 1) (by omega)
        rw [o7 i (by omega), if_pos (by omega), o6]
        refine ⟨d1, d2, RB_agree d3 d1.1 (fun j hj => ?_)⟩
        show r' 5 (233 * i + j) = r 5 (233 * (i + 1) + j)
        rw [b4 _ (by omega), if_neg (by omega)]
        exact congrArg (r 5) (by omega)
end RM
