section SV
variable {T T' : Nat} {A A' : AS} {s s' : ST} {r r' : gS}
theorem reqS (p : Int32) : fX3_requireSlot p = some (if 0 ≤ p.toInt ∧ p.toInt < 2 then .inr () else .inl (3, ())) := by
  have l0 : p < 0 ↔ p.toInt < 0 := lt_int p (n := 0) (by decide)
  have l1 : p < (2 : Int32) ↔ p.toInt < 2 := lt_int p (n := 2) (by decide)
  unfold fX3_requireSlot
  by_cases c : p < 0
  · rw [if_pos c, if_neg (fun q => by have := l0.mp c; omega)]
  · rw [if_neg c]
    have c' : ¬ p.toInt < 0 := fun q => c (l0.mpr q)
    by_cases d : p < (2 : Int32)
    · rw [if_pos d, if_pos ⟨by omega, l1.mp d⟩]
    · rw [if_neg d, if_neg (fun q => d (l1.mpr q.2))]
theorem save_step (h : TopA T s r A) (p : Int32) : Step T cdO (fX3_save s p) (fX4_save r p) := by
  have no : fX4_save_L16 r p 1 = some (0, st2 r 0 0 1) := rfl
  obtain ⟨hG, hA, hB, ⟨n, Ar, c1, c2, hn, hr, hinj, hrem⟩, ⟨As, hS⟩, len, q1, q2, q3, q4⟩ := id h
  unfold fX3_save fX4_save
  rw [inI_spec p 0 1 0 1 (by decide) (by decide), Option.bind_some]
  by_cases hp : 0 ≤ p.toInt ∧ p.toInt < 2
  · obtain ⟨v, hv, ev⟩ := in_nI (p := p) (n := 2) hp
    rw [tb_in _ _ _ (by rw [reqS, if_pos hp]), decide_eq_true (show 0 ≤ p.toInt ∧ p.toInt ≤ 1 by omega), if_neg (show ¬ bI true = 0 by decide)]
    subst ev
    obtain ⟨t, a1, a2, -⟩ := copy_s (s.2.2.2.2.1 (14 + v)) hA (qlen_of hG.1)
    have hv0 : (nI v).toNatClampNeg = v := cl_nI (by omega)
    have h911 : s.2.2.1 9 11 = A.1 12 2 := hA.2.2.2.2.2.2.2.1.2.2.1
    obtain ⟨row, p1, p2, p3⟩ := X4_copy_233_466_spec (r 3) (r 6) (s := 0) (d := 233 * v) (n := 233) (by omega) (by omega)
    have em : (233 : Int32) * nI v = nI (233 * v) := by rw [li_233, pk_mul]
    have e6 : (st2 r 0 0 0) 6 = r 6 := funext fun j => st_ne (Or.inl (by decide))
    have p1' : fX4_copy_233_466 (r 3, r 6) 0 (nI (233 * v)) 233 = some (r 3, row) := p1
    have href : fX4_save_L16 r (nI v) 0 = some (A.1 12 2, st2 (stf (stf (st2 r 0 0 0) 3 (r 3)) 6 row) 7 v 1) := by
      unfold fX4_save_L16
      rw [refused_0, Option.bind_some, if_pos rfl]
      simp only [row0, e6, em, p1', Option.bind_some, gl]
      rw [gd_in hv (by decide), hv0, cl_198, st_ne (Or.inl (by decide)), sf_ne (by decide), sf_eq, hB.2.2.2.2.1.2.2.1]
    have hcl : (gd (inb (nI v) 2) (gl (14 + (nI v).toNatClampNeg) (fun q1 => (gd (q1 < 16) ((fX1_copyFrom (s.2.2.2.2.1 q1, s.2.2.1)).bind fun r3 => (gl (s.1, s.2.1, r3.2, s.2.2.2.1, kUp s.2.2.2.2.1 q1 r3.1, s.2.2.2.2.2) (fun u4 => (gd (inb (nI v) 2) (gl ((st2 u4.1 1 (nI v).toNatClampNeg (1 : Int32)), u4.2) (fun u5 => (some (.inr ((u5.2.2.1 9 11), u5) : (Nat × ST) ⊕ (Int32 × ST))))))))))))) = some (.inr (A.1 12 2, (st2 s.1 1 v 1, s.2.1, s.2.2.1, s.2.2.2.1, kUp s.2.2.2.2.1 (14 + v) t, s.2.2.2.2.2))) := by
      rw [gd_in hv (by decide)]
      simp only [gl, hv0]
      rw [gd_t (by omega), a1, Option.bind_some, gd_in hv (by decide)]
      simp only [h911]
    have g : ∀ k j, k ≠ 6 → k ≠ 7 → ¬ (k = 0 ∧ j = 0) → (st2 (stf (stf (st2 r 0 0 0) 3 (r 3)) 6 row) 7 v 1) k j = r k j := fun k j x y z => by
      rw [st_ne (Or.inl y), sf_ne x]
      by_cases e : k = 3
      · subst e; rw [sf_eq]
      · rw [sf_ne e, st_ne (by omega)]
    have g3 : (st2 (stf (stf (st2 r 0 0 0) 3 (r 3)) 6 row) 7 v 1) 3 = r 3 := funext fun j => g 3 j (by decide) (by decide) (by omega)
    have g5 : (st2 (stf (stf (st2 r 0 0 0) 3 (r 3)) 6 row) 7 v 1) 5 = r 5 := funext fun j => g 5 j (by decide) (by decide) (by omega)
    have g1 : (st2 (stf (stf (st2 r 0 0 0) 3 (r 3)) 6 row) 7 v 1) 1 = r 1 := funext fun j => g 1 j (by decide) (by decide) (by omega)
    have g6 : ∀ j, (st2 (stf (stf (st2 r 0 0 0) 3 (r 3)) 6 row) 7 v 1) 6 j = row j := fun j => by rw [st_ne (Or.inl (by decide)), sf_eq]
    have g7 : ∀ k, k ≠ v → (st2 (stf (stf (st2 r 0 0 0) 3 (r 3)) 6 row) 7 v 1) 7 k = r 7 k := fun k hk => by rw [st_ne (Or.inr hk), sf_ne (by decide), sf_ne (by decide), st_ne (Or.inl (by decide))]
    refine ⟨(st2 s.1 1 v 1, s.2.1, s.2.2.1, s.2.2.2.1, kUp s.2.2.2.2.1 (14 + v) t, s.2.2.2.2.2), _, _, href, ⟨A, hG, hA, by rw [g3]; exact hB, ⟨n, Ar, (st_ne (Or.inl (by decide)) : st2 s.1 1 v 1 0 4 = s.1 0 4).trans c1, (g 0 10 (by decide) (by decide) (by omega)).trans c2, ?_⟩, ⟨fun k => if k = v then A else As k, fun k hk => ?_⟩, len, q1, q2, (g 0 2 (by decide) (by decide) (by omega)).trans q3, by rw [g1]; exact q4⟩, Or.inr ⟨hcl, ?_⟩⟩
    · rw [g5]
      refine ⟨hn, hr, hinj, fun i hi => ?_⟩
      obtain ⟨d1, d2, d3⟩ := hrem i hi
      refine ⟨d1, ?_, d3⟩
      have := hr i (by omega)
      show RA (kUp s.2.2.2.2.1 (14 + v) t (s.2.2.2.2.2 i)) (Ar i)
      rw [kUp_ne (by omega)]; exact d2
    · show (st2 s.1 1 v 1 1 k = 0 ∨ st2 s.1 1 v 1 1 k = 1) ∧ _ = st2 s.1 1 v 1 1 k ∧ (st2 s.1 1 v 1 1 k = 1 → Good T (if k = v then A else As k) ∧ RA (kUp s.2.2.2.2.1 (14 + v) t (14 + k)) (if k = v then A else As k) ∧ _)
      by_cases e : k = v
      · subst e
        refine ⟨Or.inr (st_eq rfl rfl), by rw [st_eq rfl rfl, st_eq rfl rfl], fun _ => ?_⟩
        rw [kUp_eq]
        simp only [if_true]
        refine ⟨hG, a2, RB_agree hB hG.1 (fun j hj => ?_)⟩
        rw [g6, p2 _ (by omega) (by omega)]
        exact congrArg (r 3) (by omega)
      · have w := hS k hk
        have e1 : st2 s.1 1 v 1 1 k = s.1 1 k := st_ne (Or.inr e)
        rw [e1, g7 k e, kUp_ne (by omega)]
        simp only [e, if_false]
        refine ⟨w.1, w.2.1, fun z => ?_⟩
        obtain ⟨d1, d2, d3⟩ := w.2.2 z
        refine ⟨d1, d2, RB_agree d3 d1.1 (fun j hj => ?_)⟩
        rw [g6, p3 _ (by omega)]
    · rw [st_ne (Or.inl (by decide)), sf_ne (by decide), sf_ne (by decide), st_eq rfl rfl]
  · rw [tb_out _ _ _ (by rw [reqS, if_neg hp]), decide_eq_false (show ¬ (0 ≤ p.toInt ∧ p.toInt ≤ 1) by omega), if_pos bI_f]
    exact Step_no h (n := 3) rfl rfl (by decide) no
end SV
