section AP
variable {T T' : Nat} {A A' : AS} {s s' : ST} {r r' : gS}
theorem u16c : ∀ c, c < 256 → ((nI c).toUInt32 % 65536).toInt32 = nI c := by decide +kernel
theorem append_step (h : TopA T s r A) (p : Int32) : Step T cdA (fX3_append s p) (fX4_append r p) := by
  have no : ∀ z : Int32, (z = 1 ∨ z = 2) → fX4_append_L31 r p z = some (0, st2 r 0 0 z) := fun z hz => by
    unfold fX4_append_L31
    rcases hz with e | e <;> subst e <;> rfl
  have l0 : p < 0 ↔ p.toInt < 0 := lt_int p (n := 0) (by decide)
  have l1 : p ≤ (255 : Int32) ↔ p.toInt ≤ 255 := by rw [Int32.le_iff_toInt_le]; rfl
  unfold fX3_append fX4_append
  rw [inI_spec p 0 255 0 255 (by decide) (by decide), Option.bind_some]
  by_cases hp : 0 ≤ p.toInt ∧ p.toInt ≤ 255
  · obtain ⟨c, hc, ec⟩ := in_nI (p := p) (n := 256) (by omega)
    rw [if_neg (fun q => by have := l0.mp q; omega), if_pos (l1.mpr hp.2), decide_eq_true hp, if_neg (show ¬ bI true = 0 by decide)]
    subst ec
    obtain ⟨hG, hA, hB, ⟨n, Ar, c1, c2, c3⟩, ⟨As, c4⟩, len, q1, q2, q3, q4⟩ := id h
    unfold fX2_isFull
    rw [q2, q3]
    by_cases e : len < 120
    · have a1 : nI len < (120 : Int32) := (lt_nI (a := len) (b := 120) (by omega) (by omega)).mpr e
      have a2 : ¬ nI len = (120 : Int32) := fun q => by have := (nI_inj (a := len) (b := 120) (by omega) (by omega)).mp q; omega
      have a3 : ¬ (120 : Int32) ≤ nI len := fun q => by have := (le_nI (a := 120) (b := len) (by omega) (by omega)).mp q; omega
      have a4 : ¬ (nI c < 0 ∨ (65535 : Int32) < nI c) := fun q => by
        rcases q with q | q
        · exact neg_nI (by omega) q
        · have := (lt_nI (a := 65535) (b := c) (by omega) (by omega)).mp q; omega
      rw [if_pos a1, if_neg a2, Option.bind_some]
      have add : fX2_add s.2.1 (nI c) = some (nI (len + 1), st2 (st2 s.2.1 1 len (nI c)) 0 1 (nI (len + 1))) := by
        unfold fX2_add
        rw [q2, if_neg (neg_nI (by omega)), if_neg a3, gd_t a4, gd_in e (by decide)]
        simp (disch := omega) only [gl, cl_nI]
        have t : st2 s.2.1 1 len (nI c) 0 1 = nI len := by rw [st_ne (by omega)]; exact q2
        rw [t, nI_1, st_eq rfl rfl]
      have hcl : (gl (s.1, s.2.1, s.2.2) (fun u2 : ST => (if (0 : Int32) = 0 then (gl ((nI c).toUInt32 % 65536).toInt32 (fun t3 => ((fX2_add (u2.2.1) t3).bind fun r4 => (gl (u2.1, r4.2, u2.2.2) (fun u5 => (some (.inr (r4.1, u5) : (Nat × ST) ⊕ (Int32 × ST)))))))) else (some (.inl (2, u2)))))) = some (.inr (nI (len + 1), (s.1, st2 (st2 s.2.1 1 len (nI c)) 0 1 (nI (len + 1)), s.2.2))) := by
        rw [u16c c hc]
        simp only [gl]
        rw [if_pos trivial, add]
        rfl
      have href : fX4_append_L31 r (nI c) 0 = some (nI (len + 1), st2 (st2 (st2 r 0 0 0) 1 len (nI c)) 0 2 (nI (len + 1))) := by
        unfold fX4_append_L31
        rw [refused_0, Option.bind_some, if_pos rfl]
        have t : (st2 r 0 0 0) 0 2 = nI len := by rw [st_ne (by decide)]; exact q3
        have t2 : (st2 (st2 r 0 0 0) 1 len (nI c)) 0 2 = nI len := by rw [st_ne (by omega)]; exact t
        simp only [t]
        rw [gd_in e (by decide)]
        simp (disch := omega) only [gl, cl_nI, t2, nI_1]
        rw [st_eq rfl rfl]
      have g : ∀ k j, k ≠ 1 → ¬ (k = 0 ∧ j = 0) → ¬ (k = 0 ∧ j = 2) → (st2 (st2 (st2 r 0 0 0) 1 len (nI c)) 0 2 (nI (len + 1))) k j = r k j := fun k j x y z => by
        rw [st_ne (by omega), st_ne (by omega), st_ne (by omega)]
      refine ⟨(s.1, st2 (st2 s.2.1 1 len (nI c)) 0 1 (nI (len + 1)), s.2.2), nI (len + 1), _, href, ⟨A, hG, hA, ?_, ⟨n, Ar, c1, ?_, ?_⟩, ⟨As, ?_⟩, len + 1, by omega, ?_, ?_, fun i hi => ?_⟩, Or.inr ⟨hcl, ?_⟩⟩
      · rw [show (st2 (st2 (st2 r 0 0 0) 1 len (nI c)) 0 2 (nI (len + 1))) 3 = r 3 from funext fun j => g 3 j (by decide) (by omega) (by omega)]; exact hB
      · rw [g 0 10 (by decide) (by omega) (by omega)]; exact c2
      · rw [show (st2 (st2 (st2 r 0 0 0) 1 len (nI c)) 0 2 (nI (len + 1))) 5 = r 5 from funext fun j => g 5 j (by decide) (by omega) (by omega)]; exact c3
      · rw [show (st2 (st2 (st2 r 0 0 0) 1 len (nI c)) 0 2 (nI (len + 1))) 6 = r 6 from funext fun j => g 6 j (by decide) (by omega) (by omega), show (st2 (st2 (st2 r 0 0 0) 1 len (nI c)) 0 2 (nI (len + 1))) 7 = r 7 from funext fun j => g 7 j (by decide) (by omega) (by omega)]; exact c4
      · show st2 (st2 s.2.1 1 len (nI c)) 0 1 (nI (len + 1)) 0 1 = _
        rw [st_eq rfl rfl]
      · rw [st_eq rfl rfl]
      · show ∃ d, d ≤ 255 ∧ st2 (st2 s.2.1 1 len (nI c)) 0 1 (nI (len + 1)) 1 i = nI d ∧ _
        have v1 : st2 (st2 s.2.1 1 len (nI c)) 0 1 (nI (len + 1)) 1 i = st2 s.2.1 1 len (nI c) 1 i := st_ne (Or.inl (by decide))
        have v2 : (st2 (st2 (st2 r 0 0 0) 1 len (nI c)) 0 2 (nI (len + 1))) 1 i = st2 (st2 r 0 0 0) 1 len (nI c) 1 i := st_ne (Or.inl (by decide))
        rw [v1, v2]
        by_cases q : i = len
        · rw [st_eq rfl q, st_eq rfl q]
          exact ⟨c, by omega, rfl, rfl⟩
        · rw [st_ne (Or.inr q), st_ne (Or.inr q), st_ne (Or.inl (by decide))]
          exact q4 i (by omega)
      · rw [st_ne (by decide), st_ne (by omega), st_eq rfl rfl]
    · have e120 : len = 120 := by omega
      subst e120
      rw [if_neg (show ¬ nI 120 < (120 : Int32) by decide), if_pos (show nI 120 = 120 from rfl), Option.bind_some]
      exact Step_no h (n := 2) rfl rfl (by decide) (no 2 (Or.inr rfl))
  · have hx : (if p < 0 then some (.inl (1, s)) else (if p ≤ (255 : Int32) then ((fX2_isFull (s.2.1)).bind fun r1 => (gl (s.1, r1.2, s.2.2) (fun u2 => (if r1.1 = 0 then (gl ((p).toUInt32 % 65536).toInt32 (fun t3 => ((fX2_add (u2.2.1) t3).bind fun r4 => (gl (u2.1, r4.2, u2.2.2) (fun u5 => (some (.inr (r4.1, u5)))))))) else (some (.inl (2, u2))))))) else (some (.inl (1, s) : (Nat × ST) ⊕ (Int32 × ST))))) = some (.inl (1, s)) := by
      by_cases c : p < 0
      · rw [if_pos c]
      · rw [if_neg c, if_neg (fun q => by have := l1.mp q; have h0 : ¬ p.toInt < 0 := fun q => c (l0.mpr q); omega)]
    rw [hx, decide_eq_false hp, if_pos bI_f]
    exact Step_no h (n := 1) rfl rfl (by decide) (no 1 (Or.inl rfl))
end AP
