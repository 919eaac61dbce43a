/-! THE LAW'S LOOP -/
theorem i32n (x : Int32) : ∃ n, x = nI n := ⟨x.toBitVec.toNat, Int32.toBitVec_inj.mp (by show _ = BitVec.ofNat 32 _; simp)⟩
theorem lw_and31 (x : Int32) : ∃ j, j < 32 ∧ x &&& 31 = nI j := by
  obtain ⟨n, rfl⟩ := i32n x
  refine ⟨n &&& 31, ?_, nx_and n 31⟩
  have : n &&& 31 = n % 32 := Nat.and_two_pow_sub_one_eq_mod n 5
  omega
theorem lw_end {L i : Nat} (hL : L ≤ 2048) (hi : i ≤ 4096) : nI L - 4 < nI i ↔ L < i + 4 := by
  rw [Int32.lt_iff_toInt_lt, show nI L - (4 : Int32) = nI L - nI 4 from rfl, pk_sub_toInt (by omega) (by omega), nI_toInt (by omega)]
  omega
section LOOP
variable {p : Program} {l : Launch} {e : Env} {s : State} {m : MethodId} {below : List Frame} {meth : Method} {c : Code} {b0 L : Nat} {xs : Nat → Int32} {D : va_G} {K : Nat → ClassId} {b t x y : Nat → Nat} {α : Nat → Nat → Nat} {o : Nat} {a : Nat → Nat}
set_option maxHeartbeats 4000000 in
set_option maxRecDepth 100000 in
theorem lw_turn (hL : L ≤ 2048) (C : lwC p l s m meth c b0 L xs D K) {T i k n : Nat} {s1 : ST} {f : Nat → Int64} {r1 : gS} {H : Heap} {locs : List Loc} {ls : Array Slot} (hi : i + 3 < L) (hT3 : T + 3 < 2147483648) (hk : k + 1 ≤ 601024) (hn : n + 6 ≤ 7293034) (hTop : Top T s1 r1) (h : lwH s D K b t x y α o a ((s1, f), r1) H locs) (hl : lv_has ls 7 [(0, .ref b0), (1, .ref (b 0)), (2, .ref (a 0)), (3, .ref o), (4, .int (nI i))])
    (KK : ∀ (T' : Nat) (s2 : ST) (f2 : Nat → Int64) (r2 : gS) (H2 : Heap) (locs2 : List Loc) (ls2 : Array Slot), Top T' s2 r2 → T' ≤ T + 4000 → lwH s D K b t x y α o a ((s2, f2), r2) H2 locs2 → lv_has ls2 7 [(0, .ref b0), (1, .ref (b 0)), (2, .ref (a 0)), (3, .ref o), (4, .int (nI i))] → lwG p l e s m b0 below meth c H2 locs2 (k + 1) (n + 6) 1659 ls2 []) :
    lwG p l e s m b0 below meth c H locs k n 32 ls [] := by
  obtain ⟨hx, hb, hr, hml, hown, hts, hX, hbl, hlocks, hK, hgX, hN, hfl⟩ := id C
  refine lv_aload_n hx hb dL_law_32 rfl (lv_at hl 0 rfl) ?_
  refine lv_iload hx hb dL_law_33 (lv_at hl 4 rfl) ?_
  refine va_sld hx hb hX hbl (Nat.not_le.mpr hbl) h.2.2 (vp_in_nI (by omega) (by omega)) dL_law_35 ?_
  refine lv_bipush (v := 31) hx hb dL_law_36 rfl ?_
  refine lv_iand hx hb dL_law_38 ?_
  obtain ⟨j, hj, ej⟩ := lw_and31 (xs (nI i).toNatClampNeg)
  rw [ej]
  rcases (show j = 0 ∨ j = 1 ∨ j = 2 ∨ j = 3 ∨ j = 4 ∨ j = 5 ∨ j = 6 ∨ j = 7 ∨ j = 8 ∨ j = 9 ∨ j = 10 ∨ j = 11 ∨ j = 12 ∨ j = 13 ∨ j = 14 ∨ j = 15 ∨ j = 16 ∨ j = 17 ∨ j = 18 ∨ j = 19 ∨ j = 20 ∨ j = 21 ∨ j = 22 ∨ j = 23 ∨ j = 24 ∨ j = 25 ∨ 26 ≤ j by omega) with rfl | rfl | rfl | rfl | rfl | rfl | rfl | rfl | rfl | rfl | rfl | rfl | rfl | rfl | rfl | rfl | rfl | rfl | rfl | rfl | rfl | rfl | rfl | rfl | rfl | rfl | hj2
  · exact lv_tableIn (off := 117) (tgt := 156) hx hb dL_law_39 (by decide) (by decide) (by decide +kernel) (by decide) (lwc_append hL C T s1 f r1 H locs ls i k n hTop hT3 hi h hl hk hn KK)
  · exact lv_tableIn (off := 173) (tgt := 212) hx hb dL_law_39 (by decide) (by decide) (by decide +kernel) (by decide) (lwc_clearText hL C T s1 f r1 H locs ls i k n hTop hT3 hi h hl hk hn KK)
  · exact lv_tableIn (off := 186) (tgt := 225) hx hb dL_law_39 (by decide) (by decide) (by decide +kernel) (by decide) (lwc_errorPosition hL C T s1 f r1 H locs ls i k n hTop hT3 hi h hl hk hn KK)
  · exact lv_tableIn (off := 199) (tgt := 238) hx hb dL_law_39 (by decide) (by decide) (by decide +kernel) (by decide) (lwc_load hL C T s1 f r1 H locs ls i k n hTop hT3 hi h hl hk hn KK)
  · exact lv_tableIn (off := 243) (tgt := 282) hx hb dL_law_39 (by decide) (by decide) (by decide +kernel) (by decide) (lwc_about hL C T s1 f r1 H locs ls i k n hTop hT3 hi h hl hk hn KK)
  · exact lv_tableIn (off := 299) (tgt := 338) hx hb dL_law_39 (by decide) (by decide) (by decide +kernel) (by decide) (lwc_book hL C T s1 f r1 H locs ls i k n hTop hT3 hi h hl hk hn KK)
  · exact lv_tableIn (off := 367) (tgt := 406) hx hb dL_law_39 (by decide) (by decide) (by decide +kernel) (by decide) (lwc_visitor hL C T s1 f r1 H locs ls i k n hTop hT3 hi h hl hk hn KK)
  · exact lv_tableIn (off := 435) (tgt := 474) hx hb dL_law_39 (by decide) (by decide) (by decide +kernel) (by decide) (lwc_gate hL C T s1 f r1 H locs ls i k n hTop hT3 hi h hl hk hn KK)
  · exact lv_tableIn (off := 503) (tgt := 542) hx hb dL_law_39 (by decide) (by decide) (by decide +kernel) (by decide) (lwc_shout hL C T s1 f r1 H locs ls i k n hTop hT3 hi h hl hk hn KK)
  · exact lv_tableIn (off := 571) (tgt := 610) hx hb dL_law_39 (by decide) (by decide) (by decide +kernel) (by decide) (lwc_take hL C T s1 f r1 H locs ls i k n hTop hT3 hi h hl hk hn KK)
  · exact lv_tableIn (off := 639) (tgt := 678) hx hb dL_law_39 (by decide) (by decide) (by decide +kernel) (by decide) (lwc_putBack hL C T s1 f r1 H locs ls i k n hTop hT3 hi h hl hk hn KK)
  · exact lv_tableIn (off := 695) (tgt := 734) hx hb dL_law_39 (by decide) (by decide) (by decide +kernel) (by decide) (lwc_borrow hL C T s1 f r1 H locs ls i k n hTop hT3 hi h hl hk hn KK)
  · exact lv_tableIn (off := 751) (tgt := 790) hx hb dL_law_39 (by decide) (by decide) (by decide +kernel) (by decide) (lwc_bringBack hL C T s1 f r1 H locs ls i k n hTop hT3 hi h hl hk hn KK)
  · exact lv_tableIn (off := 807) (tgt := 846) hx hb dL_law_39 (by decide) (by decide) (by decide +kernel) (by decide) (lwc_walk hL C T s1 f r1 H locs ls i k n hTop hT3 hi h hl hk hn KK)
  · exact lv_tableIn (off := 903) (tgt := 942) hx hb dL_law_39 (by decide) (by decide) (by decide +kernel) (by decide) (lwc_turn hL C T s1 f r1 H locs ls i k n hTop hT3 hi h hl hk hn KK)
  · exact lv_tableIn (off := 959) (tgt := 998) hx hb dL_law_39 (by decide) (by decide) (by decide +kernel) (by decide) (lwc_ticks hL C T s1 f r1 H locs ls i k n hTop hT3 hi h hl hk hn KK)
  · exact lv_tableIn (off := 1015) (tgt := 1054) hx hb dL_law_39 (by decide) (by decide) (by decide +kernel) (by decide) (lwc_set hL C T s1 f r1 H locs ls i k n hTop hT3 hi h hl hk hn KK)
  · exact lv_tableIn (off := 1083) (tgt := 1122) hx hb dL_law_39 (by decide) (by decide) (by decide +kernel) (by decide) (lwc_undo hL C T s1 f r1 H locs ls i k n hTop hT3 hi h hl hk hn KK)
  · exact lv_tableIn (off := 1127) (tgt := 1166) hx hb dL_law_39 (by decide) (by decide) (by decide +kernel) (by decide) (lwc_shouted hL C T s1 f r1 H locs ls i k n hTop hT3 hi h hl hk hn KK)
  · exact lv_tableIn (off := 1183) (tgt := 1222) hx hb dL_law_39 (by decide) (by decide) (by decide +kernel) (by decide) (lwc_slips hL C T s1 f r1 H locs ls i k n hTop hT3 hi h hl hk hn KK)
  · exact lv_tableIn (off := 1196) (tgt := 1235) hx hb dL_law_39 (by decide) (by decide) (by decide +kernel) (by decide) (lwc_leastStrength hL C T s1 f r1 H locs ls i k n hTop hT3 hi h hl hk hn KK)
  · exact lv_tableIn (off := 1252) (tgt := 1291) hx hb dL_law_39 (by decide) (by decide) (by decide +kernel) (by decide) (lwc_bestGate hL C T s1 f r1 H locs ls i k n hTop hT3 hi h hl hk hn KK)
  · exact lv_tableIn (off := 1308) (tgt := 1347) hx hb dL_law_39 (by decide) (by decide) (by decide +kernel) (by decide) (lwc_runScript hL C T s1 f r1 H locs ls i k n hTop hT3 hi h hl hk hn KK)
  · exact lv_tableIn (off := 1408) (tgt := 1447) hx hb dL_law_39 (by decide) (by decide) (by decide +kernel) (by decide) (lwc_simulate hL C T s1 f r1 H locs ls i k n hTop hT3 hi h hl hk hn KK)
  · exact lv_tableIn (off := 1508) (tgt := 1547) hx hb dL_law_39 (by decide) (by decide) (by decide +kernel) (by decide) (lwc_save hL C T s1 f r1 H locs ls i k n hTop hT3 hi h hl hk hn KK)
  · exact lv_tableIn (off := 1564) (tgt := 1603) hx hb dL_law_39 (by decide) (by decide) (by decide +kernel) (by decide) (lwc_restore hL C T s1 f r1 H locs ls i k n hTop hT3 hi h hl hk hn KK)
  · refine lv_tableOut (tgt := 1659) hx hb dL_law_39 (Or.inr (by rw [nI_toInt (by omega)]; omega)) (by decide) ?_
    exact W.widen (Nat.le_succ _) (Nat.le_add_right _ _) (KK T s1 f r1 H locs ls hTop (by omega) h hl)
set_option maxHeartbeats 4000000 in
set_option maxRecDepth 100000 in
theorem lw_loop (hL : L ≤ 2048) (C : lwC p l s m meth c b0 L xs D K) : ∀ (d i k n T : Nat) (s1 : ST) (f : Nat → Int64) (r1 : gS) (H : Heap) (locs : List Loc) (ls : Array Slot), L ≤ i + 4 * d + 3 → i + 4 * d ≤ 4096 → T + 4000 * (d + 1) < 2147483648 → k + d ≤ 601024 → n + 6 * d ≤ 7293034 → Top T s1 r1 → lwH s D K b t x y α o a ((s1, f), r1) H locs → lv_has ls 7 [(0, .ref b0), (1, .ref (b 0)), (2, .ref (a 0)), (3, .ref o), (4, .int (nI i))] → lwG p l e s m b0 below meth c H locs k n 23 ls [] := by
  intro d
  induction d with
  | zero =>
    intro i k n T s1 f r1 H locs ls h1 h2 h3 h4 h5 hTop h hl
    obtain ⟨hx, hb, hr, hml, hown, hts, hX, hbl, hlocks, hK, hgX, hN, hfl⟩ := id C
    refine lv_iload hx hb dL_law_23 (lv_at hl 4 rfl) ?_
    refine lv_aload_n hx hb dL_law_25 rfl (lv_at hl 0 rfl) ?_
    refine va_slen hx hb hX hbl (Nat.not_le.mpr hbl) h.2.2 dL_law_26 ?_
    refine lv_iconst (v := 4) hx hb dL_law_27 rfl ?_
    refine lv_isub hx hb dL_law_28 ?_
    refine lv_icmp_gt (tgt := 1665) hx hb dL_law_29 (by decide) (fun _ => ?_) (fun q => absurd ((lw_end hL (by omega)).mpr (by omega)) q)
    refine lv_iconst (v := 1) hx hb dL_law_1665 rfl ?_
    refine va_forget (fun q hq => h.2.2.2.2 q hq) ?_
    exact W.widen (by omega) (by omega) (lw_ret hx hb hr hlocks dL_law_1666)
  | succ d ih =>
    intro i k n T s1 f r1 H locs ls h1 h2 h3 h4 h5 hTop h hl
    obtain ⟨hx, hb, hr, hml, hown, hts, hX, hbl, hlocks, hK, hgX, hN, hfl⟩ := id C
    refine lv_iload hx hb dL_law_23 (lv_at hl 4 rfl) ?_
    refine lv_aload_n hx hb dL_law_25 rfl (lv_at hl 0 rfl) ?_
    refine va_slen hx hb hX hbl (Nat.not_le.mpr hbl) h.2.2 dL_law_26 ?_
    refine lv_iconst (v := 4) hx hb dL_law_27 rfl ?_
    refine lv_isub hx hb dL_law_28 ?_
    refine lv_icmp_gt (tgt := 1665) hx hb dL_law_29 (by decide) (fun _ => ?_) (fun q => ?_)
    · refine lv_iconst (v := 1) hx hb dL_law_1665 rfl ?_
      refine va_forget (fun q hq => h.2.2.2.2 q hq) ?_
      exact W.widen (by omega) (by omega) (lw_ret hx hb hr hlocks dL_law_1666)
    · have hi : i + 3 < L := by
        have h9 : ¬ L < i + 4 := fun z => q ((lw_end hL (by omega)).mpr z)
        omega
      refine lw_turn hL C hi (by omega) (by omega) (by omega) hTop h hl (fun T' s2 f2 r2 H2 locs2 ls2 hTop2 hT2 hh2 hl2 => ?_)
      refine lv_iinc (k := 4) (v := nI (i + 4)) (lv' := [(4, .int (nI (i + 4))), (0, .ref b0), (1, .ref (b 0)), (2, .ref (a 0)), (3, .ref o)]) hx hb dL_law_1659 hl2 rfl (nI_add i 4) (by decide) rfl (fun ls3 hl3 => ?_)
      refine lv_goto (tgt := 23) hx hb dL_law_1662 (by decide) ?_
      exact ih (i + 4) (k + 1) (n + 6) T' s2 f2 r2 H2 locs2 ls3 (by omega) (by omega) (by omega) (by omega) (by omega) hTop2 hh2 (lv_sub hl3 [1, 2, 3, 4, 0] rfl)
end LOOP
