/-! THE LAW'S START: what it knows, its three cells -/
theorem lw_init {p : Program} {l : Launch} {e : Env} {rm : Room} {s : State} {m : MethodId} {args : Array Value} {below : List Frame} {meth : Method} {c : Code} {D : va_G} {A : Nat → Prop} {nL : Nat} {Q : State → Prop} {own : String} {cc : ByteArray} {Ts : List Cond} {tys : List (ClassId × FieldType)} {ws : va_W} {k n pc : Nat} {ls : Array Slot} {rest : List Value} {H : Heap} {locs : List Loc}
    (hx : p.tables.exec = Jvm.exec) (hb : c.code = cc) (hml : c.maxLocals = nL) (hown : s.vm.findClass own = some m.cls) (hts : ∀ w ∈ Ts, w.before args s = true) (hK : gK D tys s) (hA : ∀ q, s.heap.size ≤ q → A q) (hO : va_AO RX1 s) (hP : va_P D vwCl ws H) (hD : va_D A ws) (hS : va_S A s.heap H locs) (hl : ls.size = nL)
    {y : MethodName} {bytes : ByteArray} {maxL index b : Nat} {wsy wsy' : List Cond} {rmc : Room} {w0 wr : va_W} {fin9 : va_W → Prop} (hM : cM l y wsy rmc D tys w0 [.ref b] fin9) (hws : ws = wr ++ w0) (hG : GoodIn Ts wsy) (hw : wsy = Cond.code y bytes maxL none :: wsy') (hini : (Cond.initialized y.cls).before args s = true) (hinst : (Cond.instanceMethod y).before args s = true) (hy1 : y.name = "<init>") (hlink : (Cond.methodLink own index y).before args s = true) (hd : y.cls ≠ "java/lang/invoke/MethodHandle" ∧ y.cls ≠ "java/lang/invoke/VarHandle" ∧ (parseMethodDescriptor y.desc).map (fun d => d.parameters.length) = some 0) (hR : rmc.frames + 1 ≤ rm.frames ∧ 8 + (maxL + 11) + rmc.locals ≤ rm.locals) (hc1 : k + rmc.cells ≤ rm.cells) (hs1 : n + rmc.slots ≤ rm.slots) (hW : (rest.map fun v => v.category).sum ≤ 8) (d : decode cc pc = .ok (.invokespecial index, 3))
    (kk : ∀ (w1 : va_W), fin9 w1 → ∀ (H1 : Heap) (locs1 : List Loc), va_P D vwCl (wr ++ w1) H1 → va_D A (wr ++ w1) → va_S A s.heap H1 locs1 → W p l e rm s m args below meth c H1 locs1 (k + rmc.cells) (n + rmc.slots) Q (F0 m (pc + 3) ls rest)) :
    W p l e rm s m args below meth c H locs k n Q (F0 m pc ls (.ref b :: rest)) := by
  have hC9 : ∀ q ∈ w0, q ∈ ws := fun q hq => by rw [hws]; exact List.mem_append_right _ hq
  have hP9 := hP
  rw [va_P_mem] at hP
  rw [va_D_mem] at hD
  have hm : ws.map Prod.fst = wr.map Prod.fst ++ w0.map Prod.fst := by rw [hws]; simp
  have hn0 : (w0.map Prod.fst).Nodup := by
    have := hD.1
    rw [hm, List.nodup_append] at this
    exact this.2.1
  have hdis : ∀ q ∈ wr, q.1 ∉ w0.map Prod.fst := fun q hq h9 => by
    have := hD.1
    rw [hm, List.nodup_append] at this
    exact this.2.2 q.1 (List.mem_map.mpr ⟨q, hq, rfl⟩) q.1 h9 rfl
  have hPc : va_P D vwCl w0 H := va_P_mem.mpr (fun q hq => hP q (hC9 q hq))
  have hDc : va_D A w0 := va_D_mem.mpr ⟨hn0, fun q hq => hD.2 q (hC9 q hq)⟩
  have hFc : ∀ q, va_A w0 H.size q → A q := fun q hq => by
    rcases va_A_mem.mp hq with h | h
    · obtain ⟨⟨a9, e9⟩, h5, rfl⟩ := List.mem_map.mp h
      exact hD.2 _ (hC9 _ h5)
    · exact hA q (Nat.le_trans hS.1 h)
  refine va_callv (va_runI (As := []) (rest := rest) ⟨hx, hb, hml, hown, hts⟩ (hM H.size) ⟨callB_of 0 hts hG hw rfl rfl hini hlink hd hR, hy1, hinst⟩ ⟨cPre_blind, fun U hU hW9 => ⟨rfl, by rw [hU], by rw [hU]; exact hPc, hK.movedW hW9, hDc.weaken (fun _ _ _ _ => trivial), va_AO.moved hW9.alike hO⟩⟩ rfl rfl hl rfl (lv_room hW) d ⟨hc1, hs1⟩) hS (fun q _ h => hFc q h) hFc (fun w1 t H1 locs1 ht hvm hw9 hB hz1 hk1 hS1 => ?_)
  obtain ⟨hP1, hK1, hD1⟩ := hB
  rw [ht] at hP1
  have hwr : ∀ q ∈ wr, q.1 < H.size ∧ ¬ va_A w0 H.size q.1 := fun q hq => by
    have hl9 := (hP q (by rw [hws]; exact List.mem_append_left _ hq)).lt
    refine ⟨hl9, fun h7 => ?_⟩
    rcases va_A_mem.mp h7 with h8 | h8
    · exact hdis q hq h8
    · omega
  have hP2 : va_P D vwCl (wr ++ w1) H1 := va_P_mem.mpr (fun q hq => by
    rcases List.mem_append.mp hq with h | h
    · exact (hP q (by rw [hws]; exact List.mem_append_left _ h)).kept (hk1 q.1 (hwr q h).1 (hwr q h).2)
    · exact va_P_mem.mp hP1 q h)
  have hD3 := va_D_mem.mp hD1
  have hD2 : va_D A (wr ++ w1) := va_D_mem.mpr ⟨by
    rw [List.map_append, List.nodup_append]
    refine ⟨?_, hD3.1, fun a ha b hb e => ?_⟩
    · have := hD.1
      rw [hm, List.nodup_append] at this
      exact this.1
    · subst e
      obtain ⟨q, hq, rfl⟩ := List.mem_map.mp ha
      obtain ⟨q2, hq2, e2⟩ := List.mem_map.mp hb
      exact (hwr q hq).2 (by rw [← e2]; exact hD3.2 q2 hq2), fun q hq => by
    rcases List.mem_append.mp hq with h | h
    · exact hD.2 q (by rw [hws]; exact List.mem_append_left _ h)
    · exact hFc _ (hD3.2 q h)⟩
  exact kk w1 hw9 H1 locs1 hP2 hD2 hS1
theorem lw_nestIn : ∀ w ∈ nestWs, w ∈ lw_tbl := by decide +kernel
theorem lw_nestT : ∀ w ∈ nestWs, w.onTables = true := by decide +kernel
theorem lw_exIn : ∀ w ∈ exWs, w ∈ lw_tbl := by decide +kernel
theorem lw_strIn : ∀ q ∈ strL, Cond.stringRef RX3 q.1 q.2 ∈ lw_tbl := by decide +kernel
theorem lw_elIn : ∀ w ∈ ([.arrayClass .int, .arrayClass .boolean, .arrayClass .char, .arrayClass .long, .arrayOver (.object "ShoutGates$Library"), .instantiable RX0 9, .instantiable RX1 15, .instantiable RX2 12, .instantiable RX3 7, .instantiable RX4 13, .initialized RX3, .initialized RX4, .classLink RL 8 RX3, .classLink RL 91 RX4, .methodLink RL 90 yX3_init, .methodLink RL 93 yX4_init, .instanceMethod yX3_init, .instanceMethod yX4_init, .laysStatic Bundle.tN "UNASSIGNED_STACK" Bundle.steD, .laysStatic Bundle.tN "SUPPRESSED_SENTINEL" Bundle.listD, .initialized Bundle.tN] : List Cond), w ∈ lw_tbl := by decide +kernel
theorem lw_arr {args : Array Value} {s : State} {ty : FieldType} (hn : ∀ C, ty ≠ .object C) (h : (Cond.arrayClass ty).before args s = true) : ∃ cA, ArrOfT s cA ty ∧ va_RA s cA ty := by
  obtain ⟨cA, kA, comp, h1, h2, h3⟩ := Cond.arrayClass_spec h
  refine ⟨cA, fun n z => ⟨fun k h => (by cases h), kA, h2, comp, h3⟩, ?_⟩
  cases ty with
  | object C => exact absurd rfl (hn C)
  | _ => exact h1
theorem lw_knows {p : Program} {l : Launch} {s : State} {m : MethodId} {meth : Method} {c : Code} (hflags : l.flags = flags0) {b0 L : Nat} {xs : Nat → Int32} (C0 : lw_At p s m meth c b0 L xs) : ∃ (D : va_G) (K : Nat → ClassId), lwC p l s m meth c b0 L xs D K ∧ va_AO RX1 s := by
  obtain ⟨hx, hb, hr, hml, hown, hts, hX, hbl, hlocks, hgv⟩ := C0
  have hq := flat_of_before _ hgv
  have htL : ∀ w ∈ wsL_law, w.before #[Value.ref b0] s = true := fun w h => hts w (wsL_law_in w h)
  have el : ∀ w ∈ ([.arrayClass .int, .arrayClass .boolean, .arrayClass .char, .arrayClass .long, .arrayOver (.object "ShoutGates$Library"), .instantiable RX0 9, .instantiable RX1 15, .instantiable RX2 12, .instantiable RX3 7, .instantiable RX4 13, .initialized RX3, .initialized RX4, .classLink RL 8 RX3, .classLink RL 91 RX4, .methodLink RL 90 yX3_init, .methodLink RL 93 yX4_init, .instanceMethod yX3_init, .instanceMethod yX4_init, .laysStatic Bundle.tN "UNASSIGNED_STACK" Bundle.steD, .laysStatic Bundle.tN "SUPPRESSED_SENTINEL" Bundle.listD, .initialized Bundle.tN] : List Cond), w.before #[Value.ref b0] s = true := fun w h => hts w (lw_elIn w h)
  obtain ⟨c0, i0, k0⟩ := u_known htL inlX0 (el (.instantiable RX0 9) (List.mem_of_getElem? (i := 5) rfl))
  obtain ⟨c1, i1, k1⟩ := u_known htL inlX1 (el (.instantiable RX1 15) (List.mem_of_getElem? (i := 6) rfl))
  obtain ⟨c2, i2, k2⟩ := u_known htL inlX2 (el (.instantiable RX2 12) (List.mem_of_getElem? (i := 7) rfl))
  obtain ⟨c3, i3, k3⟩ := u_known htL inlX3 (el (.instantiable RX3 7) (List.mem_of_getElem? (i := 8) rfl))
  obtain ⟨c4, i4, k4⟩ := u_known htL inlX4 (el (.instantiable RX4 13) (List.mem_of_getElem? (i := 9) rfl))
  obtain ⟨aI, a1, a2⟩ := lw_arr (fun C h => by cases h) (el (.arrayClass .int) (List.mem_of_getElem? (i := 0) rfl))
  obtain ⟨aZ, a3, a4⟩ := lw_arr (fun C h => by cases h) (el (.arrayClass .boolean) (List.mem_of_getElem? (i := 1) rfl))
  obtain ⟨aC, a5, a6⟩ := lw_arr (fun C h => by cases h) (el (.arrayClass .char) (List.mem_of_getElem? (i := 2) rfl))
  obtain ⟨aJ, a7, a8⟩ := lw_arr (fun C h => by cases h) (el (.arrayClass .long) (List.mem_of_getElem? (i := 3) rfl))
  have hAO : (Cond.arrayOver (.object "ShoutGates$Library")).before #[Value.ref b0] s = true := el _ (List.mem_of_getElem? (i := 4) rfl)
  obtain ⟨comp, aQ, kQ, f1, -, f3, f4, f5⟩ := Cond.arrayOver_spec hAO
  have hA9 : ∀ q : Nat, q < s.heap.size → ¬ (s.heap.size ≤ q) := fun q h => Nat.not_le.mpr h
  refine ⟨(fun i => [c0, c1, c2, c3, c4].getD i c0, fun i => [i0, i1, i2, i3, i4].getD i i0), fun i => [aI, aZ, aC, aQ, aJ].getD i aI, ⟨hx, hb, hr, hml, hown, htL, hX, hbl, hlocks, ⟨⟨?_, ?_⟩, fun w hw => va_Nw.of (lw_nestT w hw) (hts w (lw_nestIn w hw))⟩, ⟨fun w hw => va_Nw.of (exWs_t w hw) (hts w (lw_exIn w hw)), ?_, ?_, ?_⟩, ⟨?_, ?_, ?_⟩, ?_⟩, va_AO.of hAO⟩
  · intro i q hi
    match i, hi with
    | 0, hi => cases hi; exact k0
    | 1, hi => cases hi; exact k1
    | 2, hi => cases hi; exact k2
    | 3, hi => cases hi; exact k3
    | 4, hi => cases hi; exact k4
    | n + 5, hi => exact absurd (List.getElem?_eq_some_iff.mp hi).1 (by show ¬ (n + 5 < 5); omega)
  · intro i q hi
    match i, hi with
    | 0, hi => cases hi; exact ⟨a1, a2⟩
    | 1, hi => cases hi; exact ⟨a3, a4⟩
    | 2, hi => cases hi; exact ⟨a5, a6⟩
    | 3, hi => cases hi; exact ⟨fun N z => ⟨(fun k h => by cases h), kQ, f3, comp, f4⟩, kQ, comp, f3, f4, f1, f5⟩
    | 4, hi => cases hi; exact ⟨a7, a8⟩
    | n + 5, hi => exact absurd (List.getElem?_eq_some_iff.mp hi).1 (by show ¬ (n + 5 < 5); omega)
  · exact vx_Zqof (el _ (List.mem_of_getElem? (i := 18) rfl)) (el _ (List.mem_of_getElem? (i := 20) rfl)) (hq (Cond.isRef (.static Bundle.tN "UNASSIGNED_STACK" Bundle.steD)) (by decide +kernel)) hA9
  · exact vx_Zqof (el _ (List.mem_of_getElem? (i := 19) rfl)) (el _ (List.mem_of_getElem? (i := 20) rfl)) (hq (Cond.isRef (.static Bundle.tN "SUPPRESSED_SENTINEL" Bundle.listD)) (by decide +kernel)) hA9
  · intro q hq9
    have g1 := hts _ (lw_strIn q hq9)
    obtain ⟨z1, z2, z3, a9, -, -, -, -, -, hev⟩ := Cond.stringRef_spec k3.2.1 g1
    exact ⟨a9, vk_R.of g1 hev⟩
  · exact va_Nc.of (hq (Cond.not (.castable (exN 2) (exN 1))) (by decide +kernel))
  · exact va_Nc.of (hq (Cond.not (.castable (exN 2) (exN 3))) (by decide +kernel))
  · exact va_Nc.of (hq (Cond.not (.castable (exN 1) (exN 3))) (by decide +kernel))
  · unfold Launch.stackTraces
    rw [hflags]
    decide +kernel
set_option maxHeartbeats 4000000 in
set_option maxRecDepth 100000 in
theorem whole_start {p : Program} {e : Env} {s : State} {m : MethodId} {below : List Frame} {meth : Method} {c : Code} (l : Launch) (hflags : l.flags = flags0) {b L : Nat} {xs : Nat → Int32} (hL : L ≤ 2048) (C0 : lw_At p s m meth c b L xs) : W p l e room_1 s m #[Value.ref b] below meth c s.heap [] 0 0 (lw_Z below #[Value.ref b] s) (entryFrame m ([Value.ref b] : List Value).toArray 7) := by
  obtain ⟨D, K, C, hO⟩ := lw_knows (l := l) hflags C0
  obtain ⟨-, -, -, -, -, htb, -⟩ := id C0
  obtain ⟨hx, hb, hr, hml, hown, hts, hX, hbl, hlocks, hK, hgX, hN, hfl⟩ := id C
  obtain ⟨σL, ν, n2, n3, hTop⟩ := Top_new
  have el : ∀ w ∈ ([.arrayClass .int, .arrayClass .boolean, .arrayClass .char, .arrayClass .long, .arrayOver (.object "ShoutGates$Library"), .instantiable RX0 9, .instantiable RX1 15, .instantiable RX2 12, .instantiable RX3 7, .instantiable RX4 13, .initialized RX3, .initialized RX4, .classLink RL 8 RX3, .classLink RL 91 RX4, .methodLink RL 90 yX3_init, .methodLink RL 93 yX4_init, .instanceMethod yX3_init, .instanceMethod yX4_init, .laysStatic Bundle.tN "UNASSIGNED_STACK" Bundle.steD, .laysStatic Bundle.tN "SUPPRESSED_SENTINEL" Bundle.listD, .initialized Bundle.tN] : List Cond), w.before #[Value.ref b] s = true := fun w h => htb w (lw_elIn w h)
  have hl := lv_entry [Value.ref b] (n := 7) (Nat.le_of_ble_eq_true rfl)
  rw [lg_entry_eq]
  have hA : ∀ q, s.heap.size ≤ q → (fun q => s.heap.size ≤ q) q := fun q h => h
  have hP0 : va_P D vwCl [] s.heap := va_P_mem.mpr (fun q hq => by cases hq)
  have hD0 : va_D (fun q => s.heap.size ≤ q) [] := va_D_mem.mpr ⟨List.nodup_nil, fun q hq => by cases hq⟩
  refine va_new (ci := 3) (fs := [.null, .null, .null, .null, .int 0, .null, .null]) hx hb hts inlX3 tyX3 tyX3_ok hown (el (.classLink RL 8 RX3) (List.mem_of_getElem? (i := 12) rfl)) (el (.instantiable RX3 7) (List.mem_of_getElem? (i := 8) rfl)) (el (.initialized RX3) (List.mem_of_getElem? (i := 10) rfl)) hK.1 hP0 hD0 va_S.rf hA rfl (fun j hj => by rcases (show j = 0 ∨ j = 1 ∨ j = 2 ∨ j = 3 ∨ j = 4 ∨ j = 5 ∨ j = 6 by omega) with rfl | rfl | rfl | rfl | rfl | rfl | rfl <;> rfl) (Nat.le_of_ble_eq_true rfl) (Nat.le_of_ble_eq_true rfl) dL_law_0 (fun h0 H1 hP1 hD1 hS1 => ?_)
  refine lv_dup hx hb dL_law_3 rfl ?_
  refine lw_init (wr := []) hx hb hml hown hts hK hA hO hP1 hD1 hS1 hl.1 (mX3_init l D K h0 σL n2) rfl gL_law_X3_init rfl (el (.initialized RX3) (List.mem_of_getElem? (i := 10) rfl)) (el (.instanceMethod yX3_init) (List.mem_of_getElem? (i := 16) rfl)) rfl (el (.methodLink RL 90 yX3_init) (List.mem_of_getElem? (i := 14) rfl)) (by decide +kernel) ⟨Nat.le_of_ble_eq_true rfl, Nat.le_of_ble_eq_true rfl⟩ (Nat.le_of_ble_eq_true rfl) (Nat.le_of_ble_eq_true rfl) (Nat.le_of_ble_eq_true rfl) dL_law_4 (fun w1 hw1 H2 locs2 hP2 hD2 hS2 => ?_)
  obtain ⟨b1, t, x, y, α, rfl, rfl⟩ := hw1
  rw [List.nil_append] at hP2 hD2
  refine lv_astore_n (lv' := [(1, .ref (b1 0)), (0, .ref b)]) hx hb dL_law_7 rfl hl (by decide) rfl (fun ls hl => ?_)
  refine va_new (ci := 4) (fs := [.int 0, .null, .int 0, .int 0, .int 0, .int 0, .null, .null, .null, .null, .int 0, .null, .null]) hx hb hts inlX4 tyX4 tyX4_ok hown (el (.classLink RL 91 RX4) (List.mem_of_getElem? (i := 13) rfl)) (el (.instantiable RX4 13) (List.mem_of_getElem? (i := 9) rfl)) (el (.initialized RX4) (List.mem_of_getElem? (i := 11) rfl)) hK.1 hP2 hD2 hS2 hA rfl (fun j hj => by rcases (show j = 0 ∨ j = 1 ∨ j = 2 ∨ j = 3 ∨ j = 4 ∨ j = 5 ∨ j = 6 ∨ j = 7 ∨ j = 8 ∨ j = 9 ∨ j = 10 ∨ j = 11 ∨ j = 12 by omega) with rfl | rfl | rfl | rfl | rfl | rfl | rfl | rfl | rfl | rfl | rfl | rfl | rfl <;> rfl) (Nat.le_of_ble_eq_true rfl) (Nat.le_of_ble_eq_true rfl) dL_law_8 (fun m0 H3 hP3 hD3 hS3 => ?_)
  refine lv_dup hx hb dL_law_11 rfl ?_
  refine lw_init (wr := SW K b1 t x y α (zS, zS, σL, σL, (fun _ => σL), fun i => i)) hx hb hml hown hts hK hA hO hP3 hD3 hS3 hl.1 (mX4_init l D K m0 ν n3) rfl gL_law_X4_init rfl (el (.initialized RX4) (List.mem_of_getElem? (i := 11) rfl)) (el (.instanceMethod yX4_init) (List.mem_of_getElem? (i := 17) rfl)) rfl (el (.methodLink RL 93 yX4_init) (List.mem_of_getElem? (i := 15) rfl)) (by decide +kernel) ⟨Nat.le_of_ble_eq_true rfl, Nat.le_of_ble_eq_true rfl⟩ (Nat.le_of_ble_eq_true rfl) (Nat.le_of_ble_eq_true rfl) (Nat.le_of_ble_eq_true rfl) dL_law_12 (fun w1 hw1 H4 locs4 hP4 hD4 hS4 => ?_)
  obtain ⟨a, rfl, rfl⟩ := hw1
  refine lv_astore_n (lv' := [(2, .ref (a 0)), (1, .ref (b1 0)), (0, .ref b)]) hx hb dL_law_15 rfl hl (by decide) rfl (fun ls hl => ?_)
  refine lv_iconst (v := 1) hx hb dL_law_16 rfl ?_
  refine va_newa (atype := .long) (ty := .long) (a0 := (1, .inr (.inl (fun _ => 0)))) hx hb (el (.arrayClass .long) (List.mem_of_getElem? (i := 3) rfl)) rfl hK.1 hP4 hD4 hS4 hA (fun cA => rfl) (by decide) (by decide) (Nat.le_of_ble_eq_true rfl) (Nat.le_of_ble_eq_true rfl) (Nat.le_of_ble_eq_true rfl) dL_law_17 (fun o cA H5 hK5 hP5 hD5 hS5 => ?_)
  have e9 : cA = K 4 := RA_inj (hK5.2 5 (cA, .long) rfl).2 (hK.1.2 4 _ rfl).2
  subst e9
  refine lv_astore_n (lv' := [(3, .ref o), (2, .ref (a 0)), (1, .ref (b1 0)), (0, .ref b)]) hx hb dL_law_19 rfl hl (by decide) rfl (fun ls hl => ?_)
  refine lv_iconst (v := 0) hx hb dL_law_20 rfl ?_
  refine lv_istore (lv' := [(4, .int 0), (3, .ref o), (2, .ref (a 0)), (1, .ref (b1 0)), (0, .ref b)]) hx hb dL_law_21 hl (by decide) rfl (fun ls hl => ?_)
  have hperm : ((SW K b1 t x y α (zS, zS, σL, σL, (fun _ => σL), fun i => i) ++ MW K a (stf zS 3 ν)) ++ [(o, .inl (K 4, 1, .inr (.inl (fun _ => 0))))] : va_W).Perm (LWd K b1 t x y α o a (((zS, zS, σL, σL, (fun _ => σL), fun i => i), fun _ => 0), stf zS 3 ν)) := List.perm_append_comm
  refine lw_loop (b := b1) (t := t) (x := x) (y := y) (α := α) (o := o) (a := a) hL C 512 0 _ _ 0 (zS, zS, σL, σL, (fun _ => σL), fun i => i) (fun _ => 0) (stf zS 3 ν) H5 locs4 ls (by omega) (by omega) (by omega) (Nat.le_of_ble_eq_true rfl) (Nat.le_of_ble_eq_true rfl) hTop ⟨?_, ?_, hS5⟩ (lv_sub hl [4, 3, 2, 1, 0] rfl)
  · exact va_P_mem.mpr (fun q hq => va_P_mem.mp hP5 q (hperm.mem_iff.mpr hq))
  · have h9 := va_D_mem.mp hD5
    exact va_D_mem.mpr ⟨((hperm.map Prod.fst).nodup_iff).mp h9.1, fun q hq => h9.2 q (hperm.mem_iff.mpr hq)⟩
