/-! CONSTRUCTORS: goals 'g ws k n pc lv st': the world as a list, k cells of n slots made so far -/
def cJ (p : Program) (l : Launch) (e : Env) (rm : Room) (s : State) (m : MethodId) (args : Array Value) (below : List Frame) (meth : Method) (c : Code) (D : va_G) (A : Nat → Prop) (nL : Nat) (Q : State → Prop) (ws : va_W) (k n pc : Nat) (lv : List (Nat × Value)) (st : List Value) : Prop :=
  ∀ (H : Heap) (locs : List Loc) (ls : Array Slot), va_P D vwCl ws H → va_D A ws → va_S A s.heap H locs → lv_has ls nL lv → W p l e rm s m args below meth c H locs k n Q (F0 m pc ls st)
def cC (l : Launch) (rm : Room) (own : String) (cc : ByteArray) (Ts : List Cond) (nL : Nat) (D : va_G) (tys : List (ClassId × FieldType)) (fin : va_W → Prop) (g : va_W → Nat → Nat → Nat → List (Nat × Value) → List Value → Prop) : Prop :=
  ∃ (p : Program) (e : Env) (s : State) (m : MethodId) (args : Array Value) (below : List Frame) (meth : Method) (c : Code) (A : Nat → Prop) (Q : State → Prop),
    p.tables.exec = Jvm.exec ∧ c.code = cc ∧ c.maxLocals = nL ∧ s.vm.findClass own = some m.cls ∧ (∀ w ∈ Ts, w.before args s = true) ∧ gK D tys s ∧ (∀ q, s.heap.size ≤ q → A q) ∧ meth.name = "<init>" ∧ va_AO RX1 s ∧ g = cJ p l e rm s m args below meth c D A nL Q ∧
    ∀ (ws : va_W) (k n pc : Nat) (H : Heap) (locs : List Loc) (ls : Array Slot), fin ws → k ≤ rm.cells → n ≤ rm.slots → decode cc pc = .ok (.return_, 1) → va_P D vwCl ws H → va_D A ws → va_S A s.heap H locs → W p l e rm s m args below meth c H locs k n Q (F0 m pc ls [])
def cPre (D : va_G) (tys : List (ClassId × FieldType)) (w0 : va_W) (argv : List Value) (sz : Nat) : Array Value → State → Prop := va_Pc argv (fun U => U.heap.size = sz ∧ va_P D vwCl w0 U.heap ∧ gK D tys U ∧ va_D (fun _ => True) w0 ∧ va_AO RX1 U)
def cM (l : Launch) (y : MethodName) (ws : List Cond) (rm : Room) (D : va_G) (tys : List (ClassId × FieldType)) (w0 : va_W) (argv : List Value) (fin : va_W → Prop) : Prop :=
  ∀ sz, Met l y ws rm (cPre D tys w0 argv sz) (va_Qv fin (fun w1 t => va_P D vwCl w1 t.heap ∧ gK D tys t ∧ va_D (va_A w0 sz) w1) (va_A w0 sz)) rm.cells rm.slots (va_A w0 sz)
theorem cPre_blind {D : va_G} {tys : List (ClassId × FieldType)} {w0 : va_W} {argv : List Value} {sz : Nat} : FrameBlind (cPre D tys w0 argv sz) := by
  intro a U g mk q
  obtain ⟨q0, q1, qP, qK, qD, qO⟩ := q
  exact ⟨q0, q1, qP, gK.same (u := U) (U := U.calling g mk a) rfl qK, qD, va_AO.moved (u := U) (U := U.calling g mk a) (Vm.Alike.refl U.vm) qO⟩
theorem mk_c {l : Launch} {y : MethodName} {ws ws' : List Cond} {rm : Room} {D : va_G} {tys : List (ClassId × FieldType)} {w0 : va_W} {argv : List Value} {fin : va_W → Prop} {cc : ByteArray} {nL : Nat} (hy : plainName y.cls = true) (hw : ws = Cond.code y cc nL none :: ws') (hi : y.name = "<init>") (hlen : (lg_sl argv).length ≤ nL)
    (body : ∀ g, cC l rm y.cls cc ws nL D tys fin g → g w0 0 0 0 (lv_args 0 argv) []) : cM l y ws rm D tys w0 argv fin := by
  intro sz
  refine Met.ofW (cc := cc) (maxL := nL) (ret := none) hy hw ?_
  intro p e s m args below meth c s₁ B hml hv
  obtain ⟨rfl, hsz, hP, hK, hD0, hO⟩ := hv
  have hx := B.exec
  have hb := B.bytes
  have hr := B.returns
  have hts := atoms_spec (ws := ws) B.pre
  have hown : s.vm.findClass y.cls = some m.cls := findClass_of_methodNamed B.named
  have hlocks := B.notSynchronized
  have hin : meth.name = "<init>" := (name_of_methodNamed B.named B.method).1.trans hi
  subst hsz
  have hD := hD0.self (sz := s.heap.size)
  have hl := lv_entry argv (n := nL) hlen
  rw [lg_entry_eq]
  refine body _ ⟨p, e, s, m, argv.toArray, below, meth, c, va_A w0 s.heap.size, _, hx, hb, hml, hown, hts, hK, fun q h => Or.inr h, hin, hO, rfl, ?_⟩ s.heap [] _ hP hD va_S.rf hl
  intro w1 k n pc H locs ls hfin hk hn hdg hP hD hS
  refine W.widen hk hn ?_
  exact W.vret hx hb hr (fun t ht hW => ⟨⟨w1, rfl, hfin, by rw [ht]; exact hP, hK.movedW hW, hD⟩, hS.F ht⟩) hS.2.2 hdg
theorem RA_inj {U : State} {c1 c2 : ClassId} {ty : FieldType} (h1 : va_RA U c1 ty) (h2 : va_RA U c2 ty) : c1 = c2 := by
  cases ty with
  | object C =>
    obtain ⟨_, _, _, _, _, e1⟩ := h1
    obtain ⟨_, _, _, _, _, e2⟩ := h2
    exact Option.some.inj (e1.symm.trans e2)
  | _ => exact Option.some.inj (Eq.trans (Eq.symm (show U.vm.findClass _ = some c1 from h1)) (show U.vm.findClass _ = some c2 from h2))
section CR
variable {l : Launch} {rm : Room} {own : String} {cc : ByteArray} {Ts : List Cond} {nL : Nat} {D : va_G} {tys : List (ClassId × FieldType)} {fin : va_W → Prop} {g : va_W → Nat → Nat → Nat → List (Nat × Value) → List Value → Prop} {ws : va_W} {k n pc : Nat} {lv : List (Nat × Value)} {rest : List Value}
theorem c_aload_n (C : cC l rm own cc Ts nL D tys fin g) {q : Fin 4} {i : Nat} {v : Nat} (j : Nat) (d : decode cc pc = .ok (.aload_n q, 1)) (hi : (q : Nat) = i) (hj : lv[j]? = some (i, .ref v)) (kk : g ws k n (pc + 1) lv (.ref v :: rest)) : g ws k n pc lv rest := by
  obtain ⟨p, e, s, m, args, below, meth, c, A, Q, hx, hb, hml, hown, hts, hK, hA, hin9, hO, rfl, hret⟩ := C
  intro H locs ls hP hD hS hl
  exact lv_aload_n hx hb d hi (lv_at hl j hj) (kk H locs ls hP hD hS hl)
theorem c_iload_n (C : cC l rm own cc Ts nL D tys fin g) {q : Fin 4} {i : Nat} {v : Int32} (j : Nat) (d : decode cc pc = .ok (.iload_n q, 1)) (hi : (q : Nat) = i) (hj : lv[j]? = some (i, .int v)) (kk : g ws k n (pc + 1) lv (.int v :: rest)) : g ws k n pc lv rest := by
  obtain ⟨p, e, s, m, args, below, meth, c, A, Q, hx, hb, hml, hown, hts, hK, hA, hin9, hO, rfl, hret⟩ := C
  intro H locs ls hP hD hS hl
  exact lv_iload_n hx hb d hi (lv_at hl j hj) (kk H locs ls hP hD hS hl)
theorem c_iconst (C : cC l rm own cc Ts nL D tys fin g) {z : Int} {v : Int32} (d : decode cc pc = .ok (.iconst z, 1)) (hv : Int32.ofInt z = v) (kk : g ws k n (pc + 1) lv (.int v :: rest)) : g ws k n pc lv rest := by
  obtain ⟨p, e, s, m, args, below, meth, c, A, Q, hx, hb, hml, hown, hts, hK, hA, hin9, hO, rfl, hret⟩ := C
  intro H locs ls hP hD hS hl
  exact lv_iconst hx hb d hv (kk H locs ls hP hD hS hl)
theorem c_bipush (C : cC l rm own cc Ts nL D tys fin g) {z : Int} {v : Int32} (d : decode cc pc = .ok (.bipush z, 2)) (hv : (Int8.ofInt z).toInt32 = v) (kk : g ws k n (pc + 2) lv (.int v :: rest)) : g ws k n pc lv rest := by
  obtain ⟨p, e, s, m, args, below, meth, c, A, Q, hx, hb, hml, hown, hts, hK, hA, hin9, hO, rfl, hret⟩ := C
  intro H locs ls hP hD hS hl
  exact lv_bipush hx hb d hv (kk H locs ls hP hD hS hl)
theorem c_sipush (C : cC l rm own cc Ts nL D tys fin g) {z : Int} {v : Int32} (d : decode cc pc = .ok (.sipush z, 3)) (hv : (Int16.ofInt z).toInt32 = v) (kk : g ws k n (pc + 3) lv (.int v :: rest)) : g ws k n pc lv rest := by
  obtain ⟨p, e, s, m, args, below, meth, c, A, Q, hx, hb, hml, hown, hts, hK, hA, hin9, hO, rfl, hret⟩ := C
  intro H locs ls hP hD hS hl
  exact lv_sipush hx hb d hv (kk H locs ls hP hD hS hl)
theorem c_dup (C : cC l rm own cc Ts nL D tys fin g) {v : Value} (d : decode cc pc = .ok (.dup, 1)) (hv : v.category = 1) (kk : g ws k n (pc + 1) lv (v :: v :: rest)) : g ws k n pc lv (v :: rest) := by
  obtain ⟨p, e, s, m, args, below, meth, c, A, Q, hx, hb, hml, hown, hts, hK, hA, hin9, hO, rfl, hret⟩ := C
  intro H locs ls hP hD hS hl
  exact lv_dup hx hb d hv (kk H locs ls hP hD hS hl)
theorem c_istore_n (C : cC l rm own cc Ts nL D tys fin g) {q : Fin 4} {i : Nat} {v : Int32} {lv' : List (Nat × Value)} (d : decode cc pc = .ok (.istore_n q, 1)) (hi : (q : Nat) = i) (hn : i < nL) (hl2 : (i, Value.int v) :: lv.filter (fun q => !(q.1 == i) && !(q.1 + 1 == i && q.2.category == 2)) = lv') (kk : g ws k n (pc + 1) lv' rest) : g ws k n pc lv (.int v :: rest) := by
  obtain ⟨p, e, s, m, args, below, meth, c, A, Q, hx, hb, hml, hown, hts, hK, hA, hin9, hO, rfl, hret⟩ := C
  intro H locs ls hP hD hS hl
  exact lv_istore_n hx hb d hi hl hn hl2 (fun ls' hl' => kk H locs ls' hP hD hS hl')
theorem c_iinc (C : cC l rm own cc Ts nL D tys fin g) {i : Nat} {z : Int} {v w : Int32} {lv' : List (Nat × Value)} (j : Nat) (d : decode cc pc = .ok (.iinc i z, 3)) (hj : lv[j]? = some (i, .int v)) (hw : v + Int32.ofInt z = w) (hn : i < nL) (hl2 : (i, Value.int w) :: lv.filter (fun q => !(q.1 == i) && !(q.1 + 1 == i && q.2.category == 2)) = lv') (kk : g ws k n (pc + 3) lv' rest) : g ws k n pc lv rest := by
  obtain ⟨p, e, s, m, args, below, meth, c, A, Q, hx, hb, hml, hown, hts, hK, hA, hin9, hO, rfl, hret⟩ := C
  intro H locs ls hP hD hS hl
  exact lv_iinc hx hb d hl hj hw hn hl2 (fun ls' hl' => kk H locs ls' hP hD hS hl')
theorem c_goto (C : cC l rm own cc Ts nL D tys fin g) {off : Int} (tgt : Nat) (d : decode cc pc = .ok (.goto off, 3)) (ht : (pc : Int) + off = (tgt : Int)) (kk : g ws k n tgt lv rest) : g ws k n pc lv rest := by
  obtain ⟨p, e, s, m, args, below, meth, c, A, Q, hx, hb, hml, hown, hts, hK, hA, hin9, hO, rfl, hret⟩ := C
  intro H locs ls hP hD hS hl
  exact lv_goto hx hb d ht (kk H locs ls hP hD hS hl)
theorem c_icmp_ge (C : cC l rm own cc Ts nL D tys fin g) {v w : Int32} {off : Int} (tgt : Nat) (d : decode cc pc = .ok (.if_icmp .ge off, 3)) (ht : (pc : Int) + off = (tgt : Int)) (kt : w ≤ v → g ws k n tgt lv rest) (kf : ¬ w ≤ v → g ws k n (pc + 3) lv rest) : g ws k n pc lv (.int w :: .int v :: rest) := by
  obtain ⟨p, e, s, m, args, below, meth, c, A, Q, hx, hb, hml, hown, hts, hK, hA, hin9, hO, rfl, hret⟩ := C
  intro H locs ls hP hD hS hl
  exact lv_icmp_ge hx hb d ht (fun h => kt h H locs ls hP hD hS hl) (fun h => kf h H locs ls hP hD hS hl)
theorem c_sub (C : cC l rm own cc Ts nL D tys fin g) {lv' : List (Nat × Value)} {st : List Value} (ks : List Nat) (hk : lv_pick lv ks = lv') (kk : g ws k n pc lv' st) : g ws k n pc lv st := by
  obtain ⟨p, e, s, m, args, below, meth, c, A, Q, hx, hb, hml, hown, hts, hK, hA, hin9, hO, rfl, hret⟩ := C
  intro H locs ls hP hD hS hl
  exact kk H locs ls hP hD hS (lv_sub hl ks hk)
theorem c_widen (C : cC l rm own cc Ts nL D tys fin g) {k' n' : Nat} {st : List Value} (hk : k ≤ k') (hn : n ≤ n') (kk : g ws k' n' pc lv st) : g ws k n pc lv st := by
  obtain ⟨p, e, s, m, args, below, meth, c, A, Q, hx, hb, hml, hown, hts, hK, hA, hin9, hO, rfl, hret⟩ := C
  intro H locs ls hP hD hS hl
  exact W.widen hk hn (kk H locs ls hP hD hS hl)
theorem c_perm (C : cC l rm own cc Ts nL D tys fin g) {ws' : va_W} {st : List Value} (h1 : ∀ q ∈ ws', q ∈ ws) (h2 : (ws.map Prod.fst).Nodup → (ws'.map Prod.fst).Nodup) (kk : g ws' k n pc lv st) : g ws k n pc lv st := by
  obtain ⟨p, e, s, m, args, below, meth, c, A, Q, hx, hb, hml, hown, hts, hK, hA, hin9, hO, rfl, hret⟩ := C
  intro H locs ls hP hD hS hl
  rw [va_P_mem] at hP
  rw [va_D_mem] at hD
  exact kk H locs ls (va_P_mem.mpr (fun q hq => hP q (h1 q hq))) (va_D_mem.mpr ⟨h2 hD.1, fun q hq => hD.2 q (h1 q hq)⟩) hS hl
theorem c_get (C : cC l rm own cc Ts nL D tys fin g) {ref C0 : String} {TT : u_T} {N ci index a : Nat} (hin : ∀ w ∈ u_ws C0 TT N, w ∈ Ts) (q0 : Nat) {fs : List Value} (he : ws[q0]? = some (a, .inr (ci, fs))) (hc : vwCl[ci]? = some (C0, TT, N)) (j : Nat) (hj : j < N) (hlink : Cond.fieldLink own index ref (TT j).2.1 (TT j).2.2.1 ∈ Ts) (hsame : (TT j).1 = ref) {v : Value} (hv : fs[j]? = some v) (d : decode cc pc = .ok (.getfield index, 3)) (kk : g ws k n (pc + 3) lv (v :: rest)) : g ws k n pc lv (.ref a :: rest) := by
  obtain ⟨p, e, s, m, args, below, meth, c, A, Q, hx, hb, hml, hown, hts, hK, hA, hin9, hO, rfl, hret⟩ := C
  intro H locs ls hP hD hS hl
  exact va_get hx hb hts hin hown hK.1 hP q0 he hc j hj (hts _ hlink) (fun _ h9 => by rw [← hsame]; exact h9) hv d (kk H locs ls hP hD hS hl)
theorem c_put (C : cC l rm own cc Ts nL D tys fin g) {ref C0 : String} {TT : u_T} {N ci index a : Nat} {ws' : va_W} (hin : ∀ w ∈ u_ws C0 TT N, w ∈ Ts) (ty0 : Nat → FieldType) (hty : ∀ k, k < N → parseFieldDescriptor (TT k).2.2.1 = some (ty0 k)) (hnm : ∀ a, a < N → ∀ b, b < N → a ≠ b → (TT a).2.1 ≠ (TT b).2.1) (q0 : Nat) {fs : List Value} (he : ws[q0]? = some (a, .inr (ci, fs))) (hc : vwCl[ci]? = some (C0, TT, N)) (j : Nat) (hj : j < N) (hlink : Cond.fieldLink own index ref (TT j).2.1 (TT j).2.2.1 ∈ Ts) (hsame : (TT j).1 = ref) (hfin : (TT j).2.2.2 = false) {ty : FieldType} {v : Value} (hty1 : parseFieldDescriptor (TT j).2.2.1 = some ty) (hn : narrow ty v = v) (hfit : fits ty v = true) (hl1 : j < fs.length) (hset : ws.set q0 (a, .inr (ci, fs.set j v)) = ws') (d : decode cc pc = .ok (.putfield index, 3)) (kk : g ws' k n (pc + 3) lv rest) : g ws k n pc lv (v :: .ref a :: rest) := by
  obtain ⟨p, e, s, m, args, below, meth, c, A, Q, hx, hb, hml, hown, hts, hK, hA, hin9, hO, rfl, hret⟩ := C
  intro H locs ls hP hD hS hl
  refine va_put hx hb hts hin ty0 hty hnm hown hK.1 hP hD hS q0 he hc j hj (hts _ hlink) (fun _ h9 => by rw [← hsame]; exact h9) hfin hty1 hn hfit hl1 d (fun H locs hP hD hS => ?_)
  rw [hset] at hP hD
  exact kk H locs ls hP hD hS hl
theorem c_putF (C : cC l rm own cc Ts nL D tys fin g) {ref C0 : String} {TT : u_T} {N ci index a : Nat} {ws' : va_W} (hin : ∀ w ∈ u_ws C0 TT N, w ∈ Ts) (ty0 : Nat → FieldType) (hty : ∀ k, k < N → parseFieldDescriptor (TT k).2.2.1 = some (ty0 k)) (hnm : ∀ a, a < N → ∀ b, b < N → a ≠ b → (TT a).2.1 ≠ (TT b).2.1) (q0 : Nat) {fs : List Value} (he : ws[q0]? = some (a, .inr (ci, fs))) (hc : vwCl[ci]? = some (C0, TT, N)) (j : Nat) (hj : j < N) (hlink : Cond.fieldLink own index ref (TT j).2.1 (TT j).2.2.1 ∈ Ts) (hsame : (TT j).1 = ref) (hfin : (TT j).2.2.2 = true) (hdecl : (TT j).1 = own) {ty : FieldType} {v : Value} (hty1 : parseFieldDescriptor (TT j).2.2.1 = some ty) (hn : narrow ty v = v) (hfit : fits ty v = true) (hl1 : j < fs.length) (hset : ws.set q0 (a, .inr (ci, fs.set j v)) = ws') (d : decode cc pc = .ok (.putfield index, 3)) (kk : g ws' k n (pc + 3) lv rest) : g ws k n pc lv (v :: .ref a :: rest) := by
  obtain ⟨p, e, s, m, args, below, meth, c, A, Q, hx, hb, hml, hown, hts, hK, hA, hin9, hO, rfl, hret⟩ := C
  intro H locs ls hP hD hS hl
  refine va_putF hx hb hts hin ty0 hty hnm hown hK.1 hP hD hS q0 he hc j hj (hts _ hlink) (fun _ h9 => by rw [← hsame]; exact h9) hfin hin9 hdecl hty1 hn hfit hl1 d (fun H locs hP hD hS => ?_)
  rw [hset] at hP hD
  exact kk H locs ls hP hD hS hl
theorem c_objInit (C : cC l rm own cc Ts nL D tys fin g) {idx a : Nat} (hlink : Cond.methodLink own idx Lib.objectInit ∈ Ts) (hinst : Cond.instanceMethod Lib.objectInit ∈ Ts) (hcode : Cond.code Lib.objectInit ⟨#[0xb1]⟩ 1 none ∈ Ts) (hF : 1 ≤ rm.frames) (hL : (rest.map fun v => v.category).sum + 12 ≤ rm.locals) (d : decode cc pc = .ok (.invokespecial idx, 3)) (kk : g ws k n (pc + 3) lv rest) : g ws k n pc lv (.ref a :: rest) := by
  obtain ⟨p, e, s, m, args, below, meth, c, A, Q, hx, hb, hml, hown, hts, hK, hA, hin9, hO, rfl, hret⟩ := C
  intro H locs ls hP hD hS hl
  exact W.objInit hx hb hown (hts _ hlink) (hts _ hinst) (hts _ hcode) rfl (hl.1.trans hml.symm) rfl d hF (by show 2 * 0 + _ + 12 ≤ _; omega) (kk H locs ls hP hD hS hl)
theorem c_newa (C : cC l rm own cc Ts nL D tys fin g) {atype : ArrayType} {ty : FieldType} {cK : ClassId} {z : Int32} {N : Nat} (t0 : Nat) (harr : Cond.arrayClass (newarray.typeOf atype) ∈ Ts) (hty : newarray.typeOf atype = ty) (hdf : defaultValue ty = .int 0) (ht0 : tys[t0]? = some (cK, ty)) (hz0 : ¬ z < 0) (hz : z.toNatClampNeg = N) (hby : N * componentBytes ty ≤ 536870912) (hc1 : k + 1 ≤ rm.cells) (hs1 : n + N ≤ rm.slots) (d : decode cc pc = .ok (.newarray atype, 2)) (kk : ∀ q, g (ws ++ [(q, .inl (cK, N, .inl (fun _ => 0)))]) (k + 1) (n + N) (pc + 2) lv (.ref q :: rest)) : g ws k n pc lv (.int z :: rest) := by
  obtain ⟨p, e, s, m, args, below, meth, c, A, Q, hx, hb, hml, hown, hts, hK, hA, hin9, hO, rfl, hret⟩ := C
  intro H locs ls hP hD hS hl
  refine va_newa (a0 := (N, .inl (fun _ => 0))) hx hb (hts _ harr) hty hK.1 hP hD hS hA (fun cA => by rw [vp_cell_i, hdf]) hz0 hz hby hc1 hs1 d (fun q cA H1 hK1 hP hD hS => ?_)
  have e : cA = cK := RA_inj (hK1.2 tys.length (cA, ty) (by rw [List.getElem?_append_right (Nat.le_refl _)]; simp)).2 (hK.1.2 t0 _ ht0).2
  subst e
  exact kk q H1 locs ls hP hD hS hl
theorem c_newq (C : cC l rm own cc Ts nL D tys fin g) {C0 : String} {index : Nat} {cK : ClassId} {z : Int32} {N : Nat} (t0 : Nat) (hC0 : C0 = RX1) (hcl : Cond.classLink own index C0 ∈ Ts) (ht0 : tys[t0]? = some (cK, .object C0)) (hz0 : ¬ z < 0) (hz : z.toNatClampNeg = N) (hby : N * 4 ≤ 536870912) (hc1 : k + 1 ≤ rm.cells) (hs1 : n + N ≤ rm.slots) (d : decode cc pc = .ok (.anewarray index, 3)) (kk : ∀ q, g (ws ++ [(q, .inl (cK, N, .inr (.inr (.inr (.inr (fun _ => none))))))]) (k + 1) (n + N) (pc + 3) lv (.ref q :: rest)) : g ws k n pc lv (.int z :: rest) := by
  obtain ⟨p, e, s, m, args, below, meth, c, A, Q, hx, hb, hml, hown, hts, hK, hA, hin9, hO, rfl, hret⟩ := C
  intro H locs ls hP hD hS hl
  subst hC0
  refine va_newq hx hb hown (hts _ hcl) hO hK.1 hP hD hS hA hz0 hz hby hc1 hs1 d (fun q cA H1 hK1 hP hD hS => ?_)
  have e : cA = cK := RA_inj (hK1.2 tys.length (cA, .object RX1) (by rw [List.getElem?_append_right (Nat.le_refl _)]; simp)).2 (hK.1.2 t0 _ ht0).2
  subst e
  exact kk q H1 locs ls hP hD hS hl
theorem c_new (C : cC l rm own cc Ts nL D tys fin g) {C0 : String} {TT : u_T} {N ci index : Nat} {fs : List Value} (hin : ∀ w ∈ u_ws C0 TT N, w ∈ Ts) (ty : Nat → FieldType) (hty : ∀ k, k < N → parseFieldDescriptor (TT k).2.2.1 = some (ty k)) (hcl : Cond.classLink own index C0 ∈ Ts) (hinst : Cond.instantiable C0 N ∈ Ts) (hini : Cond.initialized C0 ∈ Ts) (hc : vwCl[ci]? = some (C0, TT, N)) (hfs : ∀ j, j < N → defaultValue (ty j) = vp_V fs j) (hc1 : k + 1 ≤ rm.cells) (hs1 : n + N ≤ rm.slots) (d : decode cc pc = .ok (.new index, 3)) (kk : ∀ q, g (ws ++ [(q, .inr (ci, fs))]) (k + 1) (n + N) (pc + 3) lv (.ref q :: rest)) : g ws k n pc lv rest := by
  obtain ⟨p, e, s, m, args, below, meth, c, A, Q, hx, hb, hml, hown, hts, hK, hA, hin9, hO, rfl, hret⟩ := C
  intro H locs ls hP hD hS hl
  exact va_new hx hb hts hin ty hty hown (hts _ hcl) (hts _ hinst) (hts _ hini) hK.1 hP hD hS hA hc hfs hc1 hs1 d (fun q H1 hP hD hS => kk q H1 locs ls hP hD hS hl)
theorem c_aast (C : cC l rm own cc Ts nL D tys fin g) {cA : ClassId} {N a v : Nat} {f : Nat → Option Nat} {i : Int32} {ws' : va_W} (q0 t0 : Nat) (ha : ws[q0]? = some (a, .inl (cA, N, .inr (.inr (.inr (.inr f)))))) (ht : tys[t0]? = some (cA, .object RX1)) (hv : ∃ (p : Nat) (fs : List Value), ws[p]? = some (v, .inr (1, fs))) (hin : inb i N) (hset : ws.set q0 (a, .inl (cA, N, .inr (.inr (.inr (.inr (va_up f i.toNatClampNeg (some v))))))) = ws') (d : decode cc pc = .ok (.aastore, 1)) (kk : g ws' k n (pc + 1) lv rest) : g ws k n pc lv (.ref v :: .int i :: .ref a :: rest) := by
  obtain ⟨p, e, s, m, args, below, meth, c, A, Q, hx, hb, hml, hown, hts, hK, hA, hin9, hO, rfl, hret⟩ := C
  intro H locs ls hP hD hS hl
  obtain ⟨qk, fs, hv⟩ := hv
  refine va_astq hx hb hK.1 hP hD hS q0 t0 qk 1 ha ht hv (r := (RX1, TX1, 15)) rfl hin d (fun H locs hP hD hS => ?_)
  rw [hset] at hP hD
  exact kk H locs ls hP hD hS hl
theorem c_ret (C : cC l rm own cc Ts nL D tys fin g) (hf : fin ws) (hk : k ≤ rm.cells) (hn : n ≤ rm.slots) (d : decode cc pc = .ok (.return_, 1)) : g ws k n pc lv [] := by
  obtain ⟨p, e, s, m, args, below, meth, c, A, Q, hx, hb, hml, hown, hts, hK, hA, hin9, hO, rfl, hret⟩ := C
  intro H locs ls hP hD hS hl
  exact hret ws k n pc H locs ls hf hk hn d hP hD hS
theorem c_init (C : cC l rm own cc Ts nL D tys fin g) {y : MethodName} {bytes : ByteArray} {maxL index b : Nat} {wsy wsy' : List Cond} {rmc : Room} {w0 wr : va_W} {fin9 : va_W → Prop} {host : String} (hM : cM l y wsy rmc D tys w0 [.ref b] fin9) (hws : ws = wr ++ w0) (hG : GoodIn Ts wsy) (hw : wsy = Cond.code y bytes maxL none :: wsy') (hini : Cond.initialized y.cls ∈ Ts) (hinst : Cond.instanceMethod y ∈ Ts) (hy1 : y.name = "<init>") (hlink : Cond.methodLink own index y ∈ Ts) (hd : y.cls ≠ "java/lang/invoke/MethodHandle" ∧ y.cls ≠ "java/lang/invoke/VarHandle" ∧ (parseMethodDescriptor y.desc).map (fun d => d.parameters.length) = some 0) (hR : rmc.frames + 1 ≤ rm.frames ∧ 8 + (maxL + 11) + rmc.locals ≤ rm.locals) (hc1 : k + rmc.cells ≤ rm.cells) (hs1 : n + rmc.slots ≤ rm.slots) (hW : (rest.map fun v => v.category).sum ≤ 8) (d : decode cc pc = .ok (.invokespecial index, 3)) (kk : ∀ w1, fin9 w1 → g (wr ++ w1) (k + rmc.cells) (n + rmc.slots) (pc + 3) lv rest) : g ws k n pc lv (.ref b :: rest) := by
  obtain ⟨p, e, s, m, args, below, meth, c, A, Q, hx, hb, hml, hown, hts, hK, hA, hin9, hO, rfl, hret⟩ := C
  intro H locs ls hP hD hS hl
  have hC9 : ∀ q ∈ w0, q ∈ ws := fun q hq => by rw [hws]; exact List.mem_append_right _ hq
  have hP9 := hP
  rw [va_P_mem] at hP
  rw [va_D_mem] at hD
  have hm : ws.map Prod.fst = wr.map Prod.fst ++ w0.map Prod.fst := by rw [hws]; simp
  have hn0 : (w0.map Prod.fst).Nodup := by
    have := hD.1
    rw [hm, List.nodup_append] at this
    exact this.2.1
  have hdis : ∀ q ∈ wr, q.1 ∉ w0.map Prod.fst := fun q hq h9 => by
    have := hD.1
    rw [hm, List.nodup_append] at this
    exact this.2.2 q.1 (List.mem_map.mpr ⟨q, hq, rfl⟩) q.1 h9 rfl
  have hPc : va_P D vwCl w0 H := va_P_mem.mpr (fun q hq => hP q (hC9 q hq))
  have hDc : va_D A w0 := va_D_mem.mpr ⟨hn0, fun q hq => hD.2 q (hC9 q hq)⟩
  have hFc : ∀ q, va_A w0 H.size q → A q := fun q hq => by
    rcases va_A_mem.mp hq with h | h
    · obtain ⟨⟨a9, e9⟩, h5, rfl⟩ := List.mem_map.mp h
      exact hD.2 _ (hC9 _ h5)
    · exact hA q (Nat.le_trans hS.1 h)
  refine va_callv (va_runI (As := []) (rest := rest) ⟨hx, hb, hml, hown, hts⟩ (hM H.size) ⟨callB_of 0 hts hG hw rfl rfl (hts _ hini) (hts _ hlink) hd hR, hy1, hts _ hinst⟩ ⟨cPre_blind, fun U hU hW9 => ⟨rfl, by rw [hU], by rw [hU]; exact hPc, hK.movedW hW9, hDc.weaken (fun _ _ _ _ => trivial), va_AO.moved hW9.alike hO⟩⟩ rfl rfl hl.1 rfl (lv_room hW) d ⟨hc1, hs1⟩) hS (fun q _ h => hFc q h) hFc (fun w1 t H1 locs1 ht hvm hw9 hB hz1 hk1 hS1 => ?_)
  obtain ⟨hP1, hK1, hD1⟩ := hB
  rw [ht] at hP1
  have hwr : ∀ q ∈ wr, q.1 < H.size ∧ ¬ va_A w0 H.size q.1 := fun q hq => by
    have hl9 := (hP q (by rw [hws]; exact List.mem_append_left _ hq)).lt
    refine ⟨hl9, fun h7 => ?_⟩
    rcases va_A_mem.mp h7 with h8 | h8
    · exact hdis q hq h8
    · omega
  have hP2 : va_P D vwCl (wr ++ w1) H1 := va_P_mem.mpr (fun q hq => by
    rcases List.mem_append.mp hq with h | h
    · exact (hP q (by rw [hws]; exact List.mem_append_left _ h)).kept (hk1 q.1 (hwr q h).1 (hwr q h).2)
    · exact va_P_mem.mp hP1 q h)
  have hD3 := va_D_mem.mp hD1
  have hD2 : va_D A (wr ++ w1) := va_D_mem.mpr ⟨by
    rw [List.map_append, List.nodup_append]
    refine ⟨?_, hD3.1, fun a ha b hb e => ?_⟩
    · have := hD.1
      rw [hm, List.nodup_append] at this
      exact this.1
    · subst e
      obtain ⟨q, hq, rfl⟩ := List.mem_map.mp ha
      obtain ⟨q2, hq2, e2⟩ := List.mem_map.mp hb
      exact (hwr q hq).2 (by rw [← e2]; exact hD3.2 q2 hq2), fun q hq => by
    rcases List.mem_append.mp hq with h | h
    · exact hD.2 q (by rw [hws]; exact List.mem_append_left _ h)
    · exact hFc _ (hD3.2 q h)⟩
  exact kk w1 hw9 H1 locs1 ls hP2 hD2 hS1 hl
theorem c_initN (C : cC l rm own cc Ts nL D tys fin g) {y : MethodName} {bytes : ByteArray} {maxL index b : Nat} {wsy wsy' : List Cond} {rmc : Room} {w0 wr : va_W} {fin9 : va_W → Prop} {host : String} (hM : cM l y wsy rmc D tys w0 [.ref b] fin9) (hws : ws = wr ++ w0) (hG : GoodIn Ts wsy) (hw : wsy = Cond.code y bytes maxL none :: wsy') (hini : Cond.initialized y.cls ∈ Ts) (hinst : Cond.instanceMethod y ∈ Ts) (hy1 : y.name = "<init>") (hNw : Cond.methodLinkNest own index y host ∈ nestWs) (hd : y.cls ≠ "java/lang/invoke/MethodHandle" ∧ y.cls ≠ "java/lang/invoke/VarHandle" ∧ (parseMethodDescriptor y.desc).map (fun d => d.parameters.length) = some 0) (hR : rmc.frames + 1 ≤ rm.frames ∧ 8 + (maxL + 11) + rmc.locals ≤ rm.locals) (hc1 : k + rmc.cells ≤ rm.cells) (hs1 : n + rmc.slots ≤ rm.slots) (hW : (rest.map fun v => v.category).sum ≤ 8) (d : decode cc pc = .ok (.invokespecial index, 3)) (kk : ∀ w1, fin9 w1 → g (wr ++ w1) (k + rmc.cells) (n + rmc.slots) (pc + 3) lv rest) : g ws k n pc lv (.ref b :: rest) := by
  obtain ⟨p, e, s, m, args, below, meth, c, A, Q, hx, hb, hml, hown, hts, hK, hA, hin9, hO, rfl, hret⟩ := C
  intro H locs ls hP hD hS hl
  have hC9 : ∀ q ∈ w0, q ∈ ws := fun q hq => by rw [hws]; exact List.mem_append_right _ hq
  have hP9 := hP
  rw [va_P_mem] at hP
  rw [va_D_mem] at hD
  have hm : ws.map Prod.fst = wr.map Prod.fst ++ w0.map Prod.fst := by rw [hws]; simp
  have hn0 : (w0.map Prod.fst).Nodup := by
    have := hD.1
    rw [hm, List.nodup_append] at this
    exact this.2.1
  have hdis : ∀ q ∈ wr, q.1 ∉ w0.map Prod.fst := fun q hq h9 => by
    have := hD.1
    rw [hm, List.nodup_append] at this
    exact this.2.2 q.1 (List.mem_map.mpr ⟨q, hq, rfl⟩) q.1 h9 rfl
  have hPc : va_P D vwCl w0 H := va_P_mem.mpr (fun q hq => hP q (hC9 q hq))
  have hDc : va_D A w0 := va_D_mem.mpr ⟨hn0, fun q hq => hD.2 q (hC9 q hq)⟩
  have hFc : ∀ q, va_A w0 H.size q → A q := fun q hq => by
    rcases va_A_mem.mp hq with h | h
    · obtain ⟨⟨a9, e9⟩, h5, rfl⟩ := List.mem_map.mp h
      exact hD.2 _ (hC9 _ h5)
    · exact hA q (Nat.le_trans hS.1 h)
  refine va_callv (va_runIN (As := []) (rest := rest) ⟨hx, hb, hml, hown, hts⟩ (hM H.size) ⟨va_cnB 0 hts hG hw rfl rfl (hK.2 _ hNw) (hts _ hini) hd hR, hy1, hts _ hinst⟩ ⟨cPre_blind, fun U hU hW9 => ⟨rfl, by rw [hU], by rw [hU]; exact hPc, hK.movedW hW9, hDc.weaken (fun _ _ _ _ => trivial), va_AO.moved hW9.alike hO⟩⟩ rfl rfl hl.1 rfl (lv_room hW) d ⟨hc1, hs1⟩) hS (fun q _ h => hFc q h) hFc (fun w1 t H1 locs1 ht hvm hw9 hB hz1 hk1 hS1 => ?_)
  obtain ⟨hP1, hK1, hD1⟩ := hB
  rw [ht] at hP1
  have hwr : ∀ q ∈ wr, q.1 < H.size ∧ ¬ va_A w0 H.size q.1 := fun q hq => by
    have hl9 := (hP q (by rw [hws]; exact List.mem_append_left _ hq)).lt
    refine ⟨hl9, fun h7 => ?_⟩
    rcases va_A_mem.mp h7 with h8 | h8
    · exact hdis q hq h8
    · omega
  have hP2 : va_P D vwCl (wr ++ w1) H1 := va_P_mem.mpr (fun q hq => by
    rcases List.mem_append.mp hq with h | h
    · exact (hP q (by rw [hws]; exact List.mem_append_left _ h)).kept (hk1 q.1 (hwr q h).1 (hwr q h).2)
    · exact va_P_mem.mp hP1 q h)
  have hD3 := va_D_mem.mp hD1
  have hD2 : va_D A (wr ++ w1) := va_D_mem.mpr ⟨by
    rw [List.map_append, List.nodup_append]
    refine ⟨?_, hD3.1, fun a ha b hb e => ?_⟩
    · have := hD.1
      rw [hm, List.nodup_append] at this
      exact this.1
    · subst e
      obtain ⟨q, hq, rfl⟩ := List.mem_map.mp ha
      obtain ⟨q2, hq2, e2⟩ := List.mem_map.mp hb
      exact (hwr q hq).2 (by rw [← e2]; exact hD3.2 q2 hq2), fun q hq => by
    rcases List.mem_append.mp hq with h | h
    · exact hD.2 q (by rw [hws]; exact List.mem_append_left _ h)
    · exact hFc _ (hD3.2 q h)⟩
  exact kk w1 hw9 H1 locs1 ls hP2 hD2 hS1 hl
theorem c_callV (C : cC l rm own cc Ts nL D tys fin g) {T' : Type} {y : MethodName} {bytes : ByteArray} {maxL index b ci : Nat} {fs : List Value} {Cn : String} {wsy wsy' : List Cond} {rmc : Room} {wr : va_W} {Wc : T' → va_W} {τ τ' : T'} (hM : gMv l y wsy rmc D tys Wc [.ref b] τ τ') (hws : ws = wr ++ Wc τ) (hG : GoodIn Ts (wsV own index Cn y wsy)) (hw : wsy = Cond.code y bytes maxL none :: wsy') (hd : y.cls = Cn ∧ y.cls ≠ "java/lang/invoke/MethodHandle" ∧ y.cls ≠ "java/lang/invoke/VarHandle" ∧ (parseMethodDescriptor y.desc).map (fun d => d.parameters.length) = some 0) (hR : rmc.frames + 1 ≤ rm.frames ∧ 8 + (maxL + 11) + rmc.locals ≤ rm.locals ∧ rmc.cells = 0 ∧ rmc.slots = 0) (q0 : Nat) (he : (Wc τ)[q0]? = some (b, .inr (ci, fs))) {TT : u_T} {N : Nat} (hc : vwCl[ci]? = some (Cn, TT, N)) (hcs : k ≤ rm.cells ∧ n ≤ rm.slots) (hW : (rest.map fun v => v.category).sum ≤ 8) (d : decode cc pc = .ok (.invokevirtual index, 3)) (kk : g (wr ++ Wc τ') k n (pc + 3) lv rest) : g ws k n pc lv (.ref b :: rest) := by
  obtain ⟨p, e, s, m, args, below, meth, c, A, Q, hx, hb, hml, hown, hts, hK, hA, hin9, hO, rfl, hret⟩ := C
  intro H locs ls hP hD hS hl
  have hC9 : ∀ q ∈ (Wc τ), q ∈ ws := fun q hq => by rw [hws]; exact List.mem_append_right _ hq
  have hP9 := hP
  rw [va_P_mem] at hP
  rw [va_D_mem] at hD
  have hm : ws.map Prod.fst = wr.map Prod.fst ++ (Wc τ).map Prod.fst := by rw [hws]; simp
  have hn0 : ((Wc τ).map Prod.fst).Nodup := by
    have := hD.1
    rw [hm, List.nodup_append] at this
    exact this.2.1
  have hdis : ∀ q ∈ wr, q.1 ∉ (Wc τ).map Prod.fst := fun q hq h9 => by
    have := hD.1
    rw [hm, List.nodup_append] at this
    exact this.2.2 q.1 (List.mem_map.mpr ⟨q, hq, rfl⟩) q.1 h9 rfl
  have hPc : va_P D vwCl (Wc τ) H := va_P_mem.mpr (fun q hq => hP q (hC9 q hq))
  have hDc : va_D A (Wc τ) := va_D_mem.mpr ⟨hn0, fun q hq => hD.2 q (hC9 q hq)⟩
  have hFc : ∀ q, va_A (Wc τ) H.size q → A q := fun q hq => by
    rcases va_A_mem.mp hq with h | h
    · obtain ⟨⟨a9, e9⟩, h5, rfl⟩ := List.mem_map.mp h
      exact hD.2 _ (hC9 _ h5)
    · exact hA q (Nat.le_trans hS.1 h)
  refine va_callv (va_runV (As := []) (rest := rest) ⟨hx, hb, hml, hown, hts⟩ (hM H.size) (cwV 0 hts hG hw hR.2.2.1 hR.2.2.2 hd ⟨hR.1, hR.2.1⟩) ⟨gPre_blind, va_recv hK.1 hPc hc he, fun U hU hW9 => ⟨rfl, by rw [hU], by rw [hU]; exact hPc, hK.movedW hW9, hDc.weaken (fun _ _ _ _ => trivial)⟩⟩ rfl rfl hl.1 rfl (lv_room hW) d ⟨hcs.1, hcs.2⟩) hS (fun q _ h => hFc q h) hFc (fun u t H1 locs1 ht hvm hw9 hB hz1 hk1 hS1 => ?_)
  subst hw9
  obtain ⟨hP1, hK1, hD1⟩ := hB
  rw [ht] at hP1
  have hwr : ∀ q ∈ wr, q.1 < H.size ∧ ¬ va_A (Wc τ) H.size q.1 := fun q hq => by
    have hl9 := (hP q (by rw [hws]; exact List.mem_append_left _ hq)).lt
    refine ⟨hl9, fun h7 => ?_⟩
    rcases va_A_mem.mp h7 with h8 | h8
    · exact hdis q hq h8
    · omega
  have hP2 : va_P D vwCl (wr ++ (Wc τ')) H1 := va_P_mem.mpr (fun q hq => by
    rcases List.mem_append.mp hq with h | h
    · exact (hP q (by rw [hws]; exact List.mem_append_left _ h)).kept (hk1 q.1 (hwr q h).1 (hwr q h).2)
    · exact va_P_mem.mp hP1 q h)
  have hD3 := va_D_mem.mp hD1
  have hD2 : va_D A (wr ++ (Wc τ')) := va_D_mem.mpr ⟨by
    rw [List.map_append, List.nodup_append]
    refine ⟨?_, hD3.1, fun a ha b hb e => ?_⟩
    · have := hD.1
      rw [hm, List.nodup_append] at this
      exact this.1
    · subst e
      obtain ⟨q, hq, rfl⟩ := List.mem_map.mp ha
      obtain ⟨q2, hq2, e2⟩ := List.mem_map.mp hb
      exact (hwr q hq).2 (by rw [← e2]; exact hD3.2 q2 hq2), fun q hq => by
    rcases List.mem_append.mp hq with h | h
    · exact hD.2 q (by rw [hws]; exact List.mem_append_left _ h)
    · exact hFc _ (hD3.2 q h)⟩
  exact kk H1 locs1 ls hP2 hD2 hS1 hl
theorem c_callS (C : cC l rm own cc Ts nL D tys fin g) {T' : Type} {y : MethodName} {bytes : ByteArray} {maxL index b ci : Nat} {fs : List Value} {Cn : String} {wsy wsy' : List Cond} {rmc : Room} {wr : va_W} {Wc : T' → va_W} {τ τ' : T'} (hM : gMv l y wsy rmc D tys Wc [.ref b] τ τ') (hws : ws = wr ++ Wc τ) (hG : GoodIn Ts (va_wsS own index y wsy)) (hw : wsy = Cond.code y bytes maxL none :: wsy') (hd : y.cls ≠ "java/lang/invoke/MethodHandle" ∧ y.cls ≠ "java/lang/invoke/VarHandle" ∧ (parseMethodDescriptor y.desc).map (fun d => d.parameters.length) = some 1) (hR : rmc.frames + 1 ≤ rm.frames ∧ 8 + (maxL + 11) + rmc.locals ≤ rm.locals ∧ rmc.cells = 0 ∧ rmc.slots = 0) (hcs : k ≤ rm.cells ∧ n ≤ rm.slots) (hW : (rest.map fun v => v.category).sum ≤ 8) (d : decode cc pc = .ok (.invokestatic index, 3)) (kk : g (wr ++ Wc τ') k n (pc + 3) lv rest) : g ws k n pc lv (.ref b :: rest) := by
  obtain ⟨p, e, s, m, args, below, meth, c, A, Q, hx, hb, hml, hown, hts, hK, hA, hin9, hO, rfl, hret⟩ := C
  intro H locs ls hP hD hS hl
  have hC9 : ∀ q ∈ (Wc τ), q ∈ ws := fun q hq => by rw [hws]; exact List.mem_append_right _ hq
  have hP9 := hP
  rw [va_P_mem] at hP
  rw [va_D_mem] at hD
  have hm : ws.map Prod.fst = wr.map Prod.fst ++ (Wc τ).map Prod.fst := by rw [hws]; simp
  have hn0 : ((Wc τ).map Prod.fst).Nodup := by
    have := hD.1
    rw [hm, List.nodup_append] at this
    exact this.2.1
  have hdis : ∀ q ∈ wr, q.1 ∉ (Wc τ).map Prod.fst := fun q hq h9 => by
    have := hD.1
    rw [hm, List.nodup_append] at this
    exact this.2.2 q.1 (List.mem_map.mpr ⟨q, hq, rfl⟩) q.1 h9 rfl
  have hPc : va_P D vwCl (Wc τ) H := va_P_mem.mpr (fun q hq => hP q (hC9 q hq))
  have hDc : va_D A (Wc τ) := va_D_mem.mpr ⟨hn0, fun q hq => hD.2 q (hC9 q hq)⟩
  have hFc : ∀ q, va_A (Wc τ) H.size q → A q := fun q hq => by
    rcases va_A_mem.mp hq with h | h
    · obtain ⟨⟨a9, e9⟩, h5, rfl⟩ := List.mem_map.mp h
      exact hD.2 _ (hC9 _ h5)
    · exact hA q (Nat.le_trans hS.1 h)
  refine va_callv (va_runS (As := [.ref b]) (rest := rest) ⟨hx, hb, hml, hown, hts⟩ (hM H.size) (va_cwS 1 hts hG hw hR.2.2.1 hR.2.2.2 hd ⟨hR.1, hR.2.1⟩) ⟨gPre_blind, fun U hU hW9 => ⟨rfl, by rw [hU], by rw [hU]; exact hPc, hK.movedW hW9, hDc.weaken (fun _ _ _ _ => trivial)⟩⟩ rfl rfl hl.1 rfl (lv_room hW) d ⟨hcs.1, hcs.2⟩) hS (fun q _ h => hFc q h) hFc (fun u t H1 locs1 ht hvm hw9 hB hz1 hk1 hS1 => ?_)
  subst hw9
  obtain ⟨hP1, hK1, hD1⟩ := hB
  rw [ht] at hP1
  have hwr : ∀ q ∈ wr, q.1 < H.size ∧ ¬ va_A (Wc τ) H.size q.1 := fun q hq => by
    have hl9 := (hP q (by rw [hws]; exact List.mem_append_left _ hq)).lt
    refine ⟨hl9, fun h7 => ?_⟩
    rcases va_A_mem.mp h7 with h8 | h8
    · exact hdis q hq h8
    · omega
  have hP2 : va_P D vwCl (wr ++ (Wc τ')) H1 := va_P_mem.mpr (fun q hq => by
    rcases List.mem_append.mp hq with h | h
    · exact (hP q (by rw [hws]; exact List.mem_append_left _ h)).kept (hk1 q.1 (hwr q h).1 (hwr q h).2)
    · exact va_P_mem.mp hP1 q h)
  have hD3 := va_D_mem.mp hD1
  have hD2 : va_D A (wr ++ (Wc τ')) := va_D_mem.mpr ⟨by
    rw [List.map_append, List.nodup_append]
    refine ⟨?_, hD3.1, fun a ha b hb e => ?_⟩
    · have := hD.1
      rw [hm, List.nodup_append] at this
      exact this.1
    · subst e
      obtain ⟨q, hq, rfl⟩ := List.mem_map.mp ha
      obtain ⟨q2, hq2, e2⟩ := List.mem_map.mp hb
      exact (hwr q hq).2 (by rw [← e2]; exact hD3.2 q2 hq2), fun q hq => by
    rcases List.mem_append.mp hq with h | h
    · exact hD.2 q (by rw [hws]; exact List.mem_append_left _ h)
    · exact hFc _ (hD3.2 q h)⟩
  exact kk H1 locs1 ls hP2 hD2 hS1 hl
end CR
