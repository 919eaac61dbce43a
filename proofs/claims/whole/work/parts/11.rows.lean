section GR
variable {R T : Type} {l : Launch} {rm : Room} {own : String} {cc : ByteArray} {Ts : List Cond} {nL : Nat} {D : va_G} {tys : List (ClassId × FieldType)} {Wf : T → va_W} {rt : ByteArray → R → Nat → List Value → T → Prop} {g : Option R → Nat → List (Nat × Value) → List Value → T → Prop} {x : Option R} {pc : Nat} {lv : List (Nat × Value)} {rest : List Value} {σ : T}
theorem g_iadd (C : gC l rm own cc Ts nL D tys Wf rt g) {a b : Int32} (d : decode cc pc = .ok (.iadd, 1)) (k : g x (pc + 1) lv (.int (a + b) :: rest) σ) : g x pc lv (.int b :: .int a :: rest) σ := by
  obtain ⟨p, e, s, m, args, below, meth, c, A, Q, res, hx, hb, hml, hown, hts, hK, hA, rfl, hret⟩ := C
  intro hres H locs ls hP hD hS hl
  exact lv_iadd hx hb d (k hres H locs ls hP hD hS hl)
theorem g_isub (C : gC l rm own cc Ts nL D tys Wf rt g) {a b : Int32} (d : decode cc pc = .ok (.isub, 1)) (k : g x (pc + 1) lv (.int (a - b) :: rest) σ) : g x pc lv (.int b :: .int a :: rest) σ := by
  obtain ⟨p, e, s, m, args, below, meth, c, A, Q, res, hx, hb, hml, hown, hts, hK, hA, rfl, hret⟩ := C
  intro hres H locs ls hP hD hS hl
  exact lv_isub hx hb d (k hres H locs ls hP hD hS hl)
theorem g_imul (C : gC l rm own cc Ts nL D tys Wf rt g) {a b : Int32} (d : decode cc pc = .ok (.imul, 1)) (k : g x (pc + 1) lv (.int (a * b) :: rest) σ) : g x pc lv (.int b :: .int a :: rest) σ := by
  obtain ⟨p, e, s, m, args, below, meth, c, A, Q, res, hx, hb, hml, hown, hts, hK, hA, rfl, hret⟩ := C
  intro hres H locs ls hP hD hS hl
  exact lv_imul hx hb d (k hres H locs ls hP hD hS hl)
theorem g_iand (C : gC l rm own cc Ts nL D tys Wf rt g) {a b : Int32} (d : decode cc pc = .ok (.iand, 1)) (k : g x (pc + 1) lv (.int (a &&& b) :: rest) σ) : g x pc lv (.int b :: .int a :: rest) σ := by
  obtain ⟨p, e, s, m, args, below, meth, c, A, Q, res, hx, hb, hml, hown, hts, hK, hA, rfl, hret⟩ := C
  intro hres H locs ls hP hD hS hl
  exact lv_iand hx hb d (k hres H locs ls hP hD hS hl)
theorem g_ior (C : gC l rm own cc Ts nL D tys Wf rt g) {a b : Int32} (d : decode cc pc = .ok (.ior, 1)) (k : g x (pc + 1) lv (.int (a ||| b) :: rest) σ) : g x pc lv (.int b :: .int a :: rest) σ := by
  obtain ⟨p, e, s, m, args, below, meth, c, A, Q, res, hx, hb, hml, hown, hts, hK, hA, rfl, hret⟩ := C
  intro hres H locs ls hP hD hS hl
  exact lv_ior hx hb d (k hres H locs ls hP hD hS hl)
theorem g_ixor (C : gC l rm own cc Ts nL D tys Wf rt g) {a b : Int32} (d : decode cc pc = .ok (.ixor, 1)) (k : g x (pc + 1) lv (.int (a ^^^ b) :: rest) σ) : g x pc lv (.int b :: .int a :: rest) σ := by
  obtain ⟨p, e, s, m, args, below, meth, c, A, Q, res, hx, hb, hml, hown, hts, hK, hA, rfl, hret⟩ := C
  intro hres H locs ls hP hD hS hl
  exact lv_ixor hx hb d (k hres H locs ls hP hD hS hl)
theorem g_ishl (C : gC l rm own cc Ts nL D tys Wf rt g) {a b : Int32} (d : decode cc pc = .ok (.ishl, 1)) (k : g x (pc + 1) lv (.int (a <<< (b &&& 31)) :: rest) σ) : g x pc lv (.int b :: .int a :: rest) σ := by
  obtain ⟨p, e, s, m, args, below, meth, c, A, Q, res, hx, hb, hml, hown, hts, hK, hA, rfl, hret⟩ := C
  intro hres H locs ls hP hD hS hl
  exact lv_ishl hx hb d (k hres H locs ls hP hD hS hl)
theorem g_ishr (C : gC l rm own cc Ts nL D tys Wf rt g) {a b : Int32} (d : decode cc pc = .ok (.ishr, 1)) (k : g x (pc + 1) lv (.int (a >>> (b &&& 31)) :: rest) σ) : g x pc lv (.int b :: .int a :: rest) σ := by
  obtain ⟨p, e, s, m, args, below, meth, c, A, Q, res, hx, hb, hml, hown, hts, hK, hA, rfl, hret⟩ := C
  intro hres H locs ls hP hD hS hl
  exact lv_ishr hx hb d (k hres H locs ls hP hD hS hl)
theorem g_idiv (C : gC l rm own cc Ts nL D tys Wf rt g) {a b : Int32} (d : decode cc pc = .ok (.idiv, 1)) (hne : ¬ b = 0) (k : g x (pc + 1) lv (.int (a / b) :: rest) σ) : g x pc lv (.int b :: .int a :: rest) σ := by
  obtain ⟨p, e, s, m, args, below, meth, c, A, Q, res, hx, hb, hml, hown, hts, hK, hA, rfl, hret⟩ := C
  intro hres H locs ls hP hD hS hl
  exact lv_idiv hx hb d hne (k hres H locs ls hP hD hS hl)
theorem g_irem (C : gC l rm own cc Ts nL D tys Wf rt g) {a b : Int32} (d : decode cc pc = .ok (.irem, 1)) (hne : ¬ b = 0) (k : g x (pc + 1) lv (.int (a - a / b * b) :: rest) σ) : g x pc lv (.int b :: .int a :: rest) σ := by
  obtain ⟨p, e, s, m, args, below, meth, c, A, Q, res, hx, hb, hml, hown, hts, hK, hA, rfl, hret⟩ := C
  intro hres H locs ls hP hD hS hl
  exact lv_irem hx hb d hne (k hres H locs ls hP hD hS hl)
theorem g_idivG (C : gC l rm own cc Ts nL D tys Wf rt g) {a b : Int32} (d : decode cc pc = .ok (.idiv, 1)) (k : g x (pc + 1) lv (.int (a / b) :: rest) σ) : g (gd (¬ b = 0) x) pc lv (.int b :: .int a :: rest) σ := by
  obtain ⟨p, e, s, m, args, below, meth, c, A, Q, res, hx, hb, hml, hown, hts, hK, hA, rfl, hret⟩ := C
  intro hres H locs ls hP hD hS hl
  by_cases h : b = 0
  · simp [gd, h] at hres
  · rw [gd, if_pos h] at hres
    exact lv_idiv hx hb d h (k hres H locs ls hP hD hS hl)
theorem g_iremG (C : gC l rm own cc Ts nL D tys Wf rt g) {a b : Int32} (d : decode cc pc = .ok (.irem, 1)) (k : g x (pc + 1) lv (.int (a - a / b * b) :: rest) σ) : g (gd (¬ b = 0) x) pc lv (.int b :: .int a :: rest) σ := by
  obtain ⟨p, e, s, m, args, below, meth, c, A, Q, res, hx, hb, hml, hown, hts, hK, hA, rfl, hret⟩ := C
  intro hres H locs ls hP hD hS hl
  by_cases h : b = 0
  · simp [gd, h] at hres
  · rw [gd, if_pos h] at hres
    exact lv_irem hx hb d h (k hres H locs ls hP hD hS hl)
theorem g_ineg (C : gC l rm own cc Ts nL D tys Wf rt g) {a : Int32} (d : decode cc pc = .ok (.ineg, 1)) (k : g x (pc + 1) lv (.int (-a) :: rest) σ) : g x pc lv (.int a :: rest) σ := by
  obtain ⟨p, e, s, m, args, below, meth, c, A, Q, res, hx, hb, hml, hown, hts, hK, hA, rfl, hret⟩ := C
  intro hres H locs ls hP hD hS hl
  exact lv_ineg hx hb d (k hres H locs ls hP hD hS hl)
theorem g_iushr (C : gC l rm own cc Ts nL D tys Wf rt g) {a b : Int32} (d : decode cc pc = .ok (.iushr, 1)) (k : g x (pc + 1) lv (.int ((a.toUInt32 >>> (b.toUInt32 &&& Int32.toUInt32 31)).toInt32) :: rest) σ) : g x pc lv (.int b :: .int a :: rest) σ := by
  obtain ⟨p, e, s, m, args, below, meth, c, A, Q, res, hx, hb, hml, hown, hts, hK, hA, rfl, hret⟩ := C
  intro hres H locs ls hP hD hS hl
  exact lv_iushr hx hb d rfl (k hres H locs ls hP hD hS hl)
theorem g_ladd (C : gC l rm own cc Ts nL D tys Wf rt g) {a b : Int64} (d : decode cc pc = .ok (.ladd, 1)) (k : g x (pc + 1) lv (.long (a + b) :: rest) σ) : g x pc lv (.long b :: .long a :: rest) σ := by
  obtain ⟨p, e, s, m, args, below, meth, c, A, Q, res, hx, hb, hml, hown, hts, hK, hA, rfl, hret⟩ := C
  intro hres H locs ls hP hD hS hl
  exact lv_ladd hx hb d (k hres H locs ls hP hD hS hl)
theorem g_lsub (C : gC l rm own cc Ts nL D tys Wf rt g) {a b : Int64} (d : decode cc pc = .ok (.lsub, 1)) (k : g x (pc + 1) lv (.long (a - b) :: rest) σ) : g x pc lv (.long b :: .long a :: rest) σ := by
  obtain ⟨p, e, s, m, args, below, meth, c, A, Q, res, hx, hb, hml, hown, hts, hK, hA, rfl, hret⟩ := C
  intro hres H locs ls hP hD hS hl
  exact lv_lsub hx hb d (k hres H locs ls hP hD hS hl)
theorem g_lmul (C : gC l rm own cc Ts nL D tys Wf rt g) {a b : Int64} (d : decode cc pc = .ok (.lmul, 1)) (k : g x (pc + 1) lv (.long (a * b) :: rest) σ) : g x pc lv (.long b :: .long a :: rest) σ := by
  obtain ⟨p, e, s, m, args, below, meth, c, A, Q, res, hx, hb, hml, hown, hts, hK, hA, rfl, hret⟩ := C
  intro hres H locs ls hP hD hS hl
  exact lv_lmul hx hb d (k hres H locs ls hP hD hS hl)
theorem g_land (C : gC l rm own cc Ts nL D tys Wf rt g) {a b : Int64} (d : decode cc pc = .ok (.land, 1)) (k : g x (pc + 1) lv (.long (a &&& b) :: rest) σ) : g x pc lv (.long b :: .long a :: rest) σ := by
  obtain ⟨p, e, s, m, args, below, meth, c, A, Q, res, hx, hb, hml, hown, hts, hK, hA, rfl, hret⟩ := C
  intro hres H locs ls hP hD hS hl
  exact lv_land hx hb d (k hres H locs ls hP hD hS hl)
theorem g_lor (C : gC l rm own cc Ts nL D tys Wf rt g) {a b : Int64} (d : decode cc pc = .ok (.lor, 1)) (k : g x (pc + 1) lv (.long (a ||| b) :: rest) σ) : g x pc lv (.long b :: .long a :: rest) σ := by
  obtain ⟨p, e, s, m, args, below, meth, c, A, Q, res, hx, hb, hml, hown, hts, hK, hA, rfl, hret⟩ := C
  intro hres H locs ls hP hD hS hl
  exact lv_lor hx hb d (k hres H locs ls hP hD hS hl)
theorem g_ldiv (C : gC l rm own cc Ts nL D tys Wf rt g) {a b : Int64} (d : decode cc pc = .ok (.ldiv, 1)) (hne : ¬ b = 0) (k : g x (pc + 1) lv (.long (a / b) :: rest) σ) : g x pc lv (.long b :: .long a :: rest) σ := by
  obtain ⟨p, e, s, m, args, below, meth, c, A, Q, res, hx, hb, hml, hown, hts, hK, hA, rfl, hret⟩ := C
  intro hres H locs ls hP hD hS hl
  exact lv_ldiv hx hb d hne (k hres H locs ls hP hD hS hl)
theorem g_ldivG (C : gC l rm own cc Ts nL D tys Wf rt g) {a b : Int64} (d : decode cc pc = .ok (.ldiv, 1)) (k : g x (pc + 1) lv (.long (a / b) :: rest) σ) : g (gd (¬ b = 0) x) pc lv (.long b :: .long a :: rest) σ := by
  obtain ⟨p, e, s, m, args, below, meth, c, A, Q, res, hx, hb, hml, hown, hts, hK, hA, rfl, hret⟩ := C
  intro hres H locs ls hP hD hS hl
  by_cases h : b = 0
  · simp [gd, h] at hres
  · rw [gd, if_pos h] at hres
    exact lv_ldiv hx hb d h (k hres H locs ls hP hD hS hl)
theorem g_lrem (C : gC l rm own cc Ts nL D tys Wf rt g) {a b : Int64} (d : decode cc pc = .ok (.lrem, 1)) (hne : ¬ b = 0) (k : g x (pc + 1) lv (.long (a - a / b * b) :: rest) σ) : g x pc lv (.long b :: .long a :: rest) σ := by
  obtain ⟨p, e, s, m, args, below, meth, c, A, Q, res, hx, hb, hml, hown, hts, hK, hA, rfl, hret⟩ := C
  intro hres H locs ls hP hD hS hl
  exact lv_lrem hx hb d hne (k hres H locs ls hP hD hS hl)
theorem g_lremG (C : gC l rm own cc Ts nL D tys Wf rt g) {a b : Int64} (d : decode cc pc = .ok (.lrem, 1)) (k : g x (pc + 1) lv (.long (a - a / b * b) :: rest) σ) : g (gd (¬ b = 0) x) pc lv (.long b :: .long a :: rest) σ := by
  obtain ⟨p, e, s, m, args, below, meth, c, A, Q, res, hx, hb, hml, hown, hts, hK, hA, rfl, hret⟩ := C
  intro hres H locs ls hP hD hS hl
  by_cases h : b = 0
  · simp [gd, h] at hres
  · rw [gd, if_pos h] at hres
    exact lv_lrem hx hb d h (k hres H locs ls hP hD hS hl)
theorem g_lushr (C : gC l rm own cc Ts nL D tys Wf rt g) {a : Int64} {b : Int32} (d : decode cc pc = .ok (.lushr, 1)) (k : g x (pc + 1) lv (.long ((a.toUInt64 >>> (b.toInt64.toUInt64 &&& Int64.toUInt64 63)).toInt64) :: rest) σ) : g x pc lv (.int b :: .long a :: rest) σ := by
  obtain ⟨p, e, s, m, args, below, meth, c, A, Q, res, hx, hb, hml, hown, hts, hK, hA, rfl, hret⟩ := C
  intro hres H locs ls hP hD hS hl
  exact lv_lushr hx hb d rfl (k hres H locs ls hP hD hS hl)
theorem g_lshl (C : gC l rm own cc Ts nL D tys Wf rt g) {a : Int64} {b : Int32} (d : decode cc pc = .ok (.lshl, 1)) (k : g x (pc + 1) lv (.long (a <<< (b.toInt64 &&& 63)) :: rest) σ) : g x pc lv (.int b :: .long a :: rest) σ := by
  obtain ⟨p, e, s, m, args, below, meth, c, A, Q, res, hx, hb, hml, hown, hts, hK, hA, rfl, hret⟩ := C
  intro hres H locs ls hP hD hS hl
  exact lv_lshl hx hb d rfl (k hres H locs ls hP hD hS hl)
theorem g_l2i (C : gC l rm own cc Ts nL D tys Wf rt g) {a : Int64} (d : decode cc pc = .ok (.l2i, 1)) (k : g x (pc + 1) lv (.int a.toInt32 :: rest) σ) : g x pc lv (.long a :: rest) σ := by
  obtain ⟨p, e, s, m, args, below, meth, c, A, Q, res, hx, hb, hml, hown, hts, hK, hA, rfl, hret⟩ := C
  intro hres H locs ls hP hD hS hl
  exact lv_l2i hx hb d rfl (k hres H locs ls hP hD hS hl)
theorem g_i2l (C : gC l rm own cc Ts nL D tys Wf rt g) {a : Int32} (d : decode cc pc = .ok (.i2l, 1)) (k : g x (pc + 1) lv (.long a.toInt64 :: rest) σ) : g x pc lv (.int a :: rest) σ := by
  obtain ⟨p, e, s, m, args, below, meth, c, A, Q, res, hx, hb, hml, hown, hts, hK, hA, rfl, hret⟩ := C
  intro hres H locs ls hP hD hS hl
  exact lv_i2l hx hb d rfl (k hres H locs ls hP hD hS hl)
theorem g_i2c (C : gC l rm own cc Ts nL D tys Wf rt g) {a : Int32} (d : decode cc pc = .ok (.i2c, 1)) (k : g x (pc + 1) lv (.int ((a.toUInt32 % 65536).toInt32) :: rest) σ) : g x pc lv (.int a :: rest) σ := by
  obtain ⟨p, e, s, m, args, below, meth, c, A, Q, res, hx, hb, hml, hown, hts, hK, hA, rfl, hret⟩ := C
  intro hres H locs ls hP hD hS hl
  exact lv_i2c hx hb d rfl (k hres H locs ls hP hD hS hl)
theorem g_lcmp (C : gC l rm own cc Ts nL D tys Wf rt g) {a b : Int64} (d : decode cc pc = .ok (.lcmp, 1)) (k : g x (pc + 1) lv (.int (lg_cmp a b) :: rest) σ) : g x pc lv (.long b :: .long a :: rest) σ := by
  obtain ⟨p, e, s, m, args, below, meth, c, A, Q, res, hx, hb, hml, hown, hts, hK, hA, rfl, hret⟩ := C
  intro hres H locs ls hP hD hS hl
  exact W.lcmp hx hb d (k hres H locs ls hP hD hS hl)
theorem g_iconst (C : gC l rm own cc Ts nL D tys Wf rt g) {n : Int} {v : Int32} (d : decode cc pc = .ok (.iconst n, 1)) (hv : Int32.ofInt n = v) (k : g x (pc + 1) lv (.int v :: rest) σ) : g x pc lv rest σ := by
  obtain ⟨p, e, s, m, args, below, meth, c, A, Q, res, hx, hb, hml, hown, hts, hK, hA, rfl, hret⟩ := C
  intro hres H locs ls hP hD hS hl
  exact lv_iconst hx hb d hv (k hres H locs ls hP hD hS hl)
theorem g_bipush (C : gC l rm own cc Ts nL D tys Wf rt g) {n : Int} {v : Int32} (d : decode cc pc = .ok (.bipush n, 2)) (hv : (Int8.ofInt n).toInt32 = v) (k : g x (pc + 2) lv (.int v :: rest) σ) : g x pc lv rest σ := by
  obtain ⟨p, e, s, m, args, below, meth, c, A, Q, res, hx, hb, hml, hown, hts, hK, hA, rfl, hret⟩ := C
  intro hres H locs ls hP hD hS hl
  exact lv_bipush hx hb d hv (k hres H locs ls hP hD hS hl)
theorem g_sipush (C : gC l rm own cc Ts nL D tys Wf rt g) {n : Int} {v : Int32} (d : decode cc pc = .ok (.sipush n, 3)) (hv : (Int16.ofInt n).toInt32 = v) (k : g x (pc + 3) lv (.int v :: rest) σ) : g x pc lv rest σ := by
  obtain ⟨p, e, s, m, args, below, meth, c, A, Q, res, hx, hb, hml, hown, hts, hK, hA, rfl, hret⟩ := C
  intro hres H locs ls hP hD hS hl
  exact lv_sipush hx hb d hv (k hres H locs ls hP hD hS hl)
theorem g_lconst (C : gC l rm own cc Ts nL D tys Wf rt g) {n : Fin 2} {v : Int64} (d : decode cc pc = .ok (.lconst n, 1)) (hv : Int64.ofNat (n : Nat) = v) (k : g x (pc + 1) lv (.long v :: rest) σ) : g x pc lv rest σ := by
  obtain ⟨p, e, s, m, args, below, meth, c, A, Q, res, hx, hb, hml, hown, hts, hK, hA, rfl, hret⟩ := C
  intro hres H locs ls hP hD hS hl
  exact lv_lconst hx hb d hv (k hres H locs ls hP hD hS hl)
theorem g_ldc (C : gC l rm own cc Ts nL D tys Wf rt g) {index : Nat} {v : Int32} (hw : Cond.constant own index v ∈ Ts) (d : decode cc pc = .ok (.ldc index, 2)) (k : g x (pc + 2) lv (.int v :: rest) σ) : g x pc lv rest σ := by
  obtain ⟨p, e, s, m, args, below, meth, c, A, Q, res, hx, hb, hml, hown, hts, hK, hA, rfl, hret⟩ := C
  intro hres H locs ls hP hD hS hl
  exact lv_ldc hx hb hown (hts _ hw) d (k hres H locs ls hP hD hS hl)
theorem g_ldc2 (C : gC l rm own cc Ts nL D tys Wf rt g) {index : Nat} {v : Int64} (hw : Cond.constantLong own index v ∈ Ts) (d : decode cc pc = .ok (.ldc2_w index, 3)) (k : g x (pc + 3) lv (.long v :: rest) σ) : g x pc lv rest σ := by
  obtain ⟨p, e, s, m, args, below, meth, c, A, Q, res, hx, hb, hml, hown, hts, hK, hA, rfl, hret⟩ := C
  intro hres H locs ls hP hD hS hl
  exact lv_ldc2 hx hb hown (hts _ hw) d (k hres H locs ls hP hD hS hl)
theorem g_iload_n (C : gC l rm own cc Ts nL D tys Wf rt g) {q : Fin 4} {i : Nat} {v : Int32} (j : Nat) (d : decode cc pc = .ok (.iload_n q, 1)) (hi : (q : Nat) = i) (hj : lv[j]? = some (i, .int v)) (k : g x (pc + 1) lv (.int v :: rest) σ) : g x pc lv rest σ := by
  obtain ⟨p, e, s, m, args, below, meth, c, A, Q, res, hx, hb, hml, hown, hts, hK, hA, rfl, hret⟩ := C
  intro hres H locs ls hP hD hS hl
  exact lv_iload_n hx hb d hi (lv_at hl j hj) (k hres H locs ls hP hD hS hl)
theorem g_iload (C : gC l rm own cc Ts nL D tys Wf rt g) {i : Nat} {v : Int32} (j : Nat) (d : decode cc pc = .ok (.iload i, 2)) (hj : lv[j]? = some (i, .int v)) (k : g x (pc + 2) lv (.int v :: rest) σ) : g x pc lv rest σ := by
  obtain ⟨p, e, s, m, args, below, meth, c, A, Q, res, hx, hb, hml, hown, hts, hK, hA, rfl, hret⟩ := C
  intro hres H locs ls hP hD hS hl
  exact lv_iload hx hb d (lv_at hl j hj) (k hres H locs ls hP hD hS hl)
theorem g_lload_n (C : gC l rm own cc Ts nL D tys Wf rt g) {q : Fin 4} {i : Nat} {v : Int64} (j : Nat) (d : decode cc pc = .ok (.lload_n q, 1)) (hi : (q : Nat) = i) (hj : lv[j]? = some (i, .long v)) (k : g x (pc + 1) lv (.long v :: rest) σ) : g x pc lv rest σ := by
  obtain ⟨p, e, s, m, args, below, meth, c, A, Q, res, hx, hb, hml, hown, hts, hK, hA, rfl, hret⟩ := C
  intro hres H locs ls hP hD hS hl
  exact lv_lload_n hx hb d hi (lv_at hl j hj) (k hres H locs ls hP hD hS hl)
theorem g_lload (C : gC l rm own cc Ts nL D tys Wf rt g) {i : Nat} {v : Int64} (j : Nat) (d : decode cc pc = .ok (.lload i, 2)) (hj : lv[j]? = some (i, .long v)) (k : g x (pc + 2) lv (.long v :: rest) σ) : g x pc lv rest σ := by
  obtain ⟨p, e, s, m, args, below, meth, c, A, Q, res, hx, hb, hml, hown, hts, hK, hA, rfl, hret⟩ := C
  intro hres H locs ls hP hD hS hl
  exact lv_lload hx hb d (lv_at hl j hj) (k hres H locs ls hP hD hS hl)
theorem g_aload_n (C : gC l rm own cc Ts nL D tys Wf rt g) {q : Fin 4} {i : Nat} {v : Nat} (j : Nat) (d : decode cc pc = .ok (.aload_n q, 1)) (hi : (q : Nat) = i) (hj : lv[j]? = some (i, .ref v)) (k : g x (pc + 1) lv (.ref v :: rest) σ) : g x pc lv rest σ := by
  obtain ⟨p, e, s, m, args, below, meth, c, A, Q, res, hx, hb, hml, hown, hts, hK, hA, rfl, hret⟩ := C
  intro hres H locs ls hP hD hS hl
  exact lv_aload_n hx hb d hi (lv_at hl j hj) (k hres H locs ls hP hD hS hl)
theorem g_aload (C : gC l rm own cc Ts nL D tys Wf rt g) {i : Nat} {v : Nat} (j : Nat) (d : decode cc pc = .ok (.aload i, 2)) (hj : lv[j]? = some (i, .ref v)) (k : g x (pc + 2) lv (.ref v :: rest) σ) : g x pc lv rest σ := by
  obtain ⟨p, e, s, m, args, below, meth, c, A, Q, res, hx, hb, hml, hown, hts, hK, hA, rfl, hret⟩ := C
  intro hres H locs ls hP hD hS hl
  exact lv_aload hx hb d (lv_at hl j hj) (k hres H locs ls hP hD hS hl)
theorem g_istore_n (C : gC l rm own cc Ts nL D tys Wf rt g) {q : Fin 4} {i : Nat} {v : Int32} {lv' : List (Nat × Value)} (d : decode cc pc = .ok (.istore_n q, 1)) (hi : (q : Nat) = i) (hn : i < nL) (hl2 : (i, Value.int v) :: lv.filter (fun q => !(q.1 == i) && !(q.1 + 1 == i && q.2.category == 2)) = lv') (k : g x (pc + 1) lv' rest σ) : g x pc lv (.int v :: rest) σ := by
  obtain ⟨p, e, s, m, args, below, meth, c, A, Q, res, hx, hb, hml, hown, hts, hK, hA, rfl, hret⟩ := C
  intro hres H locs ls hP hD hS hl
  exact lv_istore_n hx hb d hi hl hn hl2 (fun ls' hl' => k hres H locs ls' hP hD hS hl')
theorem g_istore (C : gC l rm own cc Ts nL D tys Wf rt g) {i : Nat} {v : Int32} {lv' : List (Nat × Value)} (d : decode cc pc = .ok (.istore i, 2)) (hn : i < nL) (hl2 : (i, Value.int v) :: lv.filter (fun q => !(q.1 == i) && !(q.1 + 1 == i && q.2.category == 2)) = lv') (k : g x (pc + 2) lv' rest σ) : g x pc lv (.int v :: rest) σ := by
  obtain ⟨p, e, s, m, args, below, meth, c, A, Q, res, hx, hb, hml, hown, hts, hK, hA, rfl, hret⟩ := C
  intro hres H locs ls hP hD hS hl
  exact lv_istore hx hb d hl hn hl2 (fun ls' hl' => k hres H locs ls' hP hD hS hl')
theorem g_astore_n (C : gC l rm own cc Ts nL D tys Wf rt g) {q : Fin 4} {i : Nat} {v : Nat} {lv' : List (Nat × Value)} (d : decode cc pc = .ok (.astore_n q, 1)) (hi : (q : Nat) = i) (hn : i < nL) (hl2 : (i, Value.ref v) :: lv.filter (fun q => !(q.1 == i) && !(q.1 + 1 == i && q.2.category == 2)) = lv') (k : g x (pc + 1) lv' rest σ) : g x pc lv (.ref v :: rest) σ := by
  obtain ⟨p, e, s, m, args, below, meth, c, A, Q, res, hx, hb, hml, hown, hts, hK, hA, rfl, hret⟩ := C
  intro hres H locs ls hP hD hS hl
  exact lv_astore_n hx hb d hi hl hn hl2 (fun ls' hl' => k hres H locs ls' hP hD hS hl')
theorem g_astore (C : gC l rm own cc Ts nL D tys Wf rt g) {i : Nat} {v : Nat} {lv' : List (Nat × Value)} (d : decode cc pc = .ok (.astore i, 2)) (hn : i < nL) (hl2 : (i, Value.ref v) :: lv.filter (fun q => !(q.1 == i) && !(q.1 + 1 == i && q.2.category == 2)) = lv') (k : g x (pc + 2) lv' rest σ) : g x pc lv (.ref v :: rest) σ := by
  obtain ⟨p, e, s, m, args, below, meth, c, A, Q, res, hx, hb, hml, hown, hts, hK, hA, rfl, hret⟩ := C
  intro hres H locs ls hP hD hS hl
  exact lv_astore hx hb d hl hn hl2 (fun ls' hl' => k hres H locs ls' hP hD hS hl')
theorem g_lstore_n (C : gC l rm own cc Ts nL D tys Wf rt g) {q : Fin 4} {i : Nat} {v : Int64} {lv' : List (Nat × Value)} (d : decode cc pc = .ok (.lstore_n q, 1)) (hi : (q : Nat) = i) (hn : i + 1 < nL) (hl2 : (i, Value.long v) :: lv.filter (fun q => !(q.1 == i) && (!(q.1 == i + 1) && !(q.1 + 1 == i && q.2.category == 2))) = lv') (k : g x (pc + 1) lv' rest σ) : g x pc lv (.long v :: rest) σ := by
  obtain ⟨p, e, s, m, args, below, meth, c, A, Q, res, hx, hb, hml, hown, hts, hK, hA, rfl, hret⟩ := C
  intro hres H locs ls hP hD hS hl
  exact lv_lstore_n hx hb d hi hl hn hl2 (fun ls' hl' => k hres H locs ls' hP hD hS hl')
theorem g_lstore (C : gC l rm own cc Ts nL D tys Wf rt g) {i : Nat} {v : Int64} {lv' : List (Nat × Value)} (d : decode cc pc = .ok (.lstore i, 2)) (hn : i + 1 < nL) (hl2 : (i, Value.long v) :: lv.filter (fun q => !(q.1 == i) && (!(q.1 == i + 1) && !(q.1 + 1 == i && q.2.category == 2))) = lv') (k : g x (pc + 2) lv' rest σ) : g x pc lv (.long v :: rest) σ := by
  obtain ⟨p, e, s, m, args, below, meth, c, A, Q, res, hx, hb, hml, hown, hts, hK, hA, rfl, hret⟩ := C
  intro hres H locs ls hP hD hS hl
  exact lv_lstore hx hb d hl hn hl2 (fun ls' hl' => k hres H locs ls' hP hD hS hl')
theorem g_iinc (C : gC l rm own cc Ts nL D tys Wf rt g) {i : Nat} {n : Int} {v w : Int32} {lv' : List (Nat × Value)} (j : Nat) (d : decode cc pc = .ok (.iinc i n, 3)) (hj : lv[j]? = some (i, .int v)) (hw : Int32.ofInt n = w) (hn : i < nL) (hl2 : (i, Value.int (v + w)) :: lv.filter (fun q => !(q.1 == i) && !(q.1 + 1 == i && q.2.category == 2)) = lv') (k : g x (pc + 3) lv' rest σ) : g x pc lv rest σ := by
  obtain ⟨p, e, s, m, args, below, meth, c, A, Q, res, hx, hb, hml, hown, hts, hK, hA, rfl, hret⟩ := C
  intro hres H locs ls hP hD hS hl
  exact lv_iinc hx hb d hl hj (by rw [hw]) hn hl2 (fun ls' hl' => k hres H locs ls' hP hD hS hl')
theorem g_dup (C : gC l rm own cc Ts nL D tys Wf rt g) {v : Value} (d : decode cc pc = .ok (.dup, 1)) (hv : v.category = 1) (k : g x (pc + 1) lv (v :: v :: rest) σ) : g x pc lv (v :: rest) σ := by
  obtain ⟨p, e, s, m, args, below, meth, c, A, Q, res, hx, hb, hml, hown, hts, hK, hA, rfl, hret⟩ := C
  intro hres H locs ls hP hD hS hl
  exact lv_dup hx hb d hv (k hres H locs ls hP hD hS hl)
theorem g_dup2 (C : gC l rm own cc Ts nL D tys Wf rt g) {v w : Value} (d : decode cc pc = .ok (.dup2, 1)) (hv : v.category = 1) (hw : w.category = 1) (k : g x (pc + 1) lv (v :: w :: v :: w :: rest) σ) : g x pc lv (v :: w :: rest) σ := by
  obtain ⟨p, e, s, m, args, below, meth, c, A, Q, res, hx, hb, hml, hown, hts, hK, hA, rfl, hret⟩ := C
  intro hres H locs ls hP hD hS hl
  exact lv_dup2_11 hx hb d hv hw (k hres H locs ls hP hD hS hl)
theorem g_dup_x1 (C : gC l rm own cc Ts nL D tys Wf rt g) {v w : Value} (d : decode cc pc = .ok (.dup_x1, 1)) (hv : v.category = 1) (hw : w.category = 1) (k : g x (pc + 1) lv (v :: w :: v :: rest) σ) : g x pc lv (v :: w :: rest) σ := by
  obtain ⟨p, e, s, m, args, below, meth, c, A, Q, res, hx, hb, hml, hown, hts, hK, hA, rfl, hret⟩ := C
  intro hres H locs ls hP hD hS hl
  exact lv_dup_x1 hx hb d hv hw (k hres H locs ls hP hD hS hl)
theorem g_pop (C : gC l rm own cc Ts nL D tys Wf rt g) {v : Value} (d : decode cc pc = .ok (.pop, 1)) (hv : v.category = 1) (k : g x (pc + 1) lv rest σ) : g x pc lv (v :: rest) σ := by
  obtain ⟨p, e, s, m, args, below, meth, c, A, Q, res, hx, hb, hml, hown, hts, hK, hA, rfl, hret⟩ := C
  intro hres H locs ls hP hD hS hl
  exact lv_pop hx hb d hv (k hres H locs ls hP hD hS hl)
theorem g_if_eq (C : gC l rm own cc Ts nL D tys Wf rt g) {v : Int32} {y : Option R} {off : Int} (tgt : Nat) (d : decode cc pc = .ok (.ifCond .eq off, 3)) (ht : (pc : Int) + off = (tgt : Int)) (kt : v = 0 → g x tgt lv rest σ) (kf : ¬ (v = 0) → g y (pc + 3) lv rest σ) : g (if v = 0 then x else y) pc lv (.int v :: rest) σ := by
  obtain ⟨p, e, s, m, args, below, meth, c, A, Q, res, hx, hb, hml, hown, hts, hK, hA, rfl, hret⟩ := C
  intro hres H locs ls hP hD hS hl
  exact lv_if_eq hx hb d ht (fun h => kt h (by rw [if_pos h] at hres; exact hres) H locs ls hP hD hS hl) (fun h => kf h (by rw [if_neg h] at hres; exact hres) H locs ls hP hD hS hl)
theorem g_if_ne (C : gC l rm own cc Ts nL D tys Wf rt g) {v : Int32} {y : Option R} {off : Int} (tgt : Nat) (d : decode cc pc = .ok (.ifCond .ne off, 3)) (ht : (pc : Int) + off = (tgt : Int)) (kt : v = 0 → g x (pc + 3) lv rest σ) (kf : ¬ v = 0 → g y tgt lv rest σ) : g (if v = 0 then x else y) pc lv (.int v :: rest) σ := by
  obtain ⟨p, e, s, m, args, below, meth, c, A, Q, res, hx, hb, hml, hown, hts, hK, hA, rfl, hret⟩ := C
  intro hres H locs ls hP hD hS hl
  exact lv_if_ne hx hb d ht (fun h => kf h (by rw [if_neg h] at hres; exact hres) H locs ls hP hD hS hl) (fun h => kt h (by rw [if_pos h] at hres; exact hres) H locs ls hP hD hS hl)
theorem g_if_lt (C : gC l rm own cc Ts nL D tys Wf rt g) {v : Int32} {y : Option R} {off : Int} (tgt : Nat) (d : decode cc pc = .ok (.ifCond .lt off, 3)) (ht : (pc : Int) + off = (tgt : Int)) (kt : v < 0 → g x tgt lv rest σ) (kf : ¬ (v < 0) → g y (pc + 3) lv rest σ) : g (if v < 0 then x else y) pc lv (.int v :: rest) σ := by
  obtain ⟨p, e, s, m, args, below, meth, c, A, Q, res, hx, hb, hml, hown, hts, hK, hA, rfl, hret⟩ := C
  intro hres H locs ls hP hD hS hl
  exact lv_if_lt hx hb d ht (fun h => kt h (by rw [if_pos h] at hres; exact hres) H locs ls hP hD hS hl) (fun h => kf h (by rw [if_neg h] at hres; exact hres) H locs ls hP hD hS hl)
theorem g_if_ge (C : gC l rm own cc Ts nL D tys Wf rt g) {v : Int32} {y : Option R} {off : Int} (tgt : Nat) (d : decode cc pc = .ok (.ifCond .ge off, 3)) (ht : (pc : Int) + off = (tgt : Int)) (kt : 0 ≤ v → g x tgt lv rest σ) (kf : ¬ (0 ≤ v) → g y (pc + 3) lv rest σ) : g (if 0 ≤ v then x else y) pc lv (.int v :: rest) σ := by
  obtain ⟨p, e, s, m, args, below, meth, c, A, Q, res, hx, hb, hml, hown, hts, hK, hA, rfl, hret⟩ := C
  intro hres H locs ls hP hD hS hl
  exact lv_if_ge hx hb d ht (fun h => kt h (by rw [if_pos h] at hres; exact hres) H locs ls hP hD hS hl) (fun h => kf h (by rw [if_neg h] at hres; exact hres) H locs ls hP hD hS hl)
theorem g_if_gt (C : gC l rm own cc Ts nL D tys Wf rt g) {v : Int32} {y : Option R} {off : Int} (tgt : Nat) (d : decode cc pc = .ok (.ifCond .gt off, 3)) (ht : (pc : Int) + off = (tgt : Int)) (kt : 0 < v → g x tgt lv rest σ) (kf : ¬ (0 < v) → g y (pc + 3) lv rest σ) : g (if 0 < v then x else y) pc lv (.int v :: rest) σ := by
  obtain ⟨p, e, s, m, args, below, meth, c, A, Q, res, hx, hb, hml, hown, hts, hK, hA, rfl, hret⟩ := C
  intro hres H locs ls hP hD hS hl
  exact lv_if_gt hx hb d ht (fun h => kt h (by rw [if_pos h] at hres; exact hres) H locs ls hP hD hS hl) (fun h => kf h (by rw [if_neg h] at hres; exact hres) H locs ls hP hD hS hl)
theorem g_if_le (C : gC l rm own cc Ts nL D tys Wf rt g) {v : Int32} {y : Option R} {off : Int} (tgt : Nat) (d : decode cc pc = .ok (.ifCond .le off, 3)) (ht : (pc : Int) + off = (tgt : Int)) (kt : v ≤ 0 → g x tgt lv rest σ) (kf : ¬ (v ≤ 0) → g y (pc + 3) lv rest σ) : g (if v ≤ 0 then x else y) pc lv (.int v :: rest) σ := by
  obtain ⟨p, e, s, m, args, below, meth, c, A, Q, res, hx, hb, hml, hown, hts, hK, hA, rfl, hret⟩ := C
  intro hres H locs ls hP hD hS hl
  exact lv_if_le hx hb d ht (fun h => kt h (by rw [if_pos h] at hres; exact hres) H locs ls hP hD hS hl) (fun h => kf h (by rw [if_neg h] at hres; exact hres) H locs ls hP hD hS hl)
theorem g_icmp_eq (C : gC l rm own cc Ts nL D tys Wf rt g) {v w : Int32} {y : Option R} {off : Int} (tgt : Nat) (d : decode cc pc = .ok (.if_icmp .eq off, 3)) (ht : (pc : Int) + off = (tgt : Int)) (kt : v = w → g x tgt lv rest σ) (kf : ¬ (v = w) → g y (pc + 3) lv rest σ) : g (if v = w then x else y) pc lv (.int w :: .int v :: rest) σ := by
  obtain ⟨p, e, s, m, args, below, meth, c, A, Q, res, hx, hb, hml, hown, hts, hK, hA, rfl, hret⟩ := C
  intro hres H locs ls hP hD hS hl
  exact lv_icmp_eq hx hb d ht (fun h => kt h (by rw [if_pos h] at hres; exact hres) H locs ls hP hD hS hl) (fun h => kf h (by rw [if_neg h] at hres; exact hres) H locs ls hP hD hS hl)
theorem g_icmp_ne (C : gC l rm own cc Ts nL D tys Wf rt g) {v w : Int32} {y : Option R} {off : Int} (tgt : Nat) (d : decode cc pc = .ok (.if_icmp .ne off, 3)) (ht : (pc : Int) + off = (tgt : Int)) (kt : v = w → g x (pc + 3) lv rest σ) (kf : ¬ v = w → g y tgt lv rest σ) : g (if v = w then x else y) pc lv (.int w :: .int v :: rest) σ := by
  obtain ⟨p, e, s, m, args, below, meth, c, A, Q, res, hx, hb, hml, hown, hts, hK, hA, rfl, hret⟩ := C
  intro hres H locs ls hP hD hS hl
  exact lv_icmp_ne hx hb d ht (fun h => kf h (by rw [if_neg h] at hres; exact hres) H locs ls hP hD hS hl) (fun h => kt h (by rw [if_pos h] at hres; exact hres) H locs ls hP hD hS hl)
theorem g_icmp_lt (C : gC l rm own cc Ts nL D tys Wf rt g) {v w : Int32} {y : Option R} {off : Int} (tgt : Nat) (d : decode cc pc = .ok (.if_icmp .lt off, 3)) (ht : (pc : Int) + off = (tgt : Int)) (kt : v < w → g x tgt lv rest σ) (kf : ¬ (v < w) → g y (pc + 3) lv rest σ) : g (if v < w then x else y) pc lv (.int w :: .int v :: rest) σ := by
  obtain ⟨p, e, s, m, args, below, meth, c, A, Q, res, hx, hb, hml, hown, hts, hK, hA, rfl, hret⟩ := C
  intro hres H locs ls hP hD hS hl
  exact lv_icmp_lt hx hb d ht (fun h => kt h (by rw [if_pos h] at hres; exact hres) H locs ls hP hD hS hl) (fun h => kf h (by rw [if_neg h] at hres; exact hres) H locs ls hP hD hS hl)
theorem g_icmp_ge (C : gC l rm own cc Ts nL D tys Wf rt g) {v w : Int32} {y : Option R} {off : Int} (tgt : Nat) (d : decode cc pc = .ok (.if_icmp .ge off, 3)) (ht : (pc : Int) + off = (tgt : Int)) (kt : w ≤ v → g x tgt lv rest σ) (kf : ¬ (w ≤ v) → g y (pc + 3) lv rest σ) : g (if w ≤ v then x else y) pc lv (.int w :: .int v :: rest) σ := by
  obtain ⟨p, e, s, m, args, below, meth, c, A, Q, res, hx, hb, hml, hown, hts, hK, hA, rfl, hret⟩ := C
  intro hres H locs ls hP hD hS hl
  exact lv_icmp_ge hx hb d ht (fun h => kt h (by rw [if_pos h] at hres; exact hres) H locs ls hP hD hS hl) (fun h => kf h (by rw [if_neg h] at hres; exact hres) H locs ls hP hD hS hl)
theorem g_icmp_gt (C : gC l rm own cc Ts nL D tys Wf rt g) {v w : Int32} {y : Option R} {off : Int} (tgt : Nat) (d : decode cc pc = .ok (.if_icmp .gt off, 3)) (ht : (pc : Int) + off = (tgt : Int)) (kt : w < v → g x tgt lv rest σ) (kf : ¬ (w < v) → g y (pc + 3) lv rest σ) : g (if w < v then x else y) pc lv (.int w :: .int v :: rest) σ := by
  obtain ⟨p, e, s, m, args, below, meth, c, A, Q, res, hx, hb, hml, hown, hts, hK, hA, rfl, hret⟩ := C
  intro hres H locs ls hP hD hS hl
  exact lv_icmp_gt hx hb d ht (fun h => kt h (by rw [if_pos h] at hres; exact hres) H locs ls hP hD hS hl) (fun h => kf h (by rw [if_neg h] at hres; exact hres) H locs ls hP hD hS hl)
theorem g_icmp_le (C : gC l rm own cc Ts nL D tys Wf rt g) {v w : Int32} {y : Option R} {off : Int} (tgt : Nat) (d : decode cc pc = .ok (.if_icmp .le off, 3)) (ht : (pc : Int) + off = (tgt : Int)) (kt : v ≤ w → g x tgt lv rest σ) (kf : ¬ (v ≤ w) → g y (pc + 3) lv rest σ) : g (if v ≤ w then x else y) pc lv (.int w :: .int v :: rest) σ := by
  obtain ⟨p, e, s, m, args, below, meth, c, A, Q, res, hx, hb, hml, hown, hts, hK, hA, rfl, hret⟩ := C
  intro hres H locs ls hP hD hS hl
  exact lv_icmp_le hx hb d ht (fun h => kt h (by rw [if_pos h] at hres; exact hres) H locs ls hP hD hS hl) (fun h => kf h (by rw [if_neg h] at hres; exact hres) H locs ls hP hD hS hl)
theorem g_goto (C : gC l rm own cc Ts nL D tys Wf rt g) {off : Int} (tgt : Nat) (d : decode cc pc = .ok (.goto off, 3)) (ht : (pc : Int) + off = (tgt : Int)) (k : g x tgt lv rest σ) : g x pc lv rest σ := by
  obtain ⟨p, e, s, m, args, below, meth, c, A, Q, res, hx, hb, hml, hown, hts, hK, hA, rfl, hret⟩ := C
  intro hres H locs ls hP hD hS hl
  exact lv_goto hx hb d ht (k hres H locs ls hP hD hS hl)
theorem g_tcase (C : gC l rm own cc Ts nL D tys Wf rt g) {v : Int32} {y : Option R} {dflt lo hi off : Int} {offs : Array Int} {len : Nat} (tgt : Nat) (w : Int32) (d : decode cc pc = .ok (.tableswitch dflt lo hi offs, len)) (h1 : ¬ w.toInt < lo) (h2 : ¬ hi < w.toInt) (ho : offs[(w.toInt - lo).toNat]? = some off) (ht : (pc : Int) + off = (tgt : Int)) (kt : v = w → g x tgt lv rest σ) (kf : ¬ v = w → g y pc lv (.int v :: rest) σ) : g (if v = w then x else y) pc lv (.int v :: rest) σ := by
  obtain ⟨p, e, s, m, args, below, meth, c, A, Q, res, hx, hb, hml, hown, hts, hK, hA, rfl, hret⟩ := C
  intro hres H locs ls hP hD hS hl
  by_cases h : v = w
  · rw [if_pos h] at hres
    have k := kt h
    rw [← h] at h1 h2 ho
    exact lv_tableIn hx hb d h1 h2 ho ht (k hres H locs ls hP hD hS hl)
  · rw [if_neg h] at hres
    exact kf h hres H locs ls hP hD hS hl
theorem g_tdef (C : gC l rm own cc Ts nL D tys Wf rt g) {v : Int32} {dflt lo hi : Int} {offs : Array Int} {len : Nat} (tgt : Nat) (d : decode cc pc = .ok (.tableswitch dflt lo hi offs, len)) (h : v.toInt < lo ∨ hi < v.toInt) (ht : (pc : Int) + dflt = (tgt : Int)) (k : g x tgt lv rest σ) : g x pc lv (.int v :: rest) σ := by
  obtain ⟨p, e, s, m, args, below, meth, c, A, Q, res, hx, hb, hml, hown, hts, hK, hA, rfl, hret⟩ := C
  intro hres H locs ls hP hD hS hl
  exact lv_tableOut hx hb d h ht (k hres H locs ls hP hD hS hl)
theorem g_lcase (C : gC l rm own cc Ts nL D tys Wf rt g) {v : Int32} {y : Option R} {dflt off : Int} {ps : Array (Int × Int)} {len : Nat} (tgt : Nat) (w : Int32) (d : decode cc pc = .ok (.lookupswitch dflt ps, len)) (hp : (ps.toList.zip (ps.toList.drop 1)).all (fun (a, next) => a.1 < next.1) = true) (ho : Op.lookupswitch.offset ps.toList dflt w.toInt = off) (ht : (pc : Int) + off = (tgt : Int)) (kt : v = w → g x tgt lv rest σ) (kf : ¬ v = w → g y pc lv (.int v :: rest) σ) : g (if v = w then x else y) pc lv (.int v :: rest) σ := by
  obtain ⟨p, e, s, m, args, below, meth, c, A, Q, res, hx, hb, hml, hown, hts, hK, hA, rfl, hret⟩ := C
  intro hres H locs ls hP hD hS hl
  by_cases h : v = w
  · rw [if_pos h] at hres
    have k := kt h
    rw [← h] at ho
    exact lv_lookup hx hb d hp ho ht (k hres H locs ls hP hD hS hl)
  · rw [if_neg h] at hres
    exact kf h hres H locs ls hP hD hS hl
theorem g_ldef (C : gC l rm own cc Ts nL D tys Wf rt g) {v : Int32} {dflt : Int} {ps : Array (Int × Int)} {len : Nat} (tgt : Nat) (d : decode cc pc = .ok (.lookupswitch dflt ps, len)) (hp : (ps.toList.zip (ps.toList.drop 1)).all (fun (a, next) => a.1 < next.1) = true) (ho : Op.lookupswitch.offset ps.toList dflt v.toInt = dflt) (ht : (pc : Int) + dflt = (tgt : Int)) (k : g x tgt lv rest σ) : g x pc lv (.int v :: rest) σ := by
  obtain ⟨p, e, s, m, args, below, meth, c, A, Q, res, hx, hb, hml, hown, hts, hK, hA, rfl, hret⟩ := C
  intro hres H locs ls hP hD hS hl
  exact lv_lookup hx hb d hp ho ht (k hres H locs ls hP hD hS hl)
theorem g_get (C : gC l rm own cc Ts nL D tys Wf rt g) {ref C0 : String} {TT : u_T} {N ci index a : Nat} (hin : ∀ w ∈ u_ws C0 TT N, w ∈ Ts) (q0 : Nat) {fs : List Value} (he : (Wf σ)[q0]? = some (a, .inr (ci, fs))) (hc : vwCl[ci]? = some (C0, TT, N)) (j : Nat) (hj : j < N) (hlink : Cond.fieldLink own index ref (TT j).2.1 (TT j).2.2.1 ∈ Ts) (hsame : (TT j).1 = ref) {v : Value} (hv : fs[j]? = some v) (d : decode cc pc = .ok (.getfield index, 3)) (k : g x (pc + 3) lv (v :: rest) σ) : g x pc lv (.ref a :: rest) σ := by
  obtain ⟨p, e, s, m, args, below, meth, c, A, Q, res, hx, hb, hml, hown, hts, hK, hA, rfl, hret⟩ := C
  intro hres H locs ls hP hD hS hl
  exact va_get hx hb hts hin hown hK.1 hP q0 he hc j hj (hts _ hlink) (fun _ h9 => by rw [← hsame]; exact h9) hv d (k hres H locs ls hP hD hS hl)
theorem g_put (C : gC l rm own cc Ts nL D tys Wf rt g) {ref C0 : String} {TT : u_T} {N ci index a : Nat} {σ' : T} (hin : ∀ w ∈ u_ws C0 TT N, w ∈ Ts) (ty0 : Nat → FieldType) (hty : ∀ k, k < N → parseFieldDescriptor (TT k).2.2.1 = some (ty0 k)) (hnm : ∀ a, a < N → ∀ b, b < N → a ≠ b → (TT a).2.1 ≠ (TT b).2.1) (q0 : Nat) {fs : List Value} (he : (Wf σ)[q0]? = some (a, .inr (ci, fs))) (hc : vwCl[ci]? = some (C0, TT, N)) (j : Nat) (hj : j < N) (hlink : Cond.fieldLink own index ref (TT j).2.1 (TT j).2.2.1 ∈ Ts) (hsame : (TT j).1 = ref) (hfin : (TT j).2.2.2 = false) {ty : FieldType} {v : Value} (hty1 : parseFieldDescriptor (TT j).2.2.1 = some ty) (hn : narrow ty v = v) (hfit : fits ty v = true) (hl1 : j < fs.length) (hset : (Wf σ).set q0 (a, .inr (ci, fs.set j v)) = Wf σ') (d : decode cc pc = .ok (.putfield index, 3)) (k : g x (pc + 3) lv rest σ') : g x pc lv (v :: .ref a :: rest) σ := by
  obtain ⟨p, e, s, m, args, below, meth, c, A, Q, res, hx, hb, hml, hown, hts, hK, hA, rfl, hret⟩ := C
  intro hres H locs ls hP hD hS hl
  refine va_put hx hb hts hin ty0 hty hnm hown hK.1 hP hD hS q0 he hc j hj (hts _ hlink) (fun _ h9 => by rw [← hsame]; exact h9) hfin hty1 hn hfit hl1 d (fun H locs hP hD hS => ?_)
  rw [hset] at hP hD
  exact k hres H locs ls hP hD hS hl
theorem g_iald (C : gC l rm own cc Ts nL D tys Wf rt g) {cA : ClassId} {n a : Nat} {f : Nat → Int32} {i : Int32} (q0 t0 : Nat) (ha : (Wf σ)[q0]? = some (a, .inl (cA, n, .inl f))) (ht : tys[t0]? = some (cA, .int)) (hin : inb i n) (d : decode cc pc = .ok (.iaload, 1)) (k : g x (pc + 1) lv (.int (f i.toNatClampNeg) :: rest) σ) : g x pc lv (.int i :: .ref a :: rest) σ := by
  obtain ⟨p, e, s, m, args, below, meth, c, A, Q, res, hx, hb, hml, hown, hts, hK, hA, rfl, hret⟩ := C
  intro hres H locs ls hP hD hS hl
  exact va_iald hx hb hK.1 hP q0 t0 ha ht hin d (k hres H locs ls hP hD hS hl)
theorem g_ialdG (C : gC l rm own cc Ts nL D tys Wf rt g) {cA : ClassId} {n a : Nat} {f : Nat → Int32} {i : Int32} (q0 t0 : Nat) (ha : (Wf σ)[q0]? = some (a, .inl (cA, n, .inl f))) (ht : tys[t0]? = some (cA, .int)) (d : decode cc pc = .ok (.iaload, 1)) (k : g x (pc + 1) lv (.int (f i.toNatClampNeg) :: rest) σ) : g (gd (inb i n) x) pc lv (.int i :: .ref a :: rest) σ := by
  obtain ⟨p, e, s, m, args, below, meth, c, A, Q, res, hx, hb, hml, hown, hts, hK, hA, rfl, hret⟩ := C
  intro hres H locs ls hP hD hS hl
  by_cases h : inb i n
  · rw [gd, if_pos h] at hres
    exact va_iald hx hb hK.1 hP q0 t0 ha ht h d (k hres H locs ls hP hD hS hl)
  · rw [gd, if_neg h] at hres
    cases hres
theorem g_zald (C : gC l rm own cc Ts nL D tys Wf rt g) {cA : ClassId} {n a : Nat} {f : Nat → Int32} {i : Int32} (q0 t0 : Nat) (ha : (Wf σ)[q0]? = some (a, .inl (cA, n, .inl f))) (ht : tys[t0]? = some (cA, .boolean)) (hin : inb i n) (d : decode cc pc = .ok (.baload, 1)) (k : g x (pc + 1) lv (.int (f i.toNatClampNeg) :: rest) σ) : g x pc lv (.int i :: .ref a :: rest) σ := by
  obtain ⟨p, e, s, m, args, below, meth, c, A, Q, res, hx, hb, hml, hown, hts, hK, hA, rfl, hret⟩ := C
  intro hres H locs ls hP hD hS hl
  exact va_zald hx hb hK.1 hP q0 t0 ha ht hin d (k hres H locs ls hP hD hS hl)
theorem g_zaldG (C : gC l rm own cc Ts nL D tys Wf rt g) {cA : ClassId} {n a : Nat} {f : Nat → Int32} {i : Int32} (q0 t0 : Nat) (ha : (Wf σ)[q0]? = some (a, .inl (cA, n, .inl f))) (ht : tys[t0]? = some (cA, .boolean)) (d : decode cc pc = .ok (.baload, 1)) (k : g x (pc + 1) lv (.int (f i.toNatClampNeg) :: rest) σ) : g (gd (inb i n) x) pc lv (.int i :: .ref a :: rest) σ := by
  obtain ⟨p, e, s, m, args, below, meth, c, A, Q, res, hx, hb, hml, hown, hts, hK, hA, rfl, hret⟩ := C
  intro hres H locs ls hP hD hS hl
  by_cases h : inb i n
  · rw [gd, if_pos h] at hres
    exact va_zald hx hb hK.1 hP q0 t0 ha ht h d (k hres H locs ls hP hD hS hl)
  · rw [gd, if_neg h] at hres
    cases hres
theorem g_cald (C : gC l rm own cc Ts nL D tys Wf rt g) {cA : ClassId} {n a : Nat} {f : Nat → Int32} {i : Int32} (q0 t0 : Nat) (ha : (Wf σ)[q0]? = some (a, .inl (cA, n, .inl f))) (ht : tys[t0]? = some (cA, .char)) (hin : inb i n) (d : decode cc pc = .ok (.caload, 1)) (k : g x (pc + 1) lv (.int (f i.toNatClampNeg) :: rest) σ) : g x pc lv (.int i :: .ref a :: rest) σ := by
  obtain ⟨p, e, s, m, args, below, meth, c, A, Q, res, hx, hb, hml, hown, hts, hK, hA, rfl, hret⟩ := C
  intro hres H locs ls hP hD hS hl
  exact va_cald hx hb hK.1 hP q0 t0 ha ht hin d (k hres H locs ls hP hD hS hl)
theorem g_caldG (C : gC l rm own cc Ts nL D tys Wf rt g) {cA : ClassId} {n a : Nat} {f : Nat → Int32} {i : Int32} (q0 t0 : Nat) (ha : (Wf σ)[q0]? = some (a, .inl (cA, n, .inl f))) (ht : tys[t0]? = some (cA, .char)) (d : decode cc pc = .ok (.caload, 1)) (k : g x (pc + 1) lv (.int (f i.toNatClampNeg) :: rest) σ) : g (gd (inb i n) x) pc lv (.int i :: .ref a :: rest) σ := by
  obtain ⟨p, e, s, m, args, below, meth, c, A, Q, res, hx, hb, hml, hown, hts, hK, hA, rfl, hret⟩ := C
  intro hres H locs ls hP hD hS hl
  by_cases h : inb i n
  · rw [gd, if_pos h] at hres
    exact va_cald hx hb hK.1 hP q0 t0 ha ht h d (k hres H locs ls hP hD hS hl)
  · rw [gd, if_neg h] at hres
    cases hres
theorem g_iast (C : gC l rm own cc Ts nL D tys Wf rt g) {cA : ClassId} {n a : Nat} {f : Nat → Int32} {i v : Int32} {σ' : T} (q0 t0 : Nat) (ha : (Wf σ)[q0]? = some (a, .inl (cA, n, .inl f))) (ht : tys[t0]? = some (cA, .int)) (hin : inb i n) (hset : (Wf σ).set q0 (a, .inl (cA, n, .inl (upd f i.toNatClampNeg v))) = Wf σ') (d : decode cc pc = .ok (.iastore, 1)) (k : g x (pc + 1) lv rest σ') : g x pc lv (.int v :: .int i :: .ref a :: rest) σ := by
  obtain ⟨p, e, s, m, args, below, meth, c, A, Q, res, hx, hb, hml, hown, hts, hK, hA, rfl, hret⟩ := C
  intro hres H locs ls hP hD hS hl
  refine va_iast hx hb hK.1 hP hD hS q0 t0 ha ht hin d (fun H locs hP hD hS => ?_)
  rw [hset] at hP hD
  exact k hres H locs ls hP hD hS hl
theorem g_iastG (C : gC l rm own cc Ts nL D tys Wf rt g) {cA : ClassId} {n a : Nat} {f : Nat → Int32} {i v : Int32} {σ' : T} (q0 t0 : Nat) (ha : (Wf σ)[q0]? = some (a, .inl (cA, n, .inl f))) (ht : tys[t0]? = some (cA, .int)) (hset : (Wf σ).set q0 (a, .inl (cA, n, .inl (upd f i.toNatClampNeg v))) = Wf σ') (d : decode cc pc = .ok (.iastore, 1)) (k : g x (pc + 1) lv rest σ') : g (gd (inb i n) x) pc lv (.int v :: .int i :: .ref a :: rest) σ := by
  obtain ⟨p, e, s, m, args, below, meth, c, A, Q, res, hx, hb, hml, hown, hts, hK, hA, rfl, hret⟩ := C
  intro hres H locs ls hP hD hS hl
  by_cases hin : inb i n
  · rw [gd, if_pos hin] at hres
    refine va_iast hx hb hK.1 hP hD hS q0 t0 ha ht hin d (fun H locs hP hD hS => ?_)
    rw [hset] at hP hD
    exact k hres H locs ls hP hD hS hl
  · rw [gd, if_neg hin] at hres
    cases hres
theorem g_zast (C : gC l rm own cc Ts nL D tys Wf rt g) {cA : ClassId} {n a : Nat} {f : Nat → Int32} {i v : Int32} {σ' : T} (q0 t0 : Nat) (ha : (Wf σ)[q0]? = some (a, .inl (cA, n, .inl f))) (ht : tys[t0]? = some (cA, .boolean)) (hin : inb i n) (hv : v = 0 ∨ v = 1) (hset : (Wf σ).set q0 (a, .inl (cA, n, .inl (upd f i.toNatClampNeg v))) = Wf σ') (d : decode cc pc = .ok (.bastore, 1)) (k : g x (pc + 1) lv rest σ') : g x pc lv (.int v :: .int i :: .ref a :: rest) σ := by
  obtain ⟨p, e, s, m, args, below, meth, c, A, Q, res, hx, hb, hml, hown, hts, hK, hA, rfl, hret⟩ := C
  intro hres H locs ls hP hD hS hl
  have hv2 : vp_nar .boolean v = v := by rcases hv with h | h <;> rw [h] <;> rfl
  refine va_zast hx hb hK.1 hP hD hS q0 t0 ha ht hin d (fun H locs hP hD hS => ?_)
  rw [hv2] at hP hD
  rw [hset] at hP hD
  exact k hres H locs ls hP hD hS hl
theorem g_zastG (C : gC l rm own cc Ts nL D tys Wf rt g) {cA : ClassId} {n a : Nat} {f : Nat → Int32} {i v : Int32} {σ' : T} (q0 t0 : Nat) (ha : (Wf σ)[q0]? = some (a, .inl (cA, n, .inl f))) (ht : tys[t0]? = some (cA, .boolean)) (hv : v = 0 ∨ v = 1) (hset : (Wf σ).set q0 (a, .inl (cA, n, .inl (upd f i.toNatClampNeg v))) = Wf σ') (d : decode cc pc = .ok (.bastore, 1)) (k : g x (pc + 1) lv rest σ') : g (gd (inb i n) x) pc lv (.int v :: .int i :: .ref a :: rest) σ := by
  obtain ⟨p, e, s, m, args, below, meth, c, A, Q, res, hx, hb, hml, hown, hts, hK, hA, rfl, hret⟩ := C
  intro hres H locs ls hP hD hS hl
  have hv2 : vp_nar .boolean v = v := by rcases hv with h | h <;> rw [h] <;> rfl
  by_cases hin : inb i n
  · rw [gd, if_pos hin] at hres
    refine va_zast hx hb hK.1 hP hD hS q0 t0 ha ht hin d (fun H locs hP hD hS => ?_)
    rw [hv2] at hP hD
    rw [hset] at hP hD
    exact k hres H locs ls hP hD hS hl
  · rw [gd, if_neg hin] at hres
    cases hres
theorem g_cast (C : gC l rm own cc Ts nL D tys Wf rt g) {cA : ClassId} {n a : Nat} {f : Nat → Int32} {i v : Int32} {σ' : T} (q0 t0 : Nat) (ha : (Wf σ)[q0]? = some (a, .inl (cA, n, .inl f))) (ht : tys[t0]? = some (cA, .char)) (hin : inb i n) (hv : narrow .char (.int v) = .int v) (hset : (Wf σ).set q0 (a, .inl (cA, n, .inl (upd f i.toNatClampNeg v))) = Wf σ') (d : decode cc pc = .ok (.castore, 1)) (k : g x (pc + 1) lv rest σ') : g x pc lv (.int v :: .int i :: .ref a :: rest) σ := by
  obtain ⟨p, e, s, m, args, below, meth, c, A, Q, res, hx, hb, hml, hown, hts, hK, hA, rfl, hret⟩ := C
  intro hres H locs ls hP hD hS hl
  have hv2 : vp_nar .char v = v := by unfold vp_nar; rw [hv]
  refine va_cast hx hb hK.1 hP hD hS q0 t0 ha ht hin d (fun H locs hP hD hS => ?_)
  rw [hv2] at hP hD
  rw [hset] at hP hD
  exact k hres H locs ls hP hD hS hl
theorem g_castG (C : gC l rm own cc Ts nL D tys Wf rt g) {cA : ClassId} {n a : Nat} {f : Nat → Int32} {i v : Int32} {σ' : T} (q0 t0 : Nat) (ha : (Wf σ)[q0]? = some (a, .inl (cA, n, .inl f))) (ht : tys[t0]? = some (cA, .char)) (hv : narrow .char (.int v) = .int v) (hset : (Wf σ).set q0 (a, .inl (cA, n, .inl (upd f i.toNatClampNeg v))) = Wf σ') (d : decode cc pc = .ok (.castore, 1)) (k : g x (pc + 1) lv rest σ') : g (gd (inb i n) x) pc lv (.int v :: .int i :: .ref a :: rest) σ := by
  obtain ⟨p, e, s, m, args, below, meth, c, A, Q, res, hx, hb, hml, hown, hts, hK, hA, rfl, hret⟩ := C
  intro hres H locs ls hP hD hS hl
  have hv2 : vp_nar .char v = v := by unfold vp_nar; rw [hv]
  by_cases hin : inb i n
  · rw [gd, if_pos hin] at hres
    refine va_cast hx hb hK.1 hP hD hS q0 t0 ha ht hin d (fun H locs hP hD hS => ?_)
    rw [hv2] at hP hD
    rw [hset] at hP hD
    exact k hres H locs ls hP hD hS hl
  · rw [gd, if_neg hin] at hres
    cases hres
theorem g_alen (C : gC l rm own cc Ts nL D tys Wf rt g) {cA : ClassId} {xa : vp_A} {a : Nat} {ty : FieldType} {v : Int32} (q0 t0 : Nat) (ha : (Wf σ)[q0]? = some (a, .inl (cA, xa))) (ht : tys[t0]? = some (cA, ty)) (hv : Int32.ofNat xa.1 = v) (d : decode cc pc = .ok (.arraylength, 1)) (k : g x (pc + 1) lv (.int v :: rest) σ) : g x pc lv (.ref a :: rest) σ := by
  obtain ⟨p, e, s, m, args, below, meth, c, A, Q, res, hx, hb, hml, hown, hts, hK, hA, rfl, hret⟩ := C
  intro hres H locs ls hP hD hS hl
  exact va_alen hx hb hK.1 hP q0 t0 ha ht hv d (k hres H locs ls hP hD hS hl)
theorem g_ret (C : gC l rm own cc Ts nL D tys Wf rt g) {r : R} {st : List Value} (h : rt cc r pc st σ) : g (some r) pc lv st σ := by
  obtain ⟨p, e, s, m, args, below, meth, c, A, Q, res, hx, hb, hml, hown, hts, hK, hA, rfl, hret⟩ := C
  intro hres H locs ls hP hD hS hl
  cases hres
  exact hret σ pc st H locs ls h hP hD hS
theorem g_none (C : gC l rm own cc Ts nL D tys Wf rt g) {st : List Value} : g none pc lv st σ := by
  obtain ⟨p, e, s, m, args, below, meth, c, A, Q, res, hx, hb, hml, hown, hts, hK, hA, rfl, hret⟩ := C
  intro hres H locs ls hP hD hS hl
  cases hres
theorem g_topi {e : Int32} {K : Int32 → Option R} (k : ∀ v, g (K v) pc lv (.int v :: rest) σ) : g (gl e K) pc lv (.int e :: rest) σ := k e
theorem g_topl {e : Int64} {K : Int64 → Option R} (k : ∀ v, g (K v) pc lv (.long v :: rest) σ) : g (gl e K) pc lv (.long e :: rest) σ := k e
theorem g_state {e : T} {K : T → Option R} {st : List Value} (k : ∀ v, g (K v) pc lv st v) : g (gl e K) pc lv st e := k e
theorem g_eqx {y : Option R} {st : List Value} (h : y = x) (k : g x pc lv st σ) : g y pc lv st σ := h ▸ k
theorem g_pc {pc' : Nat} {st : List Value} (h : pc' = pc) (k : g x pc lv st σ) : g x pc' lv st σ := h ▸ k
theorem g_sub (C : gC l rm own cc Ts nL D tys Wf rt g) {lv' : List (Nat × Value)} {st : List Value} (ks : List Nat) (hk : lv_pick lv ks = lv') (k : g x pc lv' st σ) : g x pc lv st σ := by
  obtain ⟨p, e, s, m, args, below, meth, c, A, Q, res, hx, hb, hml, hown, hts, hK, hA, rfl, hret⟩ := C
  intro hres H locs ls hP hD hS hl
  exact k hres H locs ls hP hD hS (lv_sub hl ks hk)
theorem g_mabs (C : gC l rm own cc Ts nL D tys Wf rt g) {v : Int32} {index : Nat} (hlink : Cond.methodLink own index Lib.Math.abs.name ∈ Ts) (hstat : Cond.static Lib.Math.abs.name ∈ Ts) (hini : Cond.initialized "java/lang/Math" ∈ Ts) (hcode : Cond.code Lib.Math.abs.name Lib.Math.abs.code 1 (some .int) ∈ Ts) (hframes : 1 ≤ rm.frames) (hlocals : (rest.map fun v => v.category).sum + 13 ≤ rm.locals) (d : decode cc pc = .ok (.invokestatic index, 3)) (k : g x (pc + 3) lv (.int (if 0 ≤ v then v else 0 - v) :: rest) σ) : g x pc lv (.int v :: rest) σ := by
  obtain ⟨p, e, s, m, args, below, meth, c, A, Q, res, hx, hb, hml, hown, hts, hK, hA, rfl, hret⟩ := C
  intro hres H locs ls hP hD hS hl
  exact va_mabs hx hb (by rw [hml]; exact hl.1.symm) hown (hts _ hlink) (hts _ hstat) (hts _ hini) (hts _ hcode) hframes hlocals (Nat.zero_le _) (Nat.zero_le _) d (k hres H locs ls hP hD hS hl)
theorem g_mmin (C : gC l rm own cc Ts nL D tys Wf rt g) {v w : Int32} {index : Nat} (hlink : Cond.methodLink own index Lib.Math.min.name ∈ Ts) (hstat : Cond.static Lib.Math.min.name ∈ Ts) (hini : Cond.initialized "java/lang/Math" ∈ Ts) (hcode : Cond.code Lib.Math.min.name Lib.Math.min.code 2 (some .int) ∈ Ts) (hframes : 1 ≤ rm.frames) (hlocals : (rest.map fun v => v.category).sum + 13 ≤ rm.locals) (d : decode cc pc = .ok (.invokestatic index, 3)) (k : g x (pc + 3) lv (.int (if w < v then w else v) :: rest) σ) : g x pc lv (.int w :: .int v :: rest) σ := by
  obtain ⟨p, e, s, m, args, below, meth, c, A, Q, res, hx, hb, hml, hown, hts, hK, hA, rfl, hret⟩ := C
  intro hres H locs ls hP hD hS hl
  exact va_mmin hx hb (by rw [hml]; exact hl.1.symm) hown (hts _ hlink) (hts _ hstat) (hts _ hini) (hts _ hcode) hframes hlocals (Nat.zero_le _) (Nat.zero_le _) d (k hres H locs ls hP hD hS hl)
end GR
