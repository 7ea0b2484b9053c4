section PRows2
variable {g : PG} {d : Nat} {mi : PI} {pc : Nat} {ls : List (Option PV)} {st : List PV} {σ : PS} {k : Nat × Nat} {Q : Option PV → PS → Prop}
theorem P_iconst {n : Int} {v : Int32} (hv : Int32.ofInt n = v) (hd : decode mi.2.1 pc = .ok (.iconst n, 1)) (kk : P g d mi (pc + 1) ls (vi v :: st) σ k Q) : P g d mi pc ls (st) σ k Q := by
  intro p e R s m args below meth c H locs cells slots jls fx hc hs hS hR hL
  exact lv_iconst fx.1 fx.2.1 hd hv (kk p e R s m args below meth c H locs cells slots jls fx hc hs hS hR hL)
theorem P_bipush {n : Int} {v : Int32} (hv : (Int8.ofInt n).toInt32 = v) (hd : decode mi.2.1 pc = .ok (.bipush n, 2)) (kk : P g d mi (pc + 2) ls (vi v :: st) σ k Q) : P g d mi pc ls (st) σ k Q := by
  intro p e R s m args below meth c H locs cells slots jls fx hc hs hS hR hL
  exact lv_bipush fx.1 fx.2.1 hd hv (kk p e R s m args below meth c H locs cells slots jls fx hc hs hS hR hL)
theorem P_sipush {n : Int} {v : Int32} (hv : (Int16.ofInt n).toInt32 = v) (hd : decode mi.2.1 pc = .ok (.sipush n, 3)) (kk : P g d mi (pc + 3) ls (vi v :: st) σ k Q) : P g d mi pc ls (st) σ k Q := by
  intro p e R s m args below meth c H locs cells slots jls fx hc hs hS hR hL
  exact lv_sipush fx.1 fx.2.1 hd hv (kk p e R s m args below meth c H locs cells slots jls fx hc hs hS hR hL)
theorem P_lconst {n : Fin 2} {v : Int64} (hv : Int64.ofNat (n : Nat) = v) (hd : decode mi.2.1 pc = .ok (.lconst n, 1)) (kk : P g d mi (pc + 1) ls (vl v :: st) σ k Q) : P g d mi pc ls (st) σ k Q := by
  intro p e R s m args below meth c H locs cells slots jls fx hc hs hS hR hL
  exact lv_lconst fx.1 fx.2.1 hd hv (kk p e R s m args below meth c H locs cells slots jls fx hc hs hS hR hL)
theorem P_null (hd : decode mi.2.1 pc = .ok (.aconst_null, 1)) (kk : P g d mi (pc + 1) ls (vq none :: st) σ k Q) : P g d mi pc ls (st) σ k Q := by
  intro p e R s m args below meth c H locs cells slots jls fx hc hs hS hR hL
  exact lv_null fx.1 fx.2.1 hd (kk p e R s m args below meth c H locs cells slots jls fx hc hs hS hR hL)
theorem P_iadd {x y : Int32} (hd : decode mi.2.1 pc = .ok (.iadd, 1)) (kk : P g d mi (pc + 1) ls (vi (x + y) :: st) σ k Q) : P g d mi pc ls (vi y :: vi x :: st) σ k Q := by
  intro p e R s m args below meth c H locs cells slots jls fx hc hs hS hR hL
  exact lv_iadd fx.1 fx.2.1 hd (kk p e R s m args below meth c H locs cells slots jls fx hc hs hS hR hL)
theorem P_isub {x y : Int32} (hd : decode mi.2.1 pc = .ok (.isub, 1)) (kk : P g d mi (pc + 1) ls (vi (x - y) :: st) σ k Q) : P g d mi pc ls (vi y :: vi x :: st) σ k Q := by
  intro p e R s m args below meth c H locs cells slots jls fx hc hs hS hR hL
  exact lv_isub fx.1 fx.2.1 hd (kk p e R s m args below meth c H locs cells slots jls fx hc hs hS hR hL)
theorem P_imul {x y : Int32} (hd : decode mi.2.1 pc = .ok (.imul, 1)) (kk : P g d mi (pc + 1) ls (vi (x * y) :: st) σ k Q) : P g d mi pc ls (vi y :: vi x :: st) σ k Q := by
  intro p e R s m args below meth c H locs cells slots jls fx hc hs hS hR hL
  exact lv_imul fx.1 fx.2.1 hd (kk p e R s m args below meth c H locs cells slots jls fx hc hs hS hR hL)
theorem P_iand {x y : Int32} (hd : decode mi.2.1 pc = .ok (.iand, 1)) (kk : P g d mi (pc + 1) ls (vi (x &&& y) :: st) σ k Q) : P g d mi pc ls (vi y :: vi x :: st) σ k Q := by
  intro p e R s m args below meth c H locs cells slots jls fx hc hs hS hR hL
  exact lv_iand fx.1 fx.2.1 hd (kk p e R s m args below meth c H locs cells slots jls fx hc hs hS hR hL)
theorem P_ior {x y : Int32} (hd : decode mi.2.1 pc = .ok (.ior, 1)) (kk : P g d mi (pc + 1) ls (vi (x ||| y) :: st) σ k Q) : P g d mi pc ls (vi y :: vi x :: st) σ k Q := by
  intro p e R s m args below meth c H locs cells slots jls fx hc hs hS hR hL
  exact lv_ior fx.1 fx.2.1 hd (kk p e R s m args below meth c H locs cells slots jls fx hc hs hS hR hL)
theorem P_ixor {x y : Int32} (hd : decode mi.2.1 pc = .ok (.ixor, 1)) (kk : P g d mi (pc + 1) ls (vi (x ^^^ y) :: st) σ k Q) : P g d mi pc ls (vi y :: vi x :: st) σ k Q := by
  intro p e R s m args below meth c H locs cells slots jls fx hc hs hS hR hL
  exact lv_ixor fx.1 fx.2.1 hd (kk p e R s m args below meth c H locs cells slots jls fx hc hs hS hR hL)
theorem P_idiv {x y : Int32} (hy : ¬ y = 0) (hd : decode mi.2.1 pc = .ok (.idiv, 1)) (kk : P g d mi (pc + 1) ls (vi (x / y) :: st) σ k Q) : P g d mi pc ls (vi y :: vi x :: st) σ k Q := by
  intro p e R s m args below meth c H locs cells slots jls fx hc hs hS hR hL
  exact lv_idiv fx.1 fx.2.1 hd hy (kk p e R s m args below meth c H locs cells slots jls fx hc hs hS hR hL)
theorem P_irem {x y : Int32} (hy : ¬ y = 0) (hd : decode mi.2.1 pc = .ok (.irem, 1)) (kk : P g d mi (pc + 1) ls (vi (x - x / y * y) :: st) σ k Q) : P g d mi pc ls (vi y :: vi x :: st) σ k Q := by
  intro p e R s m args below meth c H locs cells slots jls fx hc hs hS hR hL
  exact lv_irem fx.1 fx.2.1 hd hy (kk p e R s m args below meth c H locs cells slots jls fx hc hs hS hR hL)
theorem P_land {x y : Int64} (hd : decode mi.2.1 pc = .ok (.land, 1)) (kk : P g d mi (pc + 1) ls (vl (x &&& y) :: st) σ k Q) : P g d mi pc ls (vl y :: vl x :: st) σ k Q := by
  intro p e R s m args below meth c H locs cells slots jls fx hc hs hS hR hL
  exact lv_land fx.1 fx.2.1 hd (kk p e R s m args below meth c H locs cells slots jls fx hc hs hS hR hL)
theorem P_lor {x y : Int64} (hd : decode mi.2.1 pc = .ok (.lor, 1)) (kk : P g d mi (pc + 1) ls (vl (x ||| y) :: st) σ k Q) : P g d mi pc ls (vl y :: vl x :: st) σ k Q := by
  intro p e R s m args below meth c H locs cells slots jls fx hc hs hS hR hL
  exact lv_lor fx.1 fx.2.1 hd (kk p e R s m args below meth c H locs cells slots jls fx hc hs hS hR hL)
theorem P_lxor {x y : Int64} (hd : decode mi.2.1 pc = .ok (.lxor, 1)) (kk : P g d mi (pc + 1) ls (vl (x ^^^ y) :: st) σ k Q) : P g d mi pc ls (vl y :: vl x :: st) σ k Q := by
  intro p e R s m args below meth c H locs cells slots jls fx hc hs hS hR hL
  exact lv_lxor fx.1 fx.2.1 hd (kk p e R s m args below meth c H locs cells slots jls fx hc hs hS hR hL)
theorem P_lushr {x v : Int64} {y : Int32} (hv : (x.toUInt64 >>> (y.toInt64.toUInt64 &&& Int64.toUInt64 63)).toInt64 = v) (hd : decode mi.2.1 pc = .ok (.lushr, 1)) (kk : P g d mi (pc + 1) ls (vl v :: st) σ k Q) : P g d mi pc ls (vi y :: vl x :: st) σ k Q := by
  intro p e R s m args below meth c H locs cells slots jls fx hc hs hS hR hL
  exact lv_lushr fx.1 fx.2.1 hd hv (kk p e R s m args below meth c H locs cells slots jls fx hc hs hS hR hL)
theorem P_lshl {x v : Int64} {y : Int32} (hv : x <<< (y.toInt64 &&& 63) = v) (hd : decode mi.2.1 pc = .ok (.lshl, 1)) (kk : P g d mi (pc + 1) ls (vl v :: st) σ k Q) : P g d mi pc ls (vi y :: vl x :: st) σ k Q := by
  intro p e R s m args below meth c H locs cells slots jls fx hc hs hS hR hL
  exact lv_lshl fx.1 fx.2.1 hd hv (kk p e R s m args below meth c H locs cells slots jls fx hc hs hS hR hL)
theorem P_lshr {x v : Int64} {y : Int32} (hv : x >>> (y.toInt64 &&& 63) = v) (hd : decode mi.2.1 pc = .ok (.lshr, 1)) (kk : P g d mi (pc + 1) ls (vl v :: st) σ k Q) : P g d mi pc ls (vi y :: vl x :: st) σ k Q := by
  intro p e R s m args below meth c H locs cells slots jls fx hc hs hS hR hL
  exact lv_lshr fx.1 fx.2.1 hd hv (kk p e R s m args below meth c H locs cells slots jls fx hc hs hS hR hL)
theorem P_i2l {x : Int32} (hd : decode mi.2.1 pc = .ok (.i2l, 1)) (kk : P g d mi (pc + 1) ls (vl x.toInt64 :: st) σ k Q) : P g d mi pc ls (vi x :: st) σ k Q := by
  intro p e R s m args below meth c H locs cells slots jls fx hc hs hS hR hL
  exact lv_i2l fx.1 fx.2.1 hd rfl (kk p e R s m args below meth c H locs cells slots jls fx hc hs hS hR hL)
theorem P_l2i {x : Int64} (hd : decode mi.2.1 pc = .ok (.l2i, 1)) (kk : P g d mi (pc + 1) ls (vi x.toInt32 :: st) σ k Q) : P g d mi pc ls (vl x :: st) σ k Q := by
  intro p e R s m args below meth c H locs cells slots jls fx hc hs hS hR hL
  exact lv_l2i fx.1 fx.2.1 hd rfl (kk p e R s m args below meth c H locs cells slots jls fx hc hs hS hR hL)
theorem P_i2c {x v : Int32} (hv : (x.toUInt32 % 65536).toInt32 = v) (hd : decode mi.2.1 pc = .ok (.i2c, 1)) (kk : P g d mi (pc + 1) ls (vi v :: st) σ k Q) : P g d mi pc ls (vi x :: st) σ k Q := by
  intro p e R s m args below meth c H locs cells slots jls fx hc hs hS hR hL
  exact lv_i2c fx.1 fx.2.1 hd hv (kk p e R s m args below meth c H locs cells slots jls fx hc hs hS hR hL)
theorem P_lcmp {x y : Int64} (hd : decode mi.2.1 pc = .ok (.lcmp, 1)) (kk : P g d mi (pc + 1) ls (vi (lg_cmp x y) :: st) σ k Q) : P g d mi pc ls (vl y :: vl x :: st) σ k Q := by
  intro p e R s m args below meth c H locs cells slots jls fx hc hs hS hR hL
  exact W.lcmp fx.1 fx.2.1 hd (kk p e R s m args below meth c H locs cells slots jls fx hc hs hS hR hL)
theorem P_dup {v : PV} (h1 : p_nl (some v) = true) (hd : decode mi.2.1 pc = .ok (.dup, 1)) (kk : P g d mi (pc + 1) ls (v :: v :: st) σ k Q) : P g d mi pc ls (v :: st) σ k Q := by
  intro p e R s m args below meth c H locs cells slots jls fx hc hs hS hR hL
  exact lv_dup fx.1 fx.2.1 hd (p_cat1 h1) (kk p e R s m args below meth c H locs cells slots jls fx hc hs hS hR hL)
theorem P_pop {v : PV} (h1 : p_nl (some v) = true) (hd : decode mi.2.1 pc = .ok (.pop, 1)) (kk : P g d mi (pc + 1) ls (st) σ k Q) : P g d mi pc ls (v :: st) σ k Q := by
  intro p e R s m args below meth c H locs cells slots jls fx hc hs hS hR hL
  exact lv_pop fx.1 fx.2.1 hd (p_cat1 h1) (kk p e R s m args below meth c H locs cells slots jls fx hc hs hS hR hL)
theorem P_dup_x1 {v w : PV} (h1 : p_nl (some v) = true) (h2 : p_nl (some w) = true) (hd : decode mi.2.1 pc = .ok (.dup_x1, 1)) (kk : P g d mi (pc + 1) ls (v :: w :: v :: st) σ k Q) : P g d mi pc ls (v :: w :: st) σ k Q := by
  intro p e R s m args below meth c H locs cells slots jls fx hc hs hS hR hL
  exact lv_dup_x1 fx.1 fx.2.1 hd (p_cat1 h1) (p_cat1 h2) (kk p e R s m args below meth c H locs cells slots jls fx hc hs hS hR hL)
theorem P_dup2 {v w : PV} (h1 : p_nl (some v) = true) (h2 : p_nl (some w) = true) (hd : decode mi.2.1 pc = .ok (.dup2, 1)) (kk : P g d mi (pc + 1) ls (v :: w :: v :: w :: st) σ k Q) : P g d mi pc ls (v :: w :: st) σ k Q := by
  intro p e R s m args below meth c H locs cells slots jls fx hc hs hS hR hL
  exact lv_dup2_11 fx.1 fx.2.1 hd (p_cat1 h1) (p_cat1 h2) (kk p e R s m args below meth c H locs cells slots jls fx hc hs hS hR hL)
theorem P_ldc {idx : Nat} {v : Int32} (hw : Cond.constant mi.1.cls idx v ∈ p_TG) (hd : decode mi.2.1 pc = .ok (.ldc idx, 2)) (kk : P g d mi (pc + 2) ls (vi v :: st) σ k Q) : P g d mi pc ls st σ k Q := by
  intro p e R s m args below meth c H locs cells slots jls fx hc hs hS hR hL
  exact lv_ldc fx.1 fx.2.1 fx.2.2.2.2.1 (fx.2.2.2.2.2.1 _ hw) hd (kk p e R s m args below meth c H locs cells slots jls fx hc hs hS hR hL)
theorem P_ldc2 {idx : Nat} {v : Int64} (hw : Cond.constantLong mi.1.cls idx v ∈ p_TG) (hd : decode mi.2.1 pc = .ok (.ldc2_w idx, 3)) (kk : P g d mi (pc + 3) ls (vl v :: st) σ k Q) : P g d mi pc ls st σ k Q := by
  intro p e R s m args below meth c H locs cells slots jls fx hc hs hS hR hL
  exact lv_ldc2 fx.1 fx.2.1 fx.2.2.2.2.1 (fx.2.2.2.2.2.1 _ hw) hd (kk p e R s m args below meth c H locs cells slots jls fx hc hs hS hR hL)
theorem P_iloadn {q : Fin 4} {i : Nat} {x : Int32} (hi : (q : Nat) = i) (hx : ls[i]? = some (some (vi x))) (hd : decode mi.2.1 pc = .ok (.iload_n q, 1)) (kk : P g d mi (pc + 1) ls (vi x :: st) σ k Q) : P g d mi pc ls st σ k Q := by
  intro p e R s m args below meth c H locs cells slots jls fx hc hs hS hR hL
  exact lv_iload_n fx.1 fx.2.1 hd hi (p_lat hL hx) (kk p e R s m args below meth c H locs cells slots jls fx hc hs hS hR hL)
theorem P_iload {i : Nat} {x : Int32} (hx : ls[i]? = some (some (vi x))) (hd : decode mi.2.1 pc = .ok (.iload i, 2)) (kk : P g d mi (pc + 2) ls (vi x :: st) σ k Q) : P g d mi pc ls st σ k Q := by
  intro p e R s m args below meth c H locs cells slots jls fx hc hs hS hR hL
  exact lv_iload fx.1 fx.2.1 hd (p_lat hL hx) (kk p e R s m args below meth c H locs cells slots jls fx hc hs hS hR hL)
theorem P_lloadn {q : Fin 4} {i : Nat} {x : Int64} (hi : (q : Nat) = i) (hx : ls[i]? = some (some (vl x))) (hd : decode mi.2.1 pc = .ok (.lload_n q, 1)) (kk : P g d mi (pc + 1) ls (vl x :: st) σ k Q) : P g d mi pc ls st σ k Q := by
  intro p e R s m args below meth c H locs cells slots jls fx hc hs hS hR hL
  exact lv_lload_n fx.1 fx.2.1 hd hi (p_lat hL hx) (kk p e R s m args below meth c H locs cells slots jls fx hc hs hS hR hL)
theorem P_lload {i : Nat} {x : Int64} (hx : ls[i]? = some (some (vl x))) (hd : decode mi.2.1 pc = .ok (.lload i, 2)) (kk : P g d mi (pc + 2) ls (vl x :: st) σ k Q) : P g d mi pc ls st σ k Q := by
  intro p e R s m args below meth c H locs cells slots jls fx hc hs hS hR hL
  exact lv_lload fx.1 fx.2.1 hd (p_lat hL hx) (kk p e R s m args below meth c H locs cells slots jls fx hc hs hS hR hL)
theorem P_aloadn {q : Fin 4} {i : Nat} {x : Option Nat} (hi : (q : Nat) = i) (hx : ls[i]? = some (some (vq x))) (hd : decode mi.2.1 pc = .ok (.aload_n q, 1)) (kk : P g d mi (pc + 1) ls (vq x :: st) σ k Q) : P g d mi pc ls st σ k Q := by
  intro p e R s m args below meth c H locs cells slots jls fx hc hs hS hR hL
  cases x with
  | none => exact lv_aload_nN fx.1 fx.2.1 hd hi (p_lat hL hx) (kk p e R s m args below meth c H locs cells slots jls fx hc hs hS hR hL)
  | some a => exact lv_aload_n fx.1 fx.2.1 hd hi (p_lat hL hx) (kk p e R s m args below meth c H locs cells slots jls fx hc hs hS hR hL)
theorem P_aload {i : Nat} {x : Option Nat} (hx : ls[i]? = some (some (vq x))) (hd : decode mi.2.1 pc = .ok (.aload i, 2)) (kk : P g d mi (pc + 2) ls (vq x :: st) σ k Q) : P g d mi pc ls st σ k Q := by
  intro p e R s m args below meth c H locs cells slots jls fx hc hs hS hR hL
  cases x with
  | none => exact lv_aloadN fx.1 fx.2.1 hd (p_lat hL hx) (kk p e R s m args below meth c H locs cells slots jls fx hc hs hS hR hL)
  | some a => exact lv_aload fx.1 fx.2.1 hd (p_lat hL hx) (kk p e R s m args below meth c H locs cells slots jls fx hc hs hS hR hL)
theorem P_istoren {q : Fin 4} {i : Nat} {x : Int32} (hi : (q : Nat) = i) (hil : i < mi.2.2.1) (hn : ∀ j, j + 1 = i → p_nlo ls[j]? = true) (hd : decode mi.2.1 pc = .ok (.istore_n q, 1)) (kk : P g d mi (pc + 1) (ls.set i (some (vi x))) st σ k Q) : P g d mi pc ls (vi x :: st) σ k Q := by
  intro p e R s m args below meth c H locs cells slots jls fx hc hs hS hR hL
  exact lv_istore_n fx.1 fx.2.1 hd hi hL hil rfl (fun jls2 h2 => (kk p e R s m args below meth c H locs cells slots jls2 fx hc hs hS hR (p_lset hn h2 rfl)))
theorem P_istore {i : Nat} {x : Int32} (hil : i < mi.2.2.1) (hn : ∀ j, j + 1 = i → p_nlo ls[j]? = true) (hd : decode mi.2.1 pc = .ok (.istore i, 2)) (kk : P g d mi (pc + 2) (ls.set i (some (vi x))) st σ k Q) : P g d mi pc ls (vi x :: st) σ k Q := by
  intro p e R s m args below meth c H locs cells slots jls fx hc hs hS hR hL
  exact lv_istore fx.1 fx.2.1 hd hL hil rfl (fun jls2 h2 => (kk p e R s m args below meth c H locs cells slots jls2 fx hc hs hS hR (p_lset hn h2 rfl)))
theorem P_astoren {q : Fin 4} {i : Nat} {x : Option Nat} (hi : (q : Nat) = i) (hil : i < mi.2.2.1) (hn : ∀ j, j + 1 = i → p_nlo ls[j]? = true) (hd : decode mi.2.1 pc = .ok (.astore_n q, 1)) (kk : P g d mi (pc + 1) (ls.set i (some (vq x))) st σ k Q) : P g d mi pc ls (vq x :: st) σ k Q := by
  intro p e R s m args below meth c H locs cells slots jls fx hc hs hS hR hL
  cases x with
  | none => exact lv_astore_nN fx.1 fx.2.1 hd hi hL hil rfl (fun jls2 h2 => (kk p e R s m args below meth c H locs cells slots jls2 fx hc hs hS hR (p_lset hn h2 rfl)))
  | some a => exact lv_astore_n fx.1 fx.2.1 hd hi hL hil rfl (fun jls2 h2 => (kk p e R s m args below meth c H locs cells slots jls2 fx hc hs hS hR (p_lset hn h2 rfl)))
theorem P_astore {i : Nat} {x : Option Nat} (hil : i < mi.2.2.1) (hn : ∀ j, j + 1 = i → p_nlo ls[j]? = true) (hd : decode mi.2.1 pc = .ok (.astore i, 2)) (kk : P g d mi (pc + 2) (ls.set i (some (vq x))) st σ k Q) : P g d mi pc ls (vq x :: st) σ k Q := by
  intro p e R s m args below meth c H locs cells slots jls fx hc hs hS hR hL
  cases x with
  | none => exact lv_astoreN fx.1 fx.2.1 hd hL hil rfl (fun jls2 h2 => (kk p e R s m args below meth c H locs cells slots jls2 fx hc hs hS hR (p_lset hn h2 rfl)))
  | some a => exact lv_astore fx.1 fx.2.1 hd hL hil rfl (fun jls2 h2 => (kk p e R s m args below meth c H locs cells slots jls2 fx hc hs hS hR (p_lset hn h2 rfl)))
theorem P_lstoren {q : Fin 4} {i : Nat} {x : Int64} (hi : (q : Nat) = i) (hil : i + 1 < mi.2.2.1) (hn : ∀ j, j + 1 = i → p_nlo ls[j]? = true) (hd : decode mi.2.1 pc = .ok (.lstore_n q, 1)) (kk : P g d mi (pc + 1) ((ls.set i (some (vl x))).set (i + 1) none) st σ k Q) : P g d mi pc ls (vl x :: st) σ k Q := by
  intro p e R s m args below meth c H locs cells slots jls fx hc hs hS hR hL
  exact lv_lstore_n fx.1 fx.2.1 hd hi hL hil rfl (fun jls2 h2 => (kk p e R s m args below meth c H locs cells slots jls2 fx hc hs hS hR (p_lset2 hn h2 rfl)))
theorem P_lstore {i : Nat} {x : Int64} (hil : i + 1 < mi.2.2.1) (hn : ∀ j, j + 1 = i → p_nlo ls[j]? = true) (hd : decode mi.2.1 pc = .ok (.lstore i, 2)) (kk : P g d mi (pc + 2) ((ls.set i (some (vl x))).set (i + 1) none) st σ k Q) : P g d mi pc ls (vl x :: st) σ k Q := by
  intro p e R s m args below meth c H locs cells slots jls fx hc hs hS hR hL
  exact lv_lstore fx.1 fx.2.1 hd hL hil rfl (fun jls2 h2 => (kk p e R s m args below meth c H locs cells slots jls2 fx hc hs hS hR (p_lset2 hn h2 rfl)))
theorem p_lcat (ls : List (Option PV)) (i : Nat) {x : Int32} (hx : ls[i]? = some (some (vi x))) : ∃ kk : Nat, (p_lc 0 ls)[kk]? = some (i, .int x) := by
  have h := p_lc_of ls 0 i (vi x) hx
  rw [Nat.zero_add] at h
  exact List.getElem?_of_mem h
theorem P_iinc {i : Nat} {n : Int} {x v : Int32} (hx : ls[i]? = some (some (vi x))) (hv : x + Int32.ofInt n = v) (hil : i < mi.2.2.1) (hn : ∀ j, j + 1 = i → p_nlo ls[j]? = true) (hd : decode mi.2.1 pc = .ok (.iinc i n, 3)) (kk : P g d mi (pc + 3) (ls.set i (some (vi v))) st σ k Q) : P g d mi pc ls st σ k Q := by
  intro p e R s m args below meth c H locs cells slots jls fx hc hs hS hR hL
  obtain ⟨z, hz⟩ := p_lcat ls i hx
  exact lv_iinc fx.1 fx.2.1 hd hL hz hv hil rfl (fun jls2 h2 => (kk p e R s m args below meth c H locs cells slots jls2 fx hc hs hS hR (p_lset hn h2 rfl)))
theorem P_ifeq {x : Int32} {off : Int} {tgt : Nat} (hd : decode mi.2.1 pc = .ok (.ifCond .eq off, 3)) (ht : (pc : Int) + off = (tgt : Int)) (kt : x = 0 → P g d mi tgt ls st σ k Q) (kf : ¬ x = 0 → P g d mi (pc + 3) ls st σ k Q) : P g d mi pc ls (vi x :: st) σ k Q := by
  intro p e R s m args below meth c H locs cells slots jls fx hc hs hS hR hL
  exact lv_if_eq fx.1 fx.2.1 hd ht (fun hh => kt hh p e R s m args below meth c H locs cells slots jls fx hc hs hS hR hL) (fun hh => kf hh p e R s m args below meth c H locs cells slots jls fx hc hs hS hR hL)
theorem P_icmpeq {x y : Int32} {off : Int} {tgt : Nat} (hd : decode mi.2.1 pc = .ok (.if_icmp .eq off, 3)) (ht : (pc : Int) + off = (tgt : Int)) (kt : x = y → P g d mi tgt ls st σ k Q) (kf : ¬ x = y → P g d mi (pc + 3) ls st σ k Q) : P g d mi pc ls (vi y :: vi x :: st) σ k Q := by
  intro p e R s m args below meth c H locs cells slots jls fx hc hs hS hR hL
  exact lv_icmp_eq fx.1 fx.2.1 hd ht (fun hh => kt hh p e R s m args below meth c H locs cells slots jls fx hc hs hS hR hL) (fun hh => kf hh p e R s m args below meth c H locs cells slots jls fx hc hs hS hR hL)
theorem P_ifne {x : Int32} {off : Int} {tgt : Nat} (hd : decode mi.2.1 pc = .ok (.ifCond .ne off, 3)) (ht : (pc : Int) + off = (tgt : Int)) (kt : ¬ x = 0 → P g d mi tgt ls st σ k Q) (kf : x = 0 → P g d mi (pc + 3) ls st σ k Q) : P g d mi pc ls (vi x :: st) σ k Q := by
  intro p e R s m args below meth c H locs cells slots jls fx hc hs hS hR hL
  exact lv_if_ne fx.1 fx.2.1 hd ht (fun hh => kt hh p e R s m args below meth c H locs cells slots jls fx hc hs hS hR hL) (fun hh => kf hh p e R s m args below meth c H locs cells slots jls fx hc hs hS hR hL)
theorem P_icmpne {x y : Int32} {off : Int} {tgt : Nat} (hd : decode mi.2.1 pc = .ok (.if_icmp .ne off, 3)) (ht : (pc : Int) + off = (tgt : Int)) (kt : ¬ x = y → P g d mi tgt ls st σ k Q) (kf : x = y → P g d mi (pc + 3) ls st σ k Q) : P g d mi pc ls (vi y :: vi x :: st) σ k Q := by
  intro p e R s m args below meth c H locs cells slots jls fx hc hs hS hR hL
  exact lv_icmp_ne fx.1 fx.2.1 hd ht (fun hh => kt hh p e R s m args below meth c H locs cells slots jls fx hc hs hS hR hL) (fun hh => kf hh p e R s m args below meth c H locs cells slots jls fx hc hs hS hR hL)
theorem P_iflt {x : Int32} {off : Int} {tgt : Nat} (hd : decode mi.2.1 pc = .ok (.ifCond .lt off, 3)) (ht : (pc : Int) + off = (tgt : Int)) (kt : x < 0 → P g d mi tgt ls st σ k Q) (kf : ¬ x < 0 → P g d mi (pc + 3) ls st σ k Q) : P g d mi pc ls (vi x :: st) σ k Q := by
  intro p e R s m args below meth c H locs cells slots jls fx hc hs hS hR hL
  exact lv_if_lt fx.1 fx.2.1 hd ht (fun hh => kt hh p e R s m args below meth c H locs cells slots jls fx hc hs hS hR hL) (fun hh => kf hh p e R s m args below meth c H locs cells slots jls fx hc hs hS hR hL)
theorem P_icmplt {x y : Int32} {off : Int} {tgt : Nat} (hd : decode mi.2.1 pc = .ok (.if_icmp .lt off, 3)) (ht : (pc : Int) + off = (tgt : Int)) (kt : x < y → P g d mi tgt ls st σ k Q) (kf : ¬ x < y → P g d mi (pc + 3) ls st σ k Q) : P g d mi pc ls (vi y :: vi x :: st) σ k Q := by
  intro p e R s m args below meth c H locs cells slots jls fx hc hs hS hR hL
  exact lv_icmp_lt fx.1 fx.2.1 hd ht (fun hh => kt hh p e R s m args below meth c H locs cells slots jls fx hc hs hS hR hL) (fun hh => kf hh p e R s m args below meth c H locs cells slots jls fx hc hs hS hR hL)
theorem P_ifge {x : Int32} {off : Int} {tgt : Nat} (hd : decode mi.2.1 pc = .ok (.ifCond .ge off, 3)) (ht : (pc : Int) + off = (tgt : Int)) (kt : 0 ≤ x → P g d mi tgt ls st σ k Q) (kf : ¬ 0 ≤ x → P g d mi (pc + 3) ls st σ k Q) : P g d mi pc ls (vi x :: st) σ k Q := by
  intro p e R s m args below meth c H locs cells slots jls fx hc hs hS hR hL
  exact lv_if_ge fx.1 fx.2.1 hd ht (fun hh => kt hh p e R s m args below meth c H locs cells slots jls fx hc hs hS hR hL) (fun hh => kf hh p e R s m args below meth c H locs cells slots jls fx hc hs hS hR hL)
theorem P_icmpge {x y : Int32} {off : Int} {tgt : Nat} (hd : decode mi.2.1 pc = .ok (.if_icmp .ge off, 3)) (ht : (pc : Int) + off = (tgt : Int)) (kt : y ≤ x → P g d mi tgt ls st σ k Q) (kf : ¬ y ≤ x → P g d mi (pc + 3) ls st σ k Q) : P g d mi pc ls (vi y :: vi x :: st) σ k Q := by
  intro p e R s m args below meth c H locs cells slots jls fx hc hs hS hR hL
  exact lv_icmp_ge fx.1 fx.2.1 hd ht (fun hh => kt hh p e R s m args below meth c H locs cells slots jls fx hc hs hS hR hL) (fun hh => kf hh p e R s m args below meth c H locs cells slots jls fx hc hs hS hR hL)
theorem P_ifgt {x : Int32} {off : Int} {tgt : Nat} (hd : decode mi.2.1 pc = .ok (.ifCond .gt off, 3)) (ht : (pc : Int) + off = (tgt : Int)) (kt : 0 < x → P g d mi tgt ls st σ k Q) (kf : ¬ 0 < x → P g d mi (pc + 3) ls st σ k Q) : P g d mi pc ls (vi x :: st) σ k Q := by
  intro p e R s m args below meth c H locs cells slots jls fx hc hs hS hR hL
  exact lv_if_gt fx.1 fx.2.1 hd ht (fun hh => kt hh p e R s m args below meth c H locs cells slots jls fx hc hs hS hR hL) (fun hh => kf hh p e R s m args below meth c H locs cells slots jls fx hc hs hS hR hL)
theorem P_icmpgt {x y : Int32} {off : Int} {tgt : Nat} (hd : decode mi.2.1 pc = .ok (.if_icmp .gt off, 3)) (ht : (pc : Int) + off = (tgt : Int)) (kt : y < x → P g d mi tgt ls st σ k Q) (kf : ¬ y < x → P g d mi (pc + 3) ls st σ k Q) : P g d mi pc ls (vi y :: vi x :: st) σ k Q := by
  intro p e R s m args below meth c H locs cells slots jls fx hc hs hS hR hL
  exact lv_icmp_gt fx.1 fx.2.1 hd ht (fun hh => kt hh p e R s m args below meth c H locs cells slots jls fx hc hs hS hR hL) (fun hh => kf hh p e R s m args below meth c H locs cells slots jls fx hc hs hS hR hL)
theorem P_ifle {x : Int32} {off : Int} {tgt : Nat} (hd : decode mi.2.1 pc = .ok (.ifCond .le off, 3)) (ht : (pc : Int) + off = (tgt : Int)) (kt : x ≤ 0 → P g d mi tgt ls st σ k Q) (kf : ¬ x ≤ 0 → P g d mi (pc + 3) ls st σ k Q) : P g d mi pc ls (vi x :: st) σ k Q := by
  intro p e R s m args below meth c H locs cells slots jls fx hc hs hS hR hL
  exact lv_if_le fx.1 fx.2.1 hd ht (fun hh => kt hh p e R s m args below meth c H locs cells slots jls fx hc hs hS hR hL) (fun hh => kf hh p e R s m args below meth c H locs cells slots jls fx hc hs hS hR hL)
theorem P_icmple {x y : Int32} {off : Int} {tgt : Nat} (hd : decode mi.2.1 pc = .ok (.if_icmp .le off, 3)) (ht : (pc : Int) + off = (tgt : Int)) (kt : x ≤ y → P g d mi tgt ls st σ k Q) (kf : ¬ x ≤ y → P g d mi (pc + 3) ls st σ k Q) : P g d mi pc ls (vi y :: vi x :: st) σ k Q := by
  intro p e R s m args below meth c H locs cells slots jls fx hc hs hS hR hL
  exact lv_icmp_le fx.1 fx.2.1 hd ht (fun hh => kt hh p e R s m args below meth c H locs cells slots jls fx hc hs hS hR hL) (fun hh => kf hh p e R s m args below meth c H locs cells slots jls fx hc hs hS hR hL)
theorem P_goto {off : Int} {tgt : Nat} (hd : decode mi.2.1 pc = .ok (.goto off, 3)) (ht : (pc : Int) + off = (tgt : Int)) (kk : P g d mi tgt ls st σ k Q) : P g d mi pc ls st σ k Q := by
  intro p e R s m args below meth c H locs cells slots jls fx hc hs hS hR hL
  exact lv_goto fx.1 fx.2.1 hd ht (kk p e R s m args below meth c H locs cells slots jls fx hc hs hS hR hL)
theorem P_ifnonnull {r : Option Nat} {off : Int} {tgt : Nat} (hd : decode mi.2.1 pc = .ok (.ifnonnull off, 3)) (ht : (pc : Int) + off = (tgt : Int)) (kt : ∀ a, r = some a → P g d mi tgt ls st σ k Q) (kf : r = none → P g d mi (pc + 3) ls st σ k Q) : P g d mi pc ls (vq r :: st) σ k Q := by
  intro p e R s m args below meth c H locs cells slots jls fx hc hs hS hR hL
  cases r with
  | none => exact lv_ifnonnullN fx.1 fx.2.1 hd (kf rfl p e R s m args below meth c H locs cells slots jls fx hc hs hS hR hL)
  | some a => exact lv_ifnonnull fx.1 fx.2.1 hd ht (kt a rfl p e R s m args below meth c H locs cells slots jls fx hc hs hS hR hL)
theorem P_ifnull {r : Option Nat} {off : Int} {tgt : Nat} (hd : decode mi.2.1 pc = .ok (.ifnull off, 3)) (ht : (pc : Int) + off = (tgt : Int)) (kt : r = none → P g d mi tgt ls st σ k Q) (kf : ∀ a, r = some a → P g d mi (pc + 3) ls st σ k Q) : P g d mi pc ls (vq r :: st) σ k Q := by
  intro p e R s m args below meth c H locs cells slots jls fx hc hs hS hR hL
  cases r with
  | none => exact lv_ifnullN fx.1 fx.2.1 hd ht (kt rfl p e R s m args below meth c H locs cells slots jls fx hc hs hS hR hL)
  | some a => exact lv_ifnull fx.1 fx.2.1 hd (kf a rfl p e R s m args below meth c H locs cells slots jls fx hc hs hS hR hL)
theorem P_tabOut {dflt lo hi : Int} {offs : Array Int} {len : Nat} {x : Int32} {tgt : Nat} (hd : decode mi.2.1 pc = .ok (.tableswitch dflt lo hi offs, len)) (h : x.toInt < lo ∨ hi < x.toInt) (ht : (pc : Int) + dflt = (tgt : Int)) (kk : P g d mi tgt ls st σ k Q) : P g d mi pc ls (vi x :: st) σ k Q := by
  intro p e R s m args below meth c H locs cells slots jls fx hc hs hS hR hL
  exact lv_tableOut fx.1 fx.2.1 hd h ht (kk p e R s m args below meth c H locs cells slots jls fx hc hs hS hR hL)
theorem P_tabIn {dflt lo hi : Int} {offs : Array Int} {len : Nat} {x : Int32} {off : Int} {tgt : Nat} (hd : decode mi.2.1 pc = .ok (.tableswitch dflt lo hi offs, len)) (h1 : ¬ x.toInt < lo) (h2 : ¬ hi < x.toInt) (ho : offs[(x.toInt - lo).toNat]? = some off) (ht : (pc : Int) + off = (tgt : Int)) (kk : P g d mi tgt ls st σ k Q) : P g d mi pc ls (vi x :: st) σ k Q := by
  intro p e R s m args below meth c H locs cells slots jls fx hc hs hS hR hL
  exact lv_tableIn fx.1 fx.2.1 hd h1 h2 ho ht (kk p e R s m args below meth c H locs cells slots jls fx hc hs hS hR hL)
theorem P_lookup {dflt : Int} {ps : Array (Int × Int)} {len : Nat} {x : Int32} {off : Int} {tgt : Nat} (hd : decode mi.2.1 pc = .ok (.lookupswitch dflt ps, len)) (hp : (ps.toList.zip (ps.toList.drop 1)).all (fun (a, next) => a.1 < next.1) = true) (ho : Op.lookupswitch.offset ps.toList dflt x.toInt = off) (ht : (pc : Int) + off = (tgt : Int)) (kk : P g d mi tgt ls st σ k Q) : P g d mi pc ls (vi x :: st) σ k Q := by
  intro p e R s m args below meth c H locs cells slots jls fx hc hs hS hR hL
  exact lv_lookup fx.1 fx.2.1 hd hp ho ht (kk p e R s m args below meth c H locs cells slots jls fx hc hs hS hR hL)
theorem P_ireturn {x : Int32} (hr : mi.2.2.2 = some .int) (hd : decode mi.2.1 pc = .ok (.ireturn, 1)) (hq : Q (some (vi x)) σ) : P g d mi pc ls [vi x] σ k Q := by
  intro p e R s m args below meth c H locs cells slots jls fx hc hs hS hR hL
  refine W.widen (k := cells + k.1) (n := slots + k.2) (by omega) (by omega) ?_
  exact W.iret fx.1 fx.2.1 (fx.2.2.2.1.trans hr) (fun t ht hW => ⟨⟨some (vi x), σ, rfl, hq, by rw [ht]; exact hR⟩, hS.F ht⟩) hS.2.2 hd fx.2.2.2.2.2.2.1
theorem P_zreturn {x : Int32} (hr : mi.2.2.2 = some .boolean) (hx : x = 0 ∨ x = 1) (hd : decode mi.2.1 pc = .ok (.ireturn, 1)) (hq : Q (some (vi x)) σ) : P g d mi pc ls [vi x] σ k Q := by
  intro p e R s m args below meth c H locs cells slots jls fx hc hs hS hR hL
  refine W.widen (k := cells + k.1) (n := slots + k.2) (by omega) (by omega) ?_
  exact W.zret fx.1 fx.2.1 (fx.2.2.2.1.trans hr) (by rcases hx with rfl | rfl <;> rfl) (fun t ht hW => ⟨⟨some (vi x), σ, rfl, hq, by rw [ht]; exact hR⟩, hS.F ht⟩) hS.2.2 hd fx.2.2.2.2.2.2.1
theorem P_creturn {x : Int32} (hr : mi.2.2.2 = some .char) (hx : narrow .char (.int x) = .int x) (hd : decode mi.2.1 pc = .ok (.ireturn, 1)) (hq : Q (some (vi x)) σ) : P g d mi pc ls [vi x] σ k Q := by
  intro p e R s m args below meth c H locs cells slots jls fx hc hs hS hR hL
  refine W.widen (k := cells + k.1) (n := slots + k.2) (by omega) (by omega) ?_
  exact W.zret fx.1 fx.2.1 (fx.2.2.2.1.trans hr) hx (fun t ht hW => ⟨⟨some (vi x), σ, rfl, hq, by rw [ht]; exact hR⟩, hS.F ht⟩) hS.2.2 hd fx.2.2.2.2.2.2.1
theorem P_return (hr : mi.2.2.2 = none) (hd : decode mi.2.1 pc = .ok (.return_, 1)) (hq : Q none σ) : P g d mi pc ls [] σ k Q := by
  intro p e R s m args below meth c H locs cells slots jls fx hc hs hS hR hL
  refine W.widen (k := cells + k.1) (n := slots + k.2) (by omega) (by omega) ?_
  exact W.vret fx.1 fx.2.1 (fx.2.2.2.1.trans hr) (fun t ht hW => ⟨⟨none, σ, rfl, hq, by rw [ht]; exact hR⟩, hS.F ht⟩) hS.2.2 hd fx.2.2.2.2.2.2.1
theorem P_areturn {x : Option Nat} {C : String} (hr : mi.2.2.2 = some (.object C)) (hd : decode mi.2.1 pc = .ok (.areturn, 1)) (hq : Q (some (vq x)) σ) : P g d mi pc ls [vq x] σ k Q := by
  intro p e R s m args below meth c H locs cells slots jls fx hc hs hS hR hL
  refine W.widen (k := cells + k.1) (n := slots + k.2) (by omega) (by omega) ?_
  cases x with
  | none => exact W.aret (v := .null) fx.1 fx.2.1 (fx.2.2.2.1.trans hr) (Or.inl ⟨C, rfl⟩) (Or.inl rfl) (fun t ht hW => ⟨⟨some (vq none), σ, rfl, hq, by rw [ht]; exact hR⟩, hS.F ht⟩) hS.2.2 hd fx.2.2.2.2.2.2.1
  | some a => exact W.aret (v := .ref a) fx.1 fx.2.1 (fx.2.2.2.1.trans hr) (Or.inl ⟨C, rfl⟩) (Or.inr ⟨a, rfl⟩) (fun t ht hW => ⟨⟨some (vq (some a)), σ, rfl, hq, by rw [ht]; exact hR⟩, hS.F ht⟩) hS.2.2 hd fx.2.2.2.2.2.2.1
theorem P_objInit {idx : Nat} {a : Nat} (h1 : Cond.methodLink mi.1.cls idx Lib.objectInit ∈ p_TG) (h2 : Cond.instanceMethod Lib.objectInit ∈ p_TG) (h3 : Cond.code Lib.objectInit ⟨#[0xb1]⟩ 1 none ∈ p_TG) (hd : decode mi.2.1 pc = .ok (.invokespecial idx, 3)) (hn : Nat.ble (st.map fun v => (tv v).category).sum 8 = true) (kk : P g d mi (pc + 3) ls st σ k Q) : P g d mi pc ls (vr a :: st) σ k Q := by
  intro p e R s m args below meth c H locs cells slots jls fx hc hs hS hR hL
  have hts := fx.2.2.2.2.2.1
  have hn2 := Nat.le_of_ble_eq_true hn
  refine W.objInit fx.1 fx.2.1 fx.2.2.2.2.1 (hts _ h1) (hts _ h2) (hts _ h3) rfl (by rw [fx.2.2.1]; exact hL.1) (a := a) (rest := st.map tv) rfl hd (by have := fx.2.2.2.2.2.2.2.2.2.2.1; omega) ?_ ?_
  · have h4 := fx.2.2.2.2.2.2.2.2.2.2.2
    rw [List.map_map]
    show 2 * 0 + (st.map fun v => (tv v).category).sum + 12 ≤ _
    omega
  · exact (kk p e R s m args below meth c H locs cells slots jls fx hc hs hS hR hL)
theorem P_mmax {idx : Nat} {x y : Int32} (h1 : Cond.methodLink mi.1.cls idx Lib.Math.max.name ∈ p_TG) (h2 : Cond.static Lib.Math.max.name ∈ p_TG) (h3 : Cond.initialized "java/lang/Math" ∈ p_TG) (h4 : Cond.code Lib.Math.max.name Lib.Math.max.code 2 (some .int) ∈ p_TG) (hd : decode mi.2.1 pc = .ok (.invokestatic idx, 3)) (hn : Nat.ble (st.map fun v => (tv v).category).sum 8 = true) (kk : P g d mi (pc + 3) ls (vi (if x < y then y else x) :: st) σ k Q) : P g d mi pc ls (vi y :: vi x :: st) σ k Q := by
  intro p e R s m args below meth c H locs cells slots jls fx hc hs hS hR hL
  have hts := fx.2.2.2.2.2.1
  have hn2 := Nat.le_of_ble_eq_true hn
  have h6 := fx.2.2.2.2.2.2.2.2.2.2.2
  refine va_mmax fx.1 fx.2.1 (by rw [fx.2.2.1]; exact hL.1.symm) fx.2.2.2.2.1 (hts _ h1) (hts _ h2) (hts _ h3) (hts _ h4) (by have := fx.2.2.2.2.2.2.2.2.2.2.1; omega) ?_ (by omega) (by omega) (rest := st.map tv) hd (kk p e R s m args below meth c H locs cells slots jls fx hc hs hS hR hL)
  rw [List.map_map]
  show (st.map fun v => (tv v).category).sum + 13 ≤ _
  omega
theorem P_mmin {idx : Nat} {x y : Int32} (h1 : Cond.methodLink mi.1.cls idx Lib.Math.min.name ∈ p_TG) (h2 : Cond.static Lib.Math.min.name ∈ p_TG) (h3 : Cond.initialized "java/lang/Math" ∈ p_TG) (h4 : Cond.code Lib.Math.min.name Lib.Math.min.code 2 (some .int) ∈ p_TG) (hd : decode mi.2.1 pc = .ok (.invokestatic idx, 3)) (hn : Nat.ble (st.map fun v => (tv v).category).sum 8 = true) (kk : P g d mi (pc + 3) ls (vi (if y < x then y else x) :: st) σ k Q) : P g d mi pc ls (vi y :: vi x :: st) σ k Q := by
  intro p e R s m args below meth c H locs cells slots jls fx hc hs hS hR hL
  have hts := fx.2.2.2.2.2.1
  have hn2 := Nat.le_of_ble_eq_true hn
  have h6 := fx.2.2.2.2.2.2.2.2.2.2.2
  refine va_mmin fx.1 fx.2.1 (by rw [fx.2.2.1]; exact hL.1.symm) fx.2.2.2.2.1 (hts _ h1) (hts _ h2) (hts _ h3) (hts _ h4) (by have := fx.2.2.2.2.2.2.2.2.2.2.1; omega) ?_ (by omega) (by omega) (rest := st.map tv) hd (kk p e R s m args below meth c H locs cells slots jls fx hc hs hS hR hL)
  rw [List.map_map]
  show (st.map fun v => (tv v).category).sum + 13 ≤ _
  omega
end PRows2
