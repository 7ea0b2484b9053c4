section PStores
variable {g : PG} {d : Nat} {mi : PI} {pc : Nat} {st : List PV} {σ : PS} {k : Nat × Nat} {Q : Option PV → PS → Prop} {r : List (Option PV)}
theorem P_is0 {z : Option PV} {x : Int32} (hd : decode mi.2.1 pc = .ok (.istore_n 0, 1) ∨ False) (hb : Nat.blt 0 mi.2.2.1 = true) (hn : true = true) (kk : P g d mi (pc + 1) (some (vi x) :: r) st σ k Q) : P g d mi pc (z :: r) (vi x :: st) σ k Q := by
  rcases hd with hd | hd
  · exact P_istoren (i := 0) rfl (Nat.le_of_ble_eq_true hb) (fun j hj => by omega) hd kk
  · exact hd.elim
theorem P_as0 {z : Option PV} {x : Option Nat} (hd : decode mi.2.1 pc = .ok (.astore_n 0, 1) ∨ False) (hb : Nat.blt 0 mi.2.2.1 = true) (hn : true = true) (kk : P g d mi (pc + 1) (some (vq x) :: r) st σ k Q) : P g d mi pc (z :: r) (vq x :: st) σ k Q := by
  rcases hd with hd | hd
  · exact P_astoren (i := 0) rfl (Nat.le_of_ble_eq_true hb) (fun j hj => by omega) hd kk
  · exact hd.elim
theorem P_ls0 {z z2 : Option PV} {x : Int64} (hd : decode mi.2.1 pc = .ok (.lstore_n 0, 1) ∨ False) (hb : Nat.blt 1 mi.2.2.1 = true) (hn : true = true) (kk : P g d mi (pc + 1) (some (vl x) :: none :: r) st σ k Q) : P g d mi pc (z :: z2 :: r) (vl x :: st) σ k Q := by
  rcases hd with hd | hd
  · refine P_lstoren (i := 0) rfl (Nat.le_of_ble_eq_true hb) (fun j hj => by omega) hd ?_
    exact kk
  · exact hd.elim
theorem P_in0 {n : Int} {x v : Int32} (hv : x + Int32.ofInt n = v) (hd : decode mi.2.1 pc = .ok (.iinc 0 n, 3)) (hb : Nat.blt 0 mi.2.2.1 = true) (hn : true = true) (kk : P g d mi (pc + 3) (some (vi v) :: r) st σ k Q) : P g d mi pc (some (vi x) :: r) st σ k Q :=
  P_iinc (i := 0) rfl hv (Nat.le_of_ble_eq_true hb) (fun j hj => by omega) hd kk
theorem P_inN0 {n : Nat} (hd : decode mi.2.1 pc = .ok (.iinc 0 1, 3)) (hb : Nat.blt 0 mi.2.2.1 = true) (hn : true = true) (kk : P g d mi (pc + 3) (some (vi (Int32.ofNat (n + 1))) :: r) st σ k Q) : P g d mi pc (some (vi (Int32.ofNat n)) :: r) st σ k Q :=
  P_in0 (n_succ n) hd hb hn kk
theorem P_is1 {x0 z : Option PV} {x : Int32} (hd : decode mi.2.1 pc = .ok (.istore_n 1, 1) ∨ False) (hb : Nat.blt 1 mi.2.2.1 = true) (hn : p_nl x0 = true) (kk : P g d mi (pc + 1) (x0 :: some (vi x) :: r) st σ k Q) : P g d mi pc (x0 :: z :: r) (vi x :: st) σ k Q := by
  rcases hd with hd | hd
  · exact P_istoren (i := 1) rfl (Nat.le_of_ble_eq_true hb) (fun j hj => by have hj2 : j = 0 := (by omega); subst hj2; exact hn) hd kk
  · exact hd.elim
theorem P_as1 {x0 z : Option PV} {x : Option Nat} (hd : decode mi.2.1 pc = .ok (.astore_n 1, 1) ∨ False) (hb : Nat.blt 1 mi.2.2.1 = true) (hn : p_nl x0 = true) (kk : P g d mi (pc + 1) (x0 :: some (vq x) :: r) st σ k Q) : P g d mi pc (x0 :: z :: r) (vq x :: st) σ k Q := by
  rcases hd with hd | hd
  · exact P_astoren (i := 1) rfl (Nat.le_of_ble_eq_true hb) (fun j hj => by have hj2 : j = 0 := (by omega); subst hj2; exact hn) hd kk
  · exact hd.elim
theorem P_ls1 {x0 z z2 : Option PV} {x : Int64} (hd : decode mi.2.1 pc = .ok (.lstore_n 1, 1) ∨ False) (hb : Nat.blt 2 mi.2.2.1 = true) (hn : p_nl x0 = true) (kk : P g d mi (pc + 1) (x0 :: some (vl x) :: none :: r) st σ k Q) : P g d mi pc (x0 :: z :: z2 :: r) (vl x :: st) σ k Q := by
  rcases hd with hd | hd
  · refine P_lstoren (i := 1) rfl (Nat.le_of_ble_eq_true hb) (fun j hj => by have hj2 : j = 0 := (by omega); subst hj2; exact hn) hd ?_
    exact kk
  · exact hd.elim
theorem P_in1 {x0 : Option PV} {n : Int} {x v : Int32} (hv : x + Int32.ofInt n = v) (hd : decode mi.2.1 pc = .ok (.iinc 1 n, 3)) (hb : Nat.blt 1 mi.2.2.1 = true) (hn : p_nl x0 = true) (kk : P g d mi (pc + 3) (x0 :: some (vi v) :: r) st σ k Q) : P g d mi pc (x0 :: some (vi x) :: r) st σ k Q :=
  P_iinc (i := 1) rfl hv (Nat.le_of_ble_eq_true hb) (fun j hj => by have hj2 : j = 0 := (by omega); subst hj2; exact hn) hd kk
theorem P_inN1 {x0 : Option PV} {n : Nat} (hd : decode mi.2.1 pc = .ok (.iinc 1 1, 3)) (hb : Nat.blt 1 mi.2.2.1 = true) (hn : p_nl x0 = true) (kk : P g d mi (pc + 3) (x0 :: some (vi (Int32.ofNat (n + 1))) :: r) st σ k Q) : P g d mi pc (x0 :: some (vi (Int32.ofNat n)) :: r) st σ k Q :=
  P_in1 (n_succ n) hd hb hn kk
theorem P_is2 {x0 x1 z : Option PV} {x : Int32} (hd : decode mi.2.1 pc = .ok (.istore_n 2, 1) ∨ False) (hb : Nat.blt 2 mi.2.2.1 = true) (hn : p_nl x1 = true) (kk : P g d mi (pc + 1) (x0 :: x1 :: some (vi x) :: r) st σ k Q) : P g d mi pc (x0 :: x1 :: z :: r) (vi x :: st) σ k Q := by
  rcases hd with hd | hd
  · exact P_istoren (i := 2) rfl (Nat.le_of_ble_eq_true hb) (fun j hj => by have hj2 : j = 1 := (by omega); subst hj2; exact hn) hd kk
  · exact hd.elim
theorem P_as2 {x0 x1 z : Option PV} {x : Option Nat} (hd : decode mi.2.1 pc = .ok (.astore_n 2, 1) ∨ False) (hb : Nat.blt 2 mi.2.2.1 = true) (hn : p_nl x1 = true) (kk : P g d mi (pc + 1) (x0 :: x1 :: some (vq x) :: r) st σ k Q) : P g d mi pc (x0 :: x1 :: z :: r) (vq x :: st) σ k Q := by
  rcases hd with hd | hd
  · exact P_astoren (i := 2) rfl (Nat.le_of_ble_eq_true hb) (fun j hj => by have hj2 : j = 1 := (by omega); subst hj2; exact hn) hd kk
  · exact hd.elim
theorem P_ls2 {x0 x1 z z2 : Option PV} {x : Int64} (hd : decode mi.2.1 pc = .ok (.lstore_n 2, 1) ∨ False) (hb : Nat.blt 3 mi.2.2.1 = true) (hn : p_nl x1 = true) (kk : P g d mi (pc + 1) (x0 :: x1 :: some (vl x) :: none :: r) st σ k Q) : P g d mi pc (x0 :: x1 :: z :: z2 :: r) (vl x :: st) σ k Q := by
  rcases hd with hd | hd
  · refine P_lstoren (i := 2) rfl (Nat.le_of_ble_eq_true hb) (fun j hj => by have hj2 : j = 1 := (by omega); subst hj2; exact hn) hd ?_
    exact kk
  · exact hd.elim
theorem P_in2 {x0 x1 : Option PV} {n : Int} {x v : Int32} (hv : x + Int32.ofInt n = v) (hd : decode mi.2.1 pc = .ok (.iinc 2 n, 3)) (hb : Nat.blt 2 mi.2.2.1 = true) (hn : p_nl x1 = true) (kk : P g d mi (pc + 3) (x0 :: x1 :: some (vi v) :: r) st σ k Q) : P g d mi pc (x0 :: x1 :: some (vi x) :: r) st σ k Q :=
  P_iinc (i := 2) rfl hv (Nat.le_of_ble_eq_true hb) (fun j hj => by have hj2 : j = 1 := (by omega); subst hj2; exact hn) hd kk
theorem P_inN2 {x0 x1 : Option PV} {n : Nat} (hd : decode mi.2.1 pc = .ok (.iinc 2 1, 3)) (hb : Nat.blt 2 mi.2.2.1 = true) (hn : p_nl x1 = true) (kk : P g d mi (pc + 3) (x0 :: x1 :: some (vi (Int32.ofNat (n + 1))) :: r) st σ k Q) : P g d mi pc (x0 :: x1 :: some (vi (Int32.ofNat n)) :: r) st σ k Q :=
  P_in2 (n_succ n) hd hb hn kk
theorem P_is3 {x0 x1 x2 z : Option PV} {x : Int32} (hd : decode mi.2.1 pc = .ok (.istore_n 3, 1) ∨ False) (hb : Nat.blt 3 mi.2.2.1 = true) (hn : p_nl x2 = true) (kk : P g d mi (pc + 1) (x0 :: x1 :: x2 :: some (vi x) :: r) st σ k Q) : P g d mi pc (x0 :: x1 :: x2 :: z :: r) (vi x :: st) σ k Q := by
  rcases hd with hd | hd
  · exact P_istoren (i := 3) rfl (Nat.le_of_ble_eq_true hb) (fun j hj => by have hj2 : j = 2 := (by omega); subst hj2; exact hn) hd kk
  · exact hd.elim
theorem P_as3 {x0 x1 x2 z : Option PV} {x : Option Nat} (hd : decode mi.2.1 pc = .ok (.astore_n 3, 1) ∨ False) (hb : Nat.blt 3 mi.2.2.1 = true) (hn : p_nl x2 = true) (kk : P g d mi (pc + 1) (x0 :: x1 :: x2 :: some (vq x) :: r) st σ k Q) : P g d mi pc (x0 :: x1 :: x2 :: z :: r) (vq x :: st) σ k Q := by
  rcases hd with hd | hd
  · exact P_astoren (i := 3) rfl (Nat.le_of_ble_eq_true hb) (fun j hj => by have hj2 : j = 2 := (by omega); subst hj2; exact hn) hd kk
  · exact hd.elim
theorem P_ls3 {x0 x1 x2 z z2 : Option PV} {x : Int64} (hd : decode mi.2.1 pc = .ok (.lstore_n 3, 1) ∨ False) (hb : Nat.blt 4 mi.2.2.1 = true) (hn : p_nl x2 = true) (kk : P g d mi (pc + 1) (x0 :: x1 :: x2 :: some (vl x) :: none :: r) st σ k Q) : P g d mi pc (x0 :: x1 :: x2 :: z :: z2 :: r) (vl x :: st) σ k Q := by
  rcases hd with hd | hd
  · refine P_lstoren (i := 3) rfl (Nat.le_of_ble_eq_true hb) (fun j hj => by have hj2 : j = 2 := (by omega); subst hj2; exact hn) hd ?_
    exact kk
  · exact hd.elim
theorem P_in3 {x0 x1 x2 : Option PV} {n : Int} {x v : Int32} (hv : x + Int32.ofInt n = v) (hd : decode mi.2.1 pc = .ok (.iinc 3 n, 3)) (hb : Nat.blt 3 mi.2.2.1 = true) (hn : p_nl x2 = true) (kk : P g d mi (pc + 3) (x0 :: x1 :: x2 :: some (vi v) :: r) st σ k Q) : P g d mi pc (x0 :: x1 :: x2 :: some (vi x) :: r) st σ k Q :=
  P_iinc (i := 3) rfl hv (Nat.le_of_ble_eq_true hb) (fun j hj => by have hj2 : j = 2 := (by omega); subst hj2; exact hn) hd kk
theorem P_inN3 {x0 x1 x2 : Option PV} {n : Nat} (hd : decode mi.2.1 pc = .ok (.iinc 3 1, 3)) (hb : Nat.blt 3 mi.2.2.1 = true) (hn : p_nl x2 = true) (kk : P g d mi (pc + 3) (x0 :: x1 :: x2 :: some (vi (Int32.ofNat (n + 1))) :: r) st σ k Q) : P g d mi pc (x0 :: x1 :: x2 :: some (vi (Int32.ofNat n)) :: r) st σ k Q :=
  P_in3 (n_succ n) hd hb hn kk
theorem P_is4 {x0 x1 x2 x3 z : Option PV} {x : Int32} (hd : False ∨ decode mi.2.1 pc = .ok (.istore 4, 2)) (hb : Nat.blt 4 mi.2.2.1 = true) (hn : p_nl x3 = true) (kk : P g d mi (pc + 2) (x0 :: x1 :: x2 :: x3 :: some (vi x) :: r) st σ k Q) : P g d mi pc (x0 :: x1 :: x2 :: x3 :: z :: r) (vi x :: st) σ k Q := by
  rcases hd with hd | hd
  · exact hd.elim
  · exact P_istore (i := 4) (Nat.le_of_ble_eq_true hb) (fun j hj => by have hj2 : j = 3 := (by omega); subst hj2; exact hn) hd kk
theorem P_as4 {x0 x1 x2 x3 z : Option PV} {x : Option Nat} (hd : False ∨ decode mi.2.1 pc = .ok (.astore 4, 2)) (hb : Nat.blt 4 mi.2.2.1 = true) (hn : p_nl x3 = true) (kk : P g d mi (pc + 2) (x0 :: x1 :: x2 :: x3 :: some (vq x) :: r) st σ k Q) : P g d mi pc (x0 :: x1 :: x2 :: x3 :: z :: r) (vq x :: st) σ k Q := by
  rcases hd with hd | hd
  · exact hd.elim
  · exact P_astore (i := 4) (Nat.le_of_ble_eq_true hb) (fun j hj => by have hj2 : j = 3 := (by omega); subst hj2; exact hn) hd kk
theorem P_ls4 {x0 x1 x2 x3 z z2 : Option PV} {x : Int64} (hd : False ∨ decode mi.2.1 pc = .ok (.lstore 4, 2)) (hb : Nat.blt 5 mi.2.2.1 = true) (hn : p_nl x3 = true) (kk : P g d mi (pc + 2) (x0 :: x1 :: x2 :: x3 :: some (vl x) :: none :: r) st σ k Q) : P g d mi pc (x0 :: x1 :: x2 :: x3 :: z :: z2 :: r) (vl x :: st) σ k Q := by
  rcases hd with hd | hd
  · exact hd.elim
  · refine P_lstore (i := 4) (Nat.le_of_ble_eq_true hb) (fun j hj => by have hj2 : j = 3 := (by omega); subst hj2; exact hn) hd ?_
    exact kk
theorem P_in4 {x0 x1 x2 x3 : Option PV} {n : Int} {x v : Int32} (hv : x + Int32.ofInt n = v) (hd : decode mi.2.1 pc = .ok (.iinc 4 n, 3)) (hb : Nat.blt 4 mi.2.2.1 = true) (hn : p_nl x3 = true) (kk : P g d mi (pc + 3) (x0 :: x1 :: x2 :: x3 :: some (vi v) :: r) st σ k Q) : P g d mi pc (x0 :: x1 :: x2 :: x3 :: some (vi x) :: r) st σ k Q :=
  P_iinc (i := 4) rfl hv (Nat.le_of_ble_eq_true hb) (fun j hj => by have hj2 : j = 3 := (by omega); subst hj2; exact hn) hd kk
theorem P_inN4 {x0 x1 x2 x3 : Option PV} {n : Nat} (hd : decode mi.2.1 pc = .ok (.iinc 4 1, 3)) (hb : Nat.blt 4 mi.2.2.1 = true) (hn : p_nl x3 = true) (kk : P g d mi (pc + 3) (x0 :: x1 :: x2 :: x3 :: some (vi (Int32.ofNat (n + 1))) :: r) st σ k Q) : P g d mi pc (x0 :: x1 :: x2 :: x3 :: some (vi (Int32.ofNat n)) :: r) st σ k Q :=
  P_in4 (n_succ n) hd hb hn kk
theorem P_is5 {x0 x1 x2 x3 x4 z : Option PV} {x : Int32} (hd : False ∨ decode mi.2.1 pc = .ok (.istore 5, 2)) (hb : Nat.blt 5 mi.2.2.1 = true) (hn : p_nl x4 = true) (kk : P g d mi (pc + 2) (x0 :: x1 :: x2 :: x3 :: x4 :: some (vi x) :: r) st σ k Q) : P g d mi pc (x0 :: x1 :: x2 :: x3 :: x4 :: z :: r) (vi x :: st) σ k Q := by
  rcases hd with hd | hd
  · exact hd.elim
  · exact P_istore (i := 5) (Nat.le_of_ble_eq_true hb) (fun j hj => by have hj2 : j = 4 := (by omega); subst hj2; exact hn) hd kk
theorem P_as5 {x0 x1 x2 x3 x4 z : Option PV} {x : Option Nat} (hd : False ∨ decode mi.2.1 pc = .ok (.astore 5, 2)) (hb : Nat.blt 5 mi.2.2.1 = true) (hn : p_nl x4 = true) (kk : P g d mi (pc + 2) (x0 :: x1 :: x2 :: x3 :: x4 :: some (vq x) :: r) st σ k Q) : P g d mi pc (x0 :: x1 :: x2 :: x3 :: x4 :: z :: r) (vq x :: st) σ k Q := by
  rcases hd with hd | hd
  · exact hd.elim
  · exact P_astore (i := 5) (Nat.le_of_ble_eq_true hb) (fun j hj => by have hj2 : j = 4 := (by omega); subst hj2; exact hn) hd kk
theorem P_ls5 {x0 x1 x2 x3 x4 z z2 : Option PV} {x : Int64} (hd : False ∨ decode mi.2.1 pc = .ok (.lstore 5, 2)) (hb : Nat.blt 6 mi.2.2.1 = true) (hn : p_nl x4 = true) (kk : P g d mi (pc + 2) (x0 :: x1 :: x2 :: x3 :: x4 :: some (vl x) :: none :: r) st σ k Q) : P g d mi pc (x0 :: x1 :: x2 :: x3 :: x4 :: z :: z2 :: r) (vl x :: st) σ k Q := by
  rcases hd with hd | hd
  · exact hd.elim
  · refine P_lstore (i := 5) (Nat.le_of_ble_eq_true hb) (fun j hj => by have hj2 : j = 4 := (by omega); subst hj2; exact hn) hd ?_
    exact kk
theorem P_in5 {x0 x1 x2 x3 x4 : Option PV} {n : Int} {x v : Int32} (hv : x + Int32.ofInt n = v) (hd : decode mi.2.1 pc = .ok (.iinc 5 n, 3)) (hb : Nat.blt 5 mi.2.2.1 = true) (hn : p_nl x4 = true) (kk : P g d mi (pc + 3) (x0 :: x1 :: x2 :: x3 :: x4 :: some (vi v) :: r) st σ k Q) : P g d mi pc (x0 :: x1 :: x2 :: x3 :: x4 :: some (vi x) :: r) st σ k Q :=
  P_iinc (i := 5) rfl hv (Nat.le_of_ble_eq_true hb) (fun j hj => by have hj2 : j = 4 := (by omega); subst hj2; exact hn) hd kk
theorem P_inN5 {x0 x1 x2 x3 x4 : Option PV} {n : Nat} (hd : decode mi.2.1 pc = .ok (.iinc 5 1, 3)) (hb : Nat.blt 5 mi.2.2.1 = true) (hn : p_nl x4 = true) (kk : P g d mi (pc + 3) (x0 :: x1 :: x2 :: x3 :: x4 :: some (vi (Int32.ofNat (n + 1))) :: r) st σ k Q) : P g d mi pc (x0 :: x1 :: x2 :: x3 :: x4 :: some (vi (Int32.ofNat n)) :: r) st σ k Q :=
  P_in5 (n_succ n) hd hb hn kk
theorem P_is6 {x0 x1 x2 x3 x4 x5 z : Option PV} {x : Int32} (hd : False ∨ decode mi.2.1 pc = .ok (.istore 6, 2)) (hb : Nat.blt 6 mi.2.2.1 = true) (hn : p_nl x5 = true) (kk : P g d mi (pc + 2) (x0 :: x1 :: x2 :: x3 :: x4 :: x5 :: some (vi x) :: r) st σ k Q) : P g d mi pc (x0 :: x1 :: x2 :: x3 :: x4 :: x5 :: z :: r) (vi x :: st) σ k Q := by
  rcases hd with hd | hd
  · exact hd.elim
  · exact P_istore (i := 6) (Nat.le_of_ble_eq_true hb) (fun j hj => by have hj2 : j = 5 := (by omega); subst hj2; exact hn) hd kk
theorem P_as6 {x0 x1 x2 x3 x4 x5 z : Option PV} {x : Option Nat} (hd : False ∨ decode mi.2.1 pc = .ok (.astore 6, 2)) (hb : Nat.blt 6 mi.2.2.1 = true) (hn : p_nl x5 = true) (kk : P g d mi (pc + 2) (x0 :: x1 :: x2 :: x3 :: x4 :: x5 :: some (vq x) :: r) st σ k Q) : P g d mi pc (x0 :: x1 :: x2 :: x3 :: x4 :: x5 :: z :: r) (vq x :: st) σ k Q := by
  rcases hd with hd | hd
  · exact hd.elim
  · exact P_astore (i := 6) (Nat.le_of_ble_eq_true hb) (fun j hj => by have hj2 : j = 5 := (by omega); subst hj2; exact hn) hd kk
theorem P_ls6 {x0 x1 x2 x3 x4 x5 z z2 : Option PV} {x : Int64} (hd : False ∨ decode mi.2.1 pc = .ok (.lstore 6, 2)) (hb : Nat.blt 7 mi.2.2.1 = true) (hn : p_nl x5 = true) (kk : P g d mi (pc + 2) (x0 :: x1 :: x2 :: x3 :: x4 :: x5 :: some (vl x) :: none :: r) st σ k Q) : P g d mi pc (x0 :: x1 :: x2 :: x3 :: x4 :: x5 :: z :: z2 :: r) (vl x :: st) σ k Q := by
  rcases hd with hd | hd
  · exact hd.elim
  · refine P_lstore (i := 6) (Nat.le_of_ble_eq_true hb) (fun j hj => by have hj2 : j = 5 := (by omega); subst hj2; exact hn) hd ?_
    exact kk
theorem P_in6 {x0 x1 x2 x3 x4 x5 : Option PV} {n : Int} {x v : Int32} (hv : x + Int32.ofInt n = v) (hd : decode mi.2.1 pc = .ok (.iinc 6 n, 3)) (hb : Nat.blt 6 mi.2.2.1 = true) (hn : p_nl x5 = true) (kk : P g d mi (pc + 3) (x0 :: x1 :: x2 :: x3 :: x4 :: x5 :: some (vi v) :: r) st σ k Q) : P g d mi pc (x0 :: x1 :: x2 :: x3 :: x4 :: x5 :: some (vi x) :: r) st σ k Q :=
  P_iinc (i := 6) rfl hv (Nat.le_of_ble_eq_true hb) (fun j hj => by have hj2 : j = 5 := (by omega); subst hj2; exact hn) hd kk
theorem P_inN6 {x0 x1 x2 x3 x4 x5 : Option PV} {n : Nat} (hd : decode mi.2.1 pc = .ok (.iinc 6 1, 3)) (hb : Nat.blt 6 mi.2.2.1 = true) (hn : p_nl x5 = true) (kk : P g d mi (pc + 3) (x0 :: x1 :: x2 :: x3 :: x4 :: x5 :: some (vi (Int32.ofNat (n + 1))) :: r) st σ k Q) : P g d mi pc (x0 :: x1 :: x2 :: x3 :: x4 :: x5 :: some (vi (Int32.ofNat n)) :: r) st σ k Q :=
  P_in6 (n_succ n) hd hb hn kk
theorem P_is7 {x0 x1 x2 x3 x4 x5 x6 z : Option PV} {x : Int32} (hd : False ∨ decode mi.2.1 pc = .ok (.istore 7, 2)) (hb : Nat.blt 7 mi.2.2.1 = true) (hn : p_nl x6 = true) (kk : P g d mi (pc + 2) (x0 :: x1 :: x2 :: x3 :: x4 :: x5 :: x6 :: some (vi x) :: r) st σ k Q) : P g d mi pc (x0 :: x1 :: x2 :: x3 :: x4 :: x5 :: x6 :: z :: r) (vi x :: st) σ k Q := by
  rcases hd with hd | hd
  · exact hd.elim
  · exact P_istore (i := 7) (Nat.le_of_ble_eq_true hb) (fun j hj => by have hj2 : j = 6 := (by omega); subst hj2; exact hn) hd kk
theorem P_as7 {x0 x1 x2 x3 x4 x5 x6 z : Option PV} {x : Option Nat} (hd : False ∨ decode mi.2.1 pc = .ok (.astore 7, 2)) (hb : Nat.blt 7 mi.2.2.1 = true) (hn : p_nl x6 = true) (kk : P g d mi (pc + 2) (x0 :: x1 :: x2 :: x3 :: x4 :: x5 :: x6 :: some (vq x) :: r) st σ k Q) : P g d mi pc (x0 :: x1 :: x2 :: x3 :: x4 :: x5 :: x6 :: z :: r) (vq x :: st) σ k Q := by
  rcases hd with hd | hd
  · exact hd.elim
  · exact P_astore (i := 7) (Nat.le_of_ble_eq_true hb) (fun j hj => by have hj2 : j = 6 := (by omega); subst hj2; exact hn) hd kk
theorem P_ls7 {x0 x1 x2 x3 x4 x5 x6 z z2 : Option PV} {x : Int64} (hd : False ∨ decode mi.2.1 pc = .ok (.lstore 7, 2)) (hb : Nat.blt 8 mi.2.2.1 = true) (hn : p_nl x6 = true) (kk : P g d mi (pc + 2) (x0 :: x1 :: x2 :: x3 :: x4 :: x5 :: x6 :: some (vl x) :: none :: r) st σ k Q) : P g d mi pc (x0 :: x1 :: x2 :: x3 :: x4 :: x5 :: x6 :: z :: z2 :: r) (vl x :: st) σ k Q := by
  rcases hd with hd | hd
  · exact hd.elim
  · refine P_lstore (i := 7) (Nat.le_of_ble_eq_true hb) (fun j hj => by have hj2 : j = 6 := (by omega); subst hj2; exact hn) hd ?_
    exact kk
theorem P_in7 {x0 x1 x2 x3 x4 x5 x6 : Option PV} {n : Int} {x v : Int32} (hv : x + Int32.ofInt n = v) (hd : decode mi.2.1 pc = .ok (.iinc 7 n, 3)) (hb : Nat.blt 7 mi.2.2.1 = true) (hn : p_nl x6 = true) (kk : P g d mi (pc + 3) (x0 :: x1 :: x2 :: x3 :: x4 :: x5 :: x6 :: some (vi v) :: r) st σ k Q) : P g d mi pc (x0 :: x1 :: x2 :: x3 :: x4 :: x5 :: x6 :: some (vi x) :: r) st σ k Q :=
  P_iinc (i := 7) rfl hv (Nat.le_of_ble_eq_true hb) (fun j hj => by have hj2 : j = 6 := (by omega); subst hj2; exact hn) hd kk
theorem P_inN7 {x0 x1 x2 x3 x4 x5 x6 : Option PV} {n : Nat} (hd : decode mi.2.1 pc = .ok (.iinc 7 1, 3)) (hb : Nat.blt 7 mi.2.2.1 = true) (hn : p_nl x6 = true) (kk : P g d mi (pc + 3) (x0 :: x1 :: x2 :: x3 :: x4 :: x5 :: x6 :: some (vi (Int32.ofNat (n + 1))) :: r) st σ k Q) : P g d mi pc (x0 :: x1 :: x2 :: x3 :: x4 :: x5 :: x6 :: some (vi (Int32.ofNat n)) :: r) st σ k Q :=
  P_in7 (n_succ n) hd hb hn kk
theorem P_is8 {x0 x1 x2 x3 x4 x5 x6 x7 z : Option PV} {x : Int32} (hd : False ∨ decode mi.2.1 pc = .ok (.istore 8, 2)) (hb : Nat.blt 8 mi.2.2.1 = true) (hn : p_nl x7 = true) (kk : P g d mi (pc + 2) (x0 :: x1 :: x2 :: x3 :: x4 :: x5 :: x6 :: x7 :: some (vi x) :: r) st σ k Q) : P g d mi pc (x0 :: x1 :: x2 :: x3 :: x4 :: x5 :: x6 :: x7 :: z :: r) (vi x :: st) σ k Q := by
  rcases hd with hd | hd
  · exact hd.elim
  · exact P_istore (i := 8) (Nat.le_of_ble_eq_true hb) (fun j hj => by have hj2 : j = 7 := (by omega); subst hj2; exact hn) hd kk
theorem P_as8 {x0 x1 x2 x3 x4 x5 x6 x7 z : Option PV} {x : Option Nat} (hd : False ∨ decode mi.2.1 pc = .ok (.astore 8, 2)) (hb : Nat.blt 8 mi.2.2.1 = true) (hn : p_nl x7 = true) (kk : P g d mi (pc + 2) (x0 :: x1 :: x2 :: x3 :: x4 :: x5 :: x6 :: x7 :: some (vq x) :: r) st σ k Q) : P g d mi pc (x0 :: x1 :: x2 :: x3 :: x4 :: x5 :: x6 :: x7 :: z :: r) (vq x :: st) σ k Q := by
  rcases hd with hd | hd
  · exact hd.elim
  · exact P_astore (i := 8) (Nat.le_of_ble_eq_true hb) (fun j hj => by have hj2 : j = 7 := (by omega); subst hj2; exact hn) hd kk
theorem P_ls8 {x0 x1 x2 x3 x4 x5 x6 x7 z z2 : Option PV} {x : Int64} (hd : False ∨ decode mi.2.1 pc = .ok (.lstore 8, 2)) (hb : Nat.blt 9 mi.2.2.1 = true) (hn : p_nl x7 = true) (kk : P g d mi (pc + 2) (x0 :: x1 :: x2 :: x3 :: x4 :: x5 :: x6 :: x7 :: some (vl x) :: none :: r) st σ k Q) : P g d mi pc (x0 :: x1 :: x2 :: x3 :: x4 :: x5 :: x6 :: x7 :: z :: z2 :: r) (vl x :: st) σ k Q := by
  rcases hd with hd | hd
  · exact hd.elim
  · refine P_lstore (i := 8) (Nat.le_of_ble_eq_true hb) (fun j hj => by have hj2 : j = 7 := (by omega); subst hj2; exact hn) hd ?_
    exact kk
theorem P_in8 {x0 x1 x2 x3 x4 x5 x6 x7 : Option PV} {n : Int} {x v : Int32} (hv : x + Int32.ofInt n = v) (hd : decode mi.2.1 pc = .ok (.iinc 8 n, 3)) (hb : Nat.blt 8 mi.2.2.1 = true) (hn : p_nl x7 = true) (kk : P g d mi (pc + 3) (x0 :: x1 :: x2 :: x3 :: x4 :: x5 :: x6 :: x7 :: some (vi v) :: r) st σ k Q) : P g d mi pc (x0 :: x1 :: x2 :: x3 :: x4 :: x5 :: x6 :: x7 :: some (vi x) :: r) st σ k Q :=
  P_iinc (i := 8) rfl hv (Nat.le_of_ble_eq_true hb) (fun j hj => by have hj2 : j = 7 := (by omega); subst hj2; exact hn) hd kk
theorem P_inN8 {x0 x1 x2 x3 x4 x5 x6 x7 : Option PV} {n : Nat} (hd : decode mi.2.1 pc = .ok (.iinc 8 1, 3)) (hb : Nat.blt 8 mi.2.2.1 = true) (hn : p_nl x7 = true) (kk : P g d mi (pc + 3) (x0 :: x1 :: x2 :: x3 :: x4 :: x5 :: x6 :: x7 :: some (vi (Int32.ofNat (n + 1))) :: r) st σ k Q) : P g d mi pc (x0 :: x1 :: x2 :: x3 :: x4 :: x5 :: x6 :: x7 :: some (vi (Int32.ofNat n)) :: r) st σ k Q :=
  P_in8 (n_succ n) hd hb hn kk
theorem P_is9 {x0 x1 x2 x3 x4 x5 x6 x7 x8 z : Option PV} {x : Int32} (hd : False ∨ decode mi.2.1 pc = .ok (.istore 9, 2)) (hb : Nat.blt 9 mi.2.2.1 = true) (hn : p_nl x8 = true) (kk : P g d mi (pc + 2) (x0 :: x1 :: x2 :: x3 :: x4 :: x5 :: x6 :: x7 :: x8 :: some (vi x) :: r) st σ k Q) : P g d mi pc (x0 :: x1 :: x2 :: x3 :: x4 :: x5 :: x6 :: x7 :: x8 :: z :: r) (vi x :: st) σ k Q := by
  rcases hd with hd | hd
  · exact hd.elim
  · exact P_istore (i := 9) (Nat.le_of_ble_eq_true hb) (fun j hj => by have hj2 : j = 8 := (by omega); subst hj2; exact hn) hd kk
theorem P_as9 {x0 x1 x2 x3 x4 x5 x6 x7 x8 z : Option PV} {x : Option Nat} (hd : False ∨ decode mi.2.1 pc = .ok (.astore 9, 2)) (hb : Nat.blt 9 mi.2.2.1 = true) (hn : p_nl x8 = true) (kk : P g d mi (pc + 2) (x0 :: x1 :: x2 :: x3 :: x4 :: x5 :: x6 :: x7 :: x8 :: some (vq x) :: r) st σ k Q) : P g d mi pc (x0 :: x1 :: x2 :: x3 :: x4 :: x5 :: x6 :: x7 :: x8 :: z :: r) (vq x :: st) σ k Q := by
  rcases hd with hd | hd
  · exact hd.elim
  · exact P_astore (i := 9) (Nat.le_of_ble_eq_true hb) (fun j hj => by have hj2 : j = 8 := (by omega); subst hj2; exact hn) hd kk
theorem P_ls9 {x0 x1 x2 x3 x4 x5 x6 x7 x8 z z2 : Option PV} {x : Int64} (hd : False ∨ decode mi.2.1 pc = .ok (.lstore 9, 2)) (hb : Nat.blt 10 mi.2.2.1 = true) (hn : p_nl x8 = true) (kk : P g d mi (pc + 2) (x0 :: x1 :: x2 :: x3 :: x4 :: x5 :: x6 :: x7 :: x8 :: some (vl x) :: none :: r) st σ k Q) : P g d mi pc (x0 :: x1 :: x2 :: x3 :: x4 :: x5 :: x6 :: x7 :: x8 :: z :: z2 :: r) (vl x :: st) σ k Q := by
  rcases hd with hd | hd
  · exact hd.elim
  · refine P_lstore (i := 9) (Nat.le_of_ble_eq_true hb) (fun j hj => by have hj2 : j = 8 := (by omega); subst hj2; exact hn) hd ?_
    exact kk
theorem P_in9 {x0 x1 x2 x3 x4 x5 x6 x7 x8 : Option PV} {n : Int} {x v : Int32} (hv : x + Int32.ofInt n = v) (hd : decode mi.2.1 pc = .ok (.iinc 9 n, 3)) (hb : Nat.blt 9 mi.2.2.1 = true) (hn : p_nl x8 = true) (kk : P g d mi (pc + 3) (x0 :: x1 :: x2 :: x3 :: x4 :: x5 :: x6 :: x7 :: x8 :: some (vi v) :: r) st σ k Q) : P g d mi pc (x0 :: x1 :: x2 :: x3 :: x4 :: x5 :: x6 :: x7 :: x8 :: some (vi x) :: r) st σ k Q :=
  P_iinc (i := 9) rfl hv (Nat.le_of_ble_eq_true hb) (fun j hj => by have hj2 : j = 8 := (by omega); subst hj2; exact hn) hd kk
theorem P_inN9 {x0 x1 x2 x3 x4 x5 x6 x7 x8 : Option PV} {n : Nat} (hd : decode mi.2.1 pc = .ok (.iinc 9 1, 3)) (hb : Nat.blt 9 mi.2.2.1 = true) (hn : p_nl x8 = true) (kk : P g d mi (pc + 3) (x0 :: x1 :: x2 :: x3 :: x4 :: x5 :: x6 :: x7 :: x8 :: some (vi (Int32.ofNat (n + 1))) :: r) st σ k Q) : P g d mi pc (x0 :: x1 :: x2 :: x3 :: x4 :: x5 :: x6 :: x7 :: x8 :: some (vi (Int32.ofNat n)) :: r) st σ k Q :=
  P_in9 (n_succ n) hd hb hn kk
theorem P_is10 {x0 x1 x2 x3 x4 x5 x6 x7 x8 x9 z : Option PV} {x : Int32} (hd : False ∨ decode mi.2.1 pc = .ok (.istore 10, 2)) (hb : Nat.blt 10 mi.2.2.1 = true) (hn : p_nl x9 = true) (kk : P g d mi (pc + 2) (x0 :: x1 :: x2 :: x3 :: x4 :: x5 :: x6 :: x7 :: x8 :: x9 :: some (vi x) :: r) st σ k Q) : P g d mi pc (x0 :: x1 :: x2 :: x3 :: x4 :: x5 :: x6 :: x7 :: x8 :: x9 :: z :: r) (vi x :: st) σ k Q := by
  rcases hd with hd | hd
  · exact hd.elim
  · exact P_istore (i := 10) (Nat.le_of_ble_eq_true hb) (fun j hj => by have hj2 : j = 9 := (by omega); subst hj2; exact hn) hd kk
theorem P_as10 {x0 x1 x2 x3 x4 x5 x6 x7 x8 x9 z : Option PV} {x : Option Nat} (hd : False ∨ decode mi.2.1 pc = .ok (.astore 10, 2)) (hb : Nat.blt 10 mi.2.2.1 = true) (hn : p_nl x9 = true) (kk : P g d mi (pc + 2) (x0 :: x1 :: x2 :: x3 :: x4 :: x5 :: x6 :: x7 :: x8 :: x9 :: some (vq x) :: r) st σ k Q) : P g d mi pc (x0 :: x1 :: x2 :: x3 :: x4 :: x5 :: x6 :: x7 :: x8 :: x9 :: z :: r) (vq x :: st) σ k Q := by
  rcases hd with hd | hd
  · exact hd.elim
  · exact P_astore (i := 10) (Nat.le_of_ble_eq_true hb) (fun j hj => by have hj2 : j = 9 := (by omega); subst hj2; exact hn) hd kk
theorem P_ls10 {x0 x1 x2 x3 x4 x5 x6 x7 x8 x9 z z2 : Option PV} {x : Int64} (hd : False ∨ decode mi.2.1 pc = .ok (.lstore 10, 2)) (hb : Nat.blt 11 mi.2.2.1 = true) (hn : p_nl x9 = true) (kk : P g d mi (pc + 2) (x0 :: x1 :: x2 :: x3 :: x4 :: x5 :: x6 :: x7 :: x8 :: x9 :: some (vl x) :: none :: r) st σ k Q) : P g d mi pc (x0 :: x1 :: x2 :: x3 :: x4 :: x5 :: x6 :: x7 :: x8 :: x9 :: z :: z2 :: r) (vl x :: st) σ k Q := by
  rcases hd with hd | hd
  · exact hd.elim
  · refine P_lstore (i := 10) (Nat.le_of_ble_eq_true hb) (fun j hj => by have hj2 : j = 9 := (by omega); subst hj2; exact hn) hd ?_
    exact kk
theorem P_in10 {x0 x1 x2 x3 x4 x5 x6 x7 x8 x9 : Option PV} {n : Int} {x v : Int32} (hv : x + Int32.ofInt n = v) (hd : decode mi.2.1 pc = .ok (.iinc 10 n, 3)) (hb : Nat.blt 10 mi.2.2.1 = true) (hn : p_nl x9 = true) (kk : P g d mi (pc + 3) (x0 :: x1 :: x2 :: x3 :: x4 :: x5 :: x6 :: x7 :: x8 :: x9 :: some (vi v) :: r) st σ k Q) : P g d mi pc (x0 :: x1 :: x2 :: x3 :: x4 :: x5 :: x6 :: x7 :: x8 :: x9 :: some (vi x) :: r) st σ k Q :=
  P_iinc (i := 10) rfl hv (Nat.le_of_ble_eq_true hb) (fun j hj => by have hj2 : j = 9 := (by omega); subst hj2; exact hn) hd kk
theorem P_inN10 {x0 x1 x2 x3 x4 x5 x6 x7 x8 x9 : Option PV} {n : Nat} (hd : decode mi.2.1 pc = .ok (.iinc 10 1, 3)) (hb : Nat.blt 10 mi.2.2.1 = true) (hn : p_nl x9 = true) (kk : P g d mi (pc + 3) (x0 :: x1 :: x2 :: x3 :: x4 :: x5 :: x6 :: x7 :: x8 :: x9 :: some (vi (Int32.ofNat (n + 1))) :: r) st σ k Q) : P g d mi pc (x0 :: x1 :: x2 :: x3 :: x4 :: x5 :: x6 :: x7 :: x8 :: x9 :: some (vi (Int32.ofNat n)) :: r) st σ k Q :=
  P_in10 (n_succ n) hd hb hn kk
theorem P_is11 {x0 x1 x2 x3 x4 x5 x6 x7 x8 x9 x10 z : Option PV} {x : Int32} (hd : False ∨ decode mi.2.1 pc = .ok (.istore 11, 2)) (hb : Nat.blt 11 mi.2.2.1 = true) (hn : p_nl x10 = true) (kk : P g d mi (pc + 2) (x0 :: x1 :: x2 :: x3 :: x4 :: x5 :: x6 :: x7 :: x8 :: x9 :: x10 :: some (vi x) :: r) st σ k Q) : P g d mi pc (x0 :: x1 :: x2 :: x3 :: x4 :: x5 :: x6 :: x7 :: x8 :: x9 :: x10 :: z :: r) (vi x :: st) σ k Q := by
  rcases hd with hd | hd
  · exact hd.elim
  · exact P_istore (i := 11) (Nat.le_of_ble_eq_true hb) (fun j hj => by have hj2 : j = 10 := (by omega); subst hj2; exact hn) hd kk
theorem P_as11 {x0 x1 x2 x3 x4 x5 x6 x7 x8 x9 x10 z : Option PV} {x : Option Nat} (hd : False ∨ decode mi.2.1 pc = .ok (.astore 11, 2)) (hb : Nat.blt 11 mi.2.2.1 = true) (hn : p_nl x10 = true) (kk : P g d mi (pc + 2) (x0 :: x1 :: x2 :: x3 :: x4 :: x5 :: x6 :: x7 :: x8 :: x9 :: x10 :: some (vq x) :: r) st σ k Q) : P g d mi pc (x0 :: x1 :: x2 :: x3 :: x4 :: x5 :: x6 :: x7 :: x8 :: x9 :: x10 :: z :: r) (vq x :: st) σ k Q := by
  rcases hd with hd | hd
  · exact hd.elim
  · exact P_astore (i := 11) (Nat.le_of_ble_eq_true hb) (fun j hj => by have hj2 : j = 10 := (by omega); subst hj2; exact hn) hd kk
theorem P_ls11 {x0 x1 x2 x3 x4 x5 x6 x7 x8 x9 x10 z z2 : Option PV} {x : Int64} (hd : False ∨ decode mi.2.1 pc = .ok (.lstore 11, 2)) (hb : Nat.blt 12 mi.2.2.1 = true) (hn : p_nl x10 = true) (kk : P g d mi (pc + 2) (x0 :: x1 :: x2 :: x3 :: x4 :: x5 :: x6 :: x7 :: x8 :: x9 :: x10 :: some (vl x) :: none :: r) st σ k Q) : P g d mi pc (x0 :: x1 :: x2 :: x3 :: x4 :: x5 :: x6 :: x7 :: x8 :: x9 :: x10 :: z :: z2 :: r) (vl x :: st) σ k Q := by
  rcases hd with hd | hd
  · exact hd.elim
  · refine P_lstore (i := 11) (Nat.le_of_ble_eq_true hb) (fun j hj => by have hj2 : j = 10 := (by omega); subst hj2; exact hn) hd ?_
    exact kk
theorem P_in11 {x0 x1 x2 x3 x4 x5 x6 x7 x8 x9 x10 : Option PV} {n : Int} {x v : Int32} (hv : x + Int32.ofInt n = v) (hd : decode mi.2.1 pc = .ok (.iinc 11 n, 3)) (hb : Nat.blt 11 mi.2.2.1 = true) (hn : p_nl x10 = true) (kk : P g d mi (pc + 3) (x0 :: x1 :: x2 :: x3 :: x4 :: x5 :: x6 :: x7 :: x8 :: x9 :: x10 :: some (vi v) :: r) st σ k Q) : P g d mi pc (x0 :: x1 :: x2 :: x3 :: x4 :: x5 :: x6 :: x7 :: x8 :: x9 :: x10 :: some (vi x) :: r) st σ k Q :=
  P_iinc (i := 11) rfl hv (Nat.le_of_ble_eq_true hb) (fun j hj => by have hj2 : j = 10 := (by omega); subst hj2; exact hn) hd kk
theorem P_inN11 {x0 x1 x2 x3 x4 x5 x6 x7 x8 x9 x10 : Option PV} {n : Nat} (hd : decode mi.2.1 pc = .ok (.iinc 11 1, 3)) (hb : Nat.blt 11 mi.2.2.1 = true) (hn : p_nl x10 = true) (kk : P g d mi (pc + 3) (x0 :: x1 :: x2 :: x3 :: x4 :: x5 :: x6 :: x7 :: x8 :: x9 :: x10 :: some (vi (Int32.ofNat (n + 1))) :: r) st σ k Q) : P g d mi pc (x0 :: x1 :: x2 :: x3 :: x4 :: x5 :: x6 :: x7 :: x8 :: x9 :: x10 :: some (vi (Int32.ofNat n)) :: r) st σ k Q :=
  P_in11 (n_succ n) hd hb hn kk
theorem P_is12 {x0 x1 x2 x3 x4 x5 x6 x7 x8 x9 x10 x11 z : Option PV} {x : Int32} (hd : False ∨ decode mi.2.1 pc = .ok (.istore 12, 2)) (hb : Nat.blt 12 mi.2.2.1 = true) (hn : p_nl x11 = true) (kk : P g d mi (pc + 2) (x0 :: x1 :: x2 :: x3 :: x4 :: x5 :: x6 :: x7 :: x8 :: x9 :: x10 :: x11 :: some (vi x) :: r) st σ k Q) : P g d mi pc (x0 :: x1 :: x2 :: x3 :: x4 :: x5 :: x6 :: x7 :: x8 :: x9 :: x10 :: x11 :: z :: r) (vi x :: st) σ k Q := by
  rcases hd with hd | hd
  · exact hd.elim
  · exact P_istore (i := 12) (Nat.le_of_ble_eq_true hb) (fun j hj => by have hj2 : j = 11 := (by omega); subst hj2; exact hn) hd kk
theorem P_as12 {x0 x1 x2 x3 x4 x5 x6 x7 x8 x9 x10 x11 z : Option PV} {x : Option Nat} (hd : False ∨ decode mi.2.1 pc = .ok (.astore 12, 2)) (hb : Nat.blt 12 mi.2.2.1 = true) (hn : p_nl x11 = true) (kk : P g d mi (pc + 2) (x0 :: x1 :: x2 :: x3 :: x4 :: x5 :: x6 :: x7 :: x8 :: x9 :: x10 :: x11 :: some (vq x) :: r) st σ k Q) : P g d mi pc (x0 :: x1 :: x2 :: x3 :: x4 :: x5 :: x6 :: x7 :: x8 :: x9 :: x10 :: x11 :: z :: r) (vq x :: st) σ k Q := by
  rcases hd with hd | hd
  · exact hd.elim
  · exact P_astore (i := 12) (Nat.le_of_ble_eq_true hb) (fun j hj => by have hj2 : j = 11 := (by omega); subst hj2; exact hn) hd kk
theorem P_ls12 {x0 x1 x2 x3 x4 x5 x6 x7 x8 x9 x10 x11 z z2 : Option PV} {x : Int64} (hd : False ∨ decode mi.2.1 pc = .ok (.lstore 12, 2)) (hb : Nat.blt 13 mi.2.2.1 = true) (hn : p_nl x11 = true) (kk : P g d mi (pc + 2) (x0 :: x1 :: x2 :: x3 :: x4 :: x5 :: x6 :: x7 :: x8 :: x9 :: x10 :: x11 :: some (vl x) :: none :: r) st σ k Q) : P g d mi pc (x0 :: x1 :: x2 :: x3 :: x4 :: x5 :: x6 :: x7 :: x8 :: x9 :: x10 :: x11 :: z :: z2 :: r) (vl x :: st) σ k Q := by
  rcases hd with hd | hd
  · exact hd.elim
  · refine P_lstore (i := 12) (Nat.le_of_ble_eq_true hb) (fun j hj => by have hj2 : j = 11 := (by omega); subst hj2; exact hn) hd ?_
    exact kk
theorem P_in12 {x0 x1 x2 x3 x4 x5 x6 x7 x8 x9 x10 x11 : Option PV} {n : Int} {x v : Int32} (hv : x + Int32.ofInt n = v) (hd : decode mi.2.1 pc = .ok (.iinc 12 n, 3)) (hb : Nat.blt 12 mi.2.2.1 = true) (hn : p_nl x11 = true) (kk : P g d mi (pc + 3) (x0 :: x1 :: x2 :: x3 :: x4 :: x5 :: x6 :: x7 :: x8 :: x9 :: x10 :: x11 :: some (vi v) :: r) st σ k Q) : P g d mi pc (x0 :: x1 :: x2 :: x3 :: x4 :: x5 :: x6 :: x7 :: x8 :: x9 :: x10 :: x11 :: some (vi x) :: r) st σ k Q :=
  P_iinc (i := 12) rfl hv (Nat.le_of_ble_eq_true hb) (fun j hj => by have hj2 : j = 11 := (by omega); subst hj2; exact hn) hd kk
theorem P_inN12 {x0 x1 x2 x3 x4 x5 x6 x7 x8 x9 x10 x11 : Option PV} {n : Nat} (hd : decode mi.2.1 pc = .ok (.iinc 12 1, 3)) (hb : Nat.blt 12 mi.2.2.1 = true) (hn : p_nl x11 = true) (kk : P g d mi (pc + 3) (x0 :: x1 :: x2 :: x3 :: x4 :: x5 :: x6 :: x7 :: x8 :: x9 :: x10 :: x11 :: some (vi (Int32.ofNat (n + 1))) :: r) st σ k Q) : P g d mi pc (x0 :: x1 :: x2 :: x3 :: x4 :: x5 :: x6 :: x7 :: x8 :: x9 :: x10 :: x11 :: some (vi (Int32.ofNat n)) :: r) st σ k Q :=
  P_in12 (n_succ n) hd hb hn kk
theorem P_is13 {x0 x1 x2 x3 x4 x5 x6 x7 x8 x9 x10 x11 x12 z : Option PV} {x : Int32} (hd : False ∨ decode mi.2.1 pc = .ok (.istore 13, 2)) (hb : Nat.blt 13 mi.2.2.1 = true) (hn : p_nl x12 = true) (kk : P g d mi (pc + 2) (x0 :: x1 :: x2 :: x3 :: x4 :: x5 :: x6 :: x7 :: x8 :: x9 :: x10 :: x11 :: x12 :: some (vi x) :: r) st σ k Q) : P g d mi pc (x0 :: x1 :: x2 :: x3 :: x4 :: x5 :: x6 :: x7 :: x8 :: x9 :: x10 :: x11 :: x12 :: z :: r) (vi x :: st) σ k Q := by
  rcases hd with hd | hd
  · exact hd.elim
  · exact P_istore (i := 13) (Nat.le_of_ble_eq_true hb) (fun j hj => by have hj2 : j = 12 := (by omega); subst hj2; exact hn) hd kk
theorem P_as13 {x0 x1 x2 x3 x4 x5 x6 x7 x8 x9 x10 x11 x12 z : Option PV} {x : Option Nat} (hd : False ∨ decode mi.2.1 pc = .ok (.astore 13, 2)) (hb : Nat.blt 13 mi.2.2.1 = true) (hn : p_nl x12 = true) (kk : P g d mi (pc + 2) (x0 :: x1 :: x2 :: x3 :: x4 :: x5 :: x6 :: x7 :: x8 :: x9 :: x10 :: x11 :: x12 :: some (vq x) :: r) st σ k Q) : P g d mi pc (x0 :: x1 :: x2 :: x3 :: x4 :: x5 :: x6 :: x7 :: x8 :: x9 :: x10 :: x11 :: x12 :: z :: r) (vq x :: st) σ k Q := by
  rcases hd with hd | hd
  · exact hd.elim
  · exact P_astore (i := 13) (Nat.le_of_ble_eq_true hb) (fun j hj => by have hj2 : j = 12 := (by omega); subst hj2; exact hn) hd kk
theorem P_ls13 {x0 x1 x2 x3 x4 x5 x6 x7 x8 x9 x10 x11 x12 z z2 : Option PV} {x : Int64} (hd : False ∨ decode mi.2.1 pc = .ok (.lstore 13, 2)) (hb : Nat.blt 14 mi.2.2.1 = true) (hn : p_nl x12 = true) (kk : P g d mi (pc + 2) (x0 :: x1 :: x2 :: x3 :: x4 :: x5 :: x6 :: x7 :: x8 :: x9 :: x10 :: x11 :: x12 :: some (vl x) :: none :: r) st σ k Q) : P g d mi pc (x0 :: x1 :: x2 :: x3 :: x4 :: x5 :: x6 :: x7 :: x8 :: x9 :: x10 :: x11 :: x12 :: z :: z2 :: r) (vl x :: st) σ k Q := by
  rcases hd with hd | hd
  · exact hd.elim
  · refine P_lstore (i := 13) (Nat.le_of_ble_eq_true hb) (fun j hj => by have hj2 : j = 12 := (by omega); subst hj2; exact hn) hd ?_
    exact kk
theorem P_in13 {x0 x1 x2 x3 x4 x5 x6 x7 x8 x9 x10 x11 x12 : Option PV} {n : Int} {x v : Int32} (hv : x + Int32.ofInt n = v) (hd : decode mi.2.1 pc = .ok (.iinc 13 n, 3)) (hb : Nat.blt 13 mi.2.2.1 = true) (hn : p_nl x12 = true) (kk : P g d mi (pc + 3) (x0 :: x1 :: x2 :: x3 :: x4 :: x5 :: x6 :: x7 :: x8 :: x9 :: x10 :: x11 :: x12 :: some (vi v) :: r) st σ k Q) : P g d mi pc (x0 :: x1 :: x2 :: x3 :: x4 :: x5 :: x6 :: x7 :: x8 :: x9 :: x10 :: x11 :: x12 :: some (vi x) :: r) st σ k Q :=
  P_iinc (i := 13) rfl hv (Nat.le_of_ble_eq_true hb) (fun j hj => by have hj2 : j = 12 := (by omega); subst hj2; exact hn) hd kk
theorem P_inN13 {x0 x1 x2 x3 x4 x5 x6 x7 x8 x9 x10 x11 x12 : Option PV} {n : Nat} (hd : decode mi.2.1 pc = .ok (.iinc 13 1, 3)) (hb : Nat.blt 13 mi.2.2.1 = true) (hn : p_nl x12 = true) (kk : P g d mi (pc + 3) (x0 :: x1 :: x2 :: x3 :: x4 :: x5 :: x6 :: x7 :: x8 :: x9 :: x10 :: x11 :: x12 :: some (vi (Int32.ofNat (n + 1))) :: r) st σ k Q) : P g d mi pc (x0 :: x1 :: x2 :: x3 :: x4 :: x5 :: x6 :: x7 :: x8 :: x9 :: x10 :: x11 :: x12 :: some (vi (Int32.ofNat n)) :: r) st σ k Q :=
  P_in13 (n_succ n) hd hb hn kk
theorem P_is14 {x0 x1 x2 x3 x4 x5 x6 x7 x8 x9 x10 x11 x12 x13 z : Option PV} {x : Int32} (hd : False ∨ decode mi.2.1 pc = .ok (.istore 14, 2)) (hb : Nat.blt 14 mi.2.2.1 = true) (hn : p_nl x13 = true) (kk : P g d mi (pc + 2) (x0 :: x1 :: x2 :: x3 :: x4 :: x5 :: x6 :: x7 :: x8 :: x9 :: x10 :: x11 :: x12 :: x13 :: some (vi x) :: r) st σ k Q) : P g d mi pc (x0 :: x1 :: x2 :: x3 :: x4 :: x5 :: x6 :: x7 :: x8 :: x9 :: x10 :: x11 :: x12 :: x13 :: z :: r) (vi x :: st) σ k Q := by
  rcases hd with hd | hd
  · exact hd.elim
  · exact P_istore (i := 14) (Nat.le_of_ble_eq_true hb) (fun j hj => by have hj2 : j = 13 := (by omega); subst hj2; exact hn) hd kk
theorem P_as14 {x0 x1 x2 x3 x4 x5 x6 x7 x8 x9 x10 x11 x12 x13 z : Option PV} {x : Option Nat} (hd : False ∨ decode mi.2.1 pc = .ok (.astore 14, 2)) (hb : Nat.blt 14 mi.2.2.1 = true) (hn : p_nl x13 = true) (kk : P g d mi (pc + 2) (x0 :: x1 :: x2 :: x3 :: x4 :: x5 :: x6 :: x7 :: x8 :: x9 :: x10 :: x11 :: x12 :: x13 :: some (vq x) :: r) st σ k Q) : P g d mi pc (x0 :: x1 :: x2 :: x3 :: x4 :: x5 :: x6 :: x7 :: x8 :: x9 :: x10 :: x11 :: x12 :: x13 :: z :: r) (vq x :: st) σ k Q := by
  rcases hd with hd | hd
  · exact hd.elim
  · exact P_astore (i := 14) (Nat.le_of_ble_eq_true hb) (fun j hj => by have hj2 : j = 13 := (by omega); subst hj2; exact hn) hd kk
theorem P_ls14 {x0 x1 x2 x3 x4 x5 x6 x7 x8 x9 x10 x11 x12 x13 z z2 : Option PV} {x : Int64} (hd : False ∨ decode mi.2.1 pc = .ok (.lstore 14, 2)) (hb : Nat.blt 15 mi.2.2.1 = true) (hn : p_nl x13 = true) (kk : P g d mi (pc + 2) (x0 :: x1 :: x2 :: x3 :: x4 :: x5 :: x6 :: x7 :: x8 :: x9 :: x10 :: x11 :: x12 :: x13 :: some (vl x) :: none :: r) st σ k Q) : P g d mi pc (x0 :: x1 :: x2 :: x3 :: x4 :: x5 :: x6 :: x7 :: x8 :: x9 :: x10 :: x11 :: x12 :: x13 :: z :: z2 :: r) (vl x :: st) σ k Q := by
  rcases hd with hd | hd
  · exact hd.elim
  · refine P_lstore (i := 14) (Nat.le_of_ble_eq_true hb) (fun j hj => by have hj2 : j = 13 := (by omega); subst hj2; exact hn) hd ?_
    exact kk
theorem P_in14 {x0 x1 x2 x3 x4 x5 x6 x7 x8 x9 x10 x11 x12 x13 : Option PV} {n : Int} {x v : Int32} (hv : x + Int32.ofInt n = v) (hd : decode mi.2.1 pc = .ok (.iinc 14 n, 3)) (hb : Nat.blt 14 mi.2.2.1 = true) (hn : p_nl x13 = true) (kk : P g d mi (pc + 3) (x0 :: x1 :: x2 :: x3 :: x4 :: x5 :: x6 :: x7 :: x8 :: x9 :: x10 :: x11 :: x12 :: x13 :: some (vi v) :: r) st σ k Q) : P g d mi pc (x0 :: x1 :: x2 :: x3 :: x4 :: x5 :: x6 :: x7 :: x8 :: x9 :: x10 :: x11 :: x12 :: x13 :: some (vi x) :: r) st σ k Q :=
  P_iinc (i := 14) rfl hv (Nat.le_of_ble_eq_true hb) (fun j hj => by have hj2 : j = 13 := (by omega); subst hj2; exact hn) hd kk
theorem P_inN14 {x0 x1 x2 x3 x4 x5 x6 x7 x8 x9 x10 x11 x12 x13 : Option PV} {n : Nat} (hd : decode mi.2.1 pc = .ok (.iinc 14 1, 3)) (hb : Nat.blt 14 mi.2.2.1 = true) (hn : p_nl x13 = true) (kk : P g d mi (pc + 3) (x0 :: x1 :: x2 :: x3 :: x4 :: x5 :: x6 :: x7 :: x8 :: x9 :: x10 :: x11 :: x12 :: x13 :: some (vi (Int32.ofNat (n + 1))) :: r) st σ k Q) : P g d mi pc (x0 :: x1 :: x2 :: x3 :: x4 :: x5 :: x6 :: x7 :: x8 :: x9 :: x10 :: x11 :: x12 :: x13 :: some (vi (Int32.ofNat n)) :: r) st σ k Q :=
  P_in14 (n_succ n) hd hb hn kk
/-- fewer locals known -/
theorem P_sub {ls ls2 : List (Option PV)} (h : ∀ (i : Nat) (v : PV), ls2[i]? = some (some v) → ls[i]? = some (some v)) (kk : P g d mi pc ls2 st σ k Q) : P g d mi pc ls st σ k Q := by
  intro p e R s m args below meth c H locs cells slots jls fx hc hs hS hR hL
  refine kk p e R s m args below meth c H locs cells slots jls fx hc hs hS hR ⟨hL.1, hL.2.1, fun q hq => ?_⟩
  obtain ⟨j, v, h1, h2⟩ := p_lc_mem ls2 0 q hq
  have h3 := p_lc_of ls 0 j v (h j v h2)
  rw [h1]
  exact hL.2.2 _ h3
def p_sb : List (Option PV) → List (Option PV) → Prop
  | [], _ => True
  | none :: r, _ :: r2 => p_sb r r2
  | none :: r, [] => p_sb r []
  | some v :: r, x :: r2 => x = some v ∧ p_sb r r2
  | some _ :: _, [] => False
theorem p_sb_of : ∀ (ls2 ls : List (Option PV)), p_sb ls2 ls → ∀ (i : Nat) (v : PV), ls2[i]? = some (some v) → ls[i]? = some (some v)
  | [], _, _, i, v, h => by simp at h
  | none :: r, x :: r2, hs, 0, v, h => by simp at h
  | none :: r, x :: r2, hs, i + 1, v, h => by
    simpa using p_sb_of r r2 hs i v (by simpa using h)
  | none :: r, [], hs, 0, v, h => by simp at h
  | none :: r, [], hs, i + 1, v, h => by
    have := p_sb_of r [] hs i v (by simpa using h)
    simp at this
  | some w :: r, x :: r2, hs, 0, v, h => by
    have h2 : w = v := by simpa using h
    subst h2
    simpa using hs.1
  | some w :: r, x :: r2, hs, i + 1, v, h => by
    simpa using p_sb_of r r2 hs.2 i v (by simpa using h)
  | some w :: r, [], hs, i, v, h => hs.elim
/-- by a list with fewer locals -/
theorem P_few {ls ls2 : List (Option PV)} (h : p_sb ls2 ls) (kk : P g d mi pc ls2 st σ k Q) : P g d mi pc ls st σ k Q := P_sub (p_sb_of ls2 ls h) kk
/-- a value gets a name -/
theorem P_let {α : Type} {R : Prop} (x : α) (h : ∀ y, y = x → R) : R := h x rfl
def QI (σ : PS) (x : Int32) : Option PV → PS → Prop := fun r σ2 => r = some (vi x) ∧ σ2 = σ
def QA (σ : PS) (x : Option Nat) : Option PV → PS → Prop := fun r σ2 => r = some (vq x) ∧ σ2 = σ
def QV (σ : PS) : Option PV → PS → Prop := fun r σ2 => r = none ∧ σ2 = σ
/-- an end in words of the four memories -/
def QR (L : PL) (φ : Option PV → (Nat → Nat → Int32) → (Nat → Nat → Int32) → (Nat → Nat → Int64) → (Nat → Nat → Option Nat) → Prop) : Option PV → PS → Prop := fun r σ2 => ∃ FI AI AL AR, σ2 = (L, FI, AI, AL, AR) ∧ φ r FI AI AL AR
theorem loop_ind {α : Type} (μ : α → Nat) {R : α → Prop} (h : ∀ a, (∀ b, μ b < μ a → R b) → R a) : ∀ a, R a := by
  intro a
  have key : ∀ n a, μ a < n → R a := by
    intro n
    induction n with
    | zero => intro a ha; omega
    | succ n ih => intro a ha; exact h a fun b hb => ih b (by omega)
  exact key (μ a + 1) a (by omega)
end PStores
