/-! ===== the mathematical state, and what the reference's code does to it ===== -/
/-- a slice: parcel, offset, length, last, hops, seed, arrives, at -/
abbrev XS : Type := Int32 × Int32 × Int32 × Int32 × Int32 × Int32 × Int32 × Int32
/-- G (0 tick, 4 made, 5 cut, 6 put, 7 to 13 dropped), nodes, bridges, parcels, bytes (a seed, or below 0), slices, how many bridges and parcels -/
abbrev XW : Type := (Nat → Int32) × (Nat → Nat → Int32) × (Nat → Nat → Int32) × (Nat → Nat → Int32) × (Nat → Nat → Int32) × List XS × Nat × Nat
abbrev xG (X : XW) : Nat → Int32 := X.1
abbrev xN (X : XW) : Nat → Nat → Int32 := X.2.1
abbrev xB (X : XW) : Nat → Nat → Int32 := X.2.2.1
abbrev xP (X : XW) : Nat → Nat → Int32 := X.2.2.2.1
abbrev xT (X : XW) : Nat → Nat → Int32 := X.2.2.2.2.1
abbrev xS (X : XW) : List XS := X.2.2.2.2.2.1
abbrev xb (X : XW) : Nat := X.2.2.2.2.2.2.1
abbrev xp (X : XW) : Nat := X.2.2.2.2.2.2.2
abbrev nn (x : Int32) : Nat := x.toNatClampNeg
def x_g (X : XW) (k : Nat) (v : Int32) : XW := ((fun j => if j = k then v else xG X j), X.2)
def x_n (X : XW) (i k : Nat) (v : Int32) : XW := (X.1, p_up (xN X) i k v, X.2.2)
def x_b (X : XW) (i k : Nat) (v : Int32) : XW := (X.1, X.2.1, p_up (xB X) i k v, X.2.2.2)
def x_p (X : XW) (i k : Nat) (v : Int32) : XW := (X.1, X.2.1, X.2.2.1, p_up (xP X) i k v, X.2.2.2.2)
def x_t (X : XW) (f : Nat → Nat → Int32) : XW := (X.1, X.2.1, X.2.2.1, X.2.2.2.1, f, X.2.2.2.2.2)
def x_s (X : XW) (l : List XS) : XW := (X.1, X.2.1, X.2.2.1, X.2.2.2.1, X.2.2.2.2.1, l, X.2.2.2.2.2.2)
def x_at (X : XW) (s : Nat) : XS := (xS X).getD s (0, 0, 0, 0, 0, 0, 0, 0)
def c_byte (seed i : Int32) : Int32 := c_rem (seed * 31 + i * 7 + i / 256) 256
def x_sumN (seed : Int32) : Nat → Int32
  | 0 => 0
  | n + 1 => x_sumN seed n + c_byte seed (Int32.ofNat n)
def x_sum (seed size : Int32) : Int32 := c_rem (x_sumN seed (nn size)) 65521
/-- is a byte there from a on, n of them -/
def x_any (t : Nat → Int32) (a : Nat) : Nat → Bool
  | 0 => false
  | n + 1 => x_any t a n || decide (0 ≤ t (a + n))
def x_bytes (P : Nat → Nat → Int32) (node : Int32) : Nat → Int32
  | 0 => 0
  | n + 1 => x_bytes P node n + (if P n 1 = node then P n 12 else 0)
def x_best (P : Nat → Nat → Int32) (node : Int32) : Nat → Int32
  | 0 => -6
  | n + 1 => if (P n 1 = node ∧ 0 ≤ P n 9) ∧ (x_best P node n < 0 ∨ P n 9 < P (nn (x_best P node n)) 9) then Int32.ofNat n else x_best P node n
def x_cd (X : XW) (p : Nat) (why : Nat) : XW := x_p (x_g X (6 + why) (xG X (6 + why) + 1)) p 11 (xP X p 11 + 1)
def x_rm (X : XW) (s : Nat) : XW := x_s X ((xS X).eraseIdx s)
def x_drop (X : XW) (s : Nat) (why : Nat) : XW := x_rm (x_cd X (nn (x_at X s).1) why) s
def x_end (X : XW) (p : Nat) (state : Int32) : XW :=
  x_t (x_p (x_p (x_p (x_p (x_p X p 5 state) p 10 (xG X 0)) p 12 0) p 9 (-6)) p 8 (-6)) (fun q i => if q = p then -6 else xT X q i)
def x_space (node : Int32) : Nat → XW → XW
  | 0, X => X
  | n + 1, X => if xN X (nn node) 2 < x_bytes (xP X) node (xp X) then x_space node n (x_end X (nn (x_best (xP X) node (xp X))) 4) else X
def x_csum (t : Nat → Int32) : Nat → Int32
  | 0 => 0
  | n + 1 => x_csum t n + c_byte (t n) (Int32.ofNat n)
def x_fin (X : XW) (p : Nat) : XW :=
  if xP X p 8 < 0 ∨ xP X p 12 < xP X p 8 then X
  else x_end X p (if xP X p 8 = xP X p 2 ∧ c_rem (x_csum (xT X p) (nn (xP X p 8))) 65521 = x_sum (xP X p 3) (xP X p 8) then 1 else 2)
/-- how many of n bytes from a on are not there -/
def x_more (t : Nat → Int32) (a : Nat) : Nat → Int32
  | 0 => 0
  | n + 1 => x_more t a n + (if t (a + n) < 0 then 1 else 0)
def x_lay (t : Nat → Int32) (a b : Nat) (seed : Int32) (over : Bool) : Nat → Int32 := fun i => if a ≤ i ∧ i < b ∧ (t i < 0 ∨ over = true) then seed else t i
def x_layb (X : XW) (p a b : Nat) (seed : Int32) (over : Bool) : XW :=
  x_p (x_t X (fun q i => if q = p then x_lay (xT X p) a b seed over i else xT X q i)) p 12 (xP X p 12 + x_more (xT X p) a (b - a))
def x_wrong (X : XW) (p : Nat) (ends : Int32) (last : Bool) : Bool :=
  decide (4000 < ends) || (decide (0 ≤ xP X p 8) && (decide (xP X p 8 < ends) || (last && decide (¬ ends = xP X p 8)))) || (last && x_any (xT X p) (nn ends) (4000 - nn ends))
def x_put (X : XW) (s : Nat) : XW :=
  let σ := x_at X s
  let p := nn σ.1
  let a := σ.2.1
  let b := σ.2.1 + σ.2.2.1
  let last := decide (σ.2.2.2.1 = 1)
  if ¬ xP X p 5 = 0 then x_drop X s 7
  else if x_wrong X p b last = true then x_drop X s 6
  else
    let node := xP X p 1
    let X1 := x_g (x_rm X s) 6 (xG X 6 + 1)
    let X2 := if xN X (nn node) 0 = 2 ∧ x_any (xT X p) (nn a) (nn b - nn a) = true then x_end X1 p 5
      else
        let X3 := x_layb X1 p (nn a) (nn b) σ.2.2.2.2.2.1 (decide (xN X (nn node) 0 = 1))
        let X4 := x_p X3 p 8 (if last = true then b else xP X3 p 8)
        x_p X4 p 9 (if xP X4 p 9 < 0 then xG X 0 else xP X4 p 9)
    let X5 := x_space node 40 X2
    if xP X5 p 5 = 0 then x_fin X5 p else X5
/-- a slice comes to a bridge: whether it is let over -/
def x_took (X : XW) (b : Nat) : Bool := c_lost (xB X b 6 + 1) (xB X b 5)
def x_takes (X : XW) (b : Nat) (len : Int32) : XW :=
  let X1 := x_b X b 6 (xB X b 6 + 1)
  if x_took X b = true then x_b X1 b 7 (xB X b 7 + 1) else x_b X1 b 8 (xB X b 8 + (len + 8))
def x_over (X : XW) (b : Nat) (σ : XS) : XS := (σ.1, σ.2.1, σ.2.2.1, σ.2.2.2.1, σ.2.2.2.2.1, σ.2.2.2.2.2.1, xG X 0 + xB X b 3 + (σ.2.2.1 + 8) / xB X b 4, xB X b 1)
def x_cut (X : XW) (b p : Nat) (each end_ last hops seed : Int32) : Nat → Int32 → XW
  | 0, _ => X
  | n + 1, from_ =>
    if from_ < end_ then
      let to := if from_ + each < end_ then from_ + each else end_
      let X0 := x_g X 4 (xG X 4 + 1)
      let X1 := if (xS X).length = 300 then x_cd X0 p 5
        else if x_took X0 b = true then x_cd (x_takes X0 b (to - from_)) p 4
        else
          let X2 := x_takes X0 b (to - from_)
          x_s X2 (xS X2 ++ [x_over X2 b (Int32.ofNat p, from_, to - from_, if to = end_ then last else 0, hops, seed, xG X 0, -6)])
      x_cut X1 b p each end_ last hops seed n to
    else X
def x_cutup (X : XW) (s b : Nat) : XW :=
  let σ := x_at X s
  let X1 := x_g (x_rm X s) 5 (xG X 5 + 1)
  x_cut X1 b (nn σ.1) ((xB X b 2 - 8) / 8 * 8) (σ.2.1 + σ.2.2.1) σ.2.2.2.1 (σ.2.2.2.2.1 - 1) σ.2.2.2.2.2.1 701 σ.2.1
/-- a slice arrives: the state then, and whether it is still at its place -/
def x_still (X : XW) (s : Nat) : XW × Bool :=
  let σ := x_at X s
  let p := nn σ.1
  if σ.2.2.2.2.2.2.2 = xP X p 1 then (x_put X s, false)
  else
    let br := xN X (nn σ.2.2.2.2.2.2.2) (3 + nn (xP X p 1))
    let isLong := decide (0 ≤ br) && decide (xB X (nn br) 2 < σ.2.2.1 + 8)
    if σ.2.2.2.2.1 = 0 then (x_drop X s 1, false)
    else if br < 0 then (x_drop X s 2, false)
    else if isLong = true ∧ xP X p 4 = 0 then (x_drop X s 3, false)
    else if isLong = true then (x_cutup X s (nn br), false)
    else if x_took X (nn br) = true then (x_drop (x_takes X (nn br) σ.2.2.1) s 4, false)
    else
      let X1 := x_takes X (nn br) σ.2.2.1
      (x_s X1 ((xS X1).set s (x_over X1 (nn br) (σ.1, σ.2.1, σ.2.2.1, σ.2.2.2.1, σ.2.2.2.2.1 - 1, σ.2.2.2.2.2.1, σ.2.2.2.2.2.2.1, σ.2.2.2.2.2.2.2))), true)
/-- the slices of this tick, from place s on -/
def x_run : Nat → Nat → XW → XW
  | 0, _, X => X
  | n + 1, s, X =>
    if s < (xS X).length then
      if xG X 0 < (x_at X s).2.2.2.2.2.2.1 then x_run n (s + 1) X
      else if (x_still X s).2 = true then x_run n (s + 1) (x_still X s).1 else x_run n s (x_still X s).1
    else X
def x_times : Nat → XW → XW
  | 0, X => X
  | n + 1, X =>
    let X1 := x_times n X
    if 0 ≤ xP X1 n 9 ∧ xN X1 (nn (xP X1 n 1)) 1 ≤ xG X1 0 - xP X1 n 9 then x_end X1 n 3 else X1
def x_tick (X : XW) : XW :=
  let X1 := x_run 601 0 X
  let X2 := x_times (xp X1) X1
  x_g X2 0 (xG X2 0 + 1)
def x_ticks : Nat → XW → XW
  | 0, X => X
  | n + 1, X => x_tick (x_ticks n X)
