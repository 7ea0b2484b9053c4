theorem n_and255 (n : Nat) : Int32.ofNat n &&& 255 = Int32.ofNat (n % 256) := by
  refine Int32.toBitVec_inj.mp ?_
  rw [Int32.toBitVec_and]
  show BitVec.ofNat 32 n &&& BitVec.ofNat 32 255 = BitVec.ofNat 32 (n % 256)
  rw [← BitVec.ofNat_and]
  congr 1
  exact Nat.and_two_pow_sub_one_eq_mod n 8
theorem n_rem256 {a : Nat} (ha : a < 2147483648) : c_rem (Int32.ofNat a) 256 = Int32.ofNat (a % 256) := by
  rw [i_eq]
  show (Int32.ofNat a - Int32.ofNat a / 256 * 256).toInt = _
  rw [i_rem _ _ (by decide), n_int ha, n_int (by omega), Int.tmod_eq_emod_of_nonneg (by omega)]
  simp only [Int32.reduceToInt]
  omega
theorem c_byte_nat {a b : Nat} (ha : a < 256) (hb : b ≤ 4000) : c_byte (Int32.ofNat a) (Int32.ofNat b) = Int32.ofNat ((a * 31 + b * 7 + b / 256) % 256) ∧ Int32.ofNat a * 31 + Int32.ofNat b * 7 + Int32.ofNat b / 256 = Int32.ofNat (a * 31 + b * 7 + b / 256) := by
  have h1 : Int32.ofNat a * 31 + Int32.ofNat b * 7 + Int32.ofNat b / 256 = Int32.ofNat (a * 31 + b * 7 + b / 256) := by
    rw [show Int32.ofNat a * 31 = Int32.ofNat (a * 31) from n_mul a 31, show Int32.ofNat b * 7 = Int32.ofNat (b * 7) from n_mul b 7, show Int32.ofNat b / 256 = Int32.ofNat (b / 256) from n_div (by omega) (by decide) (by decide), n_add, n_add]
  refine ⟨?_, h1⟩
  unfold c_byte
  rw [h1]
  exact n_rem256 (by omega)
theorem q_ib7 {n : Int32} : ((0 : Int32) ≤ n ∧ n ≤ 7) ↔ q_ib n 8 = true := by
  have h := in_eq (b := n) (n := 8) (by decide)
  have h7 : (Int32.ofNat 8 - 1 : Int32) = 7 := by decide
  rw [h7] at h
  constructor
  · intro h1
    rw [if_pos h1] at h
    exact Decidable.byContradiction fun h2 => by
      rw [if_neg h2] at h
      exact absurd h (by decide)
  · intro h1
    rw [if_pos h1] at h
    exact Decidable.byContradiction fun h2 => by
      rw [if_neg h2] at h
      exact absurd h (by decide)
theorem CW.eqv {L : PL} {FI AI : Nat → Nat → Int32} {AL : Nat → Nat → Int64} {AR : Nat → Nat → Option Nat} {w : Nat} {X Y : XW} {C : List XC} {U : Nat} {sa : Nat → Nat} (h : CW L FI AI AL AR w X C U sa) (eG : xG Y = xG X) (eN : xN Y = xN X) (eB : xB Y = xB X) (eP : xP Y = xP X) (eT : xT Y = xT X) (eb : xb Y = xb X) (ep : xp Y = xp X) : CW L FI AI AL AR w Y C U sa := by
  unfold CW CG CD CN CN1 CB CB1 CP CP1 at h ⊢
  rw [eG, eN, eB, eP, eT, eb, ep]
  exact h
section Cls5p
variable {L : PL} {FI AI : Nat → Nat → Int32} {AL : Nat → Nat → Int64} {AR : Nat → Nat → Option Nat} {w : Nat} {X : XW} {C : List XC} {U : Nat} {sa : Nat → Nat}
theorem CW.pf6 (h : CW L FI AI AL AR w X C U sa) {p : Nat} (hp : p < xp X) (v : Int32) : CW L (p_up FI 136 (w + 39 + 2 * p) v) AI AL AR w (x_p X p 6 v) C U sa := by
  have hp40 := h.p40
  have er : ∀ k, k ≠ 6 → xP (x_p X p 6 v) p k = xP X p k := fun k hk => p_up_n2 _ _ _ _ hk
  have e6 : xP (x_p X p 6 v) p 6 = v := p_up_eq _ _ _ _
  have eF : ∀ j, j ≠ 136 → p_up FI 136 (w + 39 + 2 * p) v j (w + 39 + 2 * p) = FI j (w + 39 + 2 * p) := fun j hj => p_up_n1 _ _ _ _ hj
  obtain ⟨g1, g2, g3⟩ := (h.p p (by omega)).1 hp
  refine h.par hp (fun j a hja => p_up_of (by omega)) (fun _ _ => rfl) ?_ rfl rfl rfl rfl rfl (fun q hq => ⟨?_, rfl⟩)
  · unfold RP
    rw [eF 128 (by decide), eF 129 (by decide), eF 130 (by decide), eF 131 (by decide), eF 132 (by decide), eF 133 (by decide), eF 134 (by decide), eF 135 (by decide), eF 137 (by decide), eF 138 (by decide), eF 139 (by decide), eF 140 (by decide), eF 141 (by decide), eF 142 (by decide), p_up_eq, e6, er 0 (by decide), er 1 (by decide), er 2 (by decide), er 3 (by decide), er 4 (by decide), er 5 (by decide), er 7 (by decide), er 8 (by decide), er 9 (by decide), er 10 (by decide), er 11 (by decide), er 12 (by decide)]
    exact ⟨⟨g1.1, g1.2.1, g1.2.2.1, g1.2.2.2.1, g1.2.2.2.2.1, g1.2.2.2.2.2.1, g1.2.2.2.2.2.2.1, g1.2.2.2.2.2.2.2.1, rfl, g1.2.2.2.2.2.2.2.2.2.1, g1.2.2.2.2.2.2.2.2.2.2.1, g1.2.2.2.2.2.2.2.2.2.2.2⟩, g2, g3⟩
  · funext k
    exact p_up_n1 _ _ _ _ hq
theorem CW.pf11 (h : CW L FI AI AL AR w X C U sa) {p : Nat} (hp : p < xp X) (v : Int32) : CW L (p_up FI 137 (w + 39 + 2 * p) v) AI AL AR w (x_p X p 11 v) C U sa := by
  have hp40 := h.p40
  have er : ∀ k, k ≠ 11 → xP (x_p X p 11 v) p k = xP X p k := fun k hk => p_up_n2 _ _ _ _ hk
  have e6 : xP (x_p X p 11 v) p 11 = v := p_up_eq _ _ _ _
  have eF : ∀ j, j ≠ 137 → p_up FI 137 (w + 39 + 2 * p) v j (w + 39 + 2 * p) = FI j (w + 39 + 2 * p) := fun j hj => p_up_n1 _ _ _ _ hj
  obtain ⟨g1, g2, g3⟩ := (h.p p (by omega)).1 hp
  refine h.par hp (fun j a hja => p_up_of (by omega)) (fun _ _ => rfl) ?_ rfl rfl rfl rfl rfl (fun q hq => ⟨?_, rfl⟩)
  · unfold RP
    rw [eF 128 (by decide), eF 129 (by decide), eF 130 (by decide), eF 131 (by decide), eF 132 (by decide), eF 133 (by decide), eF 134 (by decide), eF 135 (by decide), eF 136 (by decide), eF 138 (by decide), eF 139 (by decide), eF 140 (by decide), eF 141 (by decide), eF 142 (by decide), p_up_eq, e6, er 0 (by decide), er 1 (by decide), er 2 (by decide), er 3 (by decide), er 4 (by decide), er 5 (by decide), er 6 (by decide), er 7 (by decide), er 8 (by decide), er 9 (by decide), er 10 (by decide), er 12 (by decide)]
    exact ⟨⟨g1.1, g1.2.1, g1.2.2.1, g1.2.2.2.1, g1.2.2.2.2.1, g1.2.2.2.2.2.1, g1.2.2.2.2.2.2.1, g1.2.2.2.2.2.2.2.1, g1.2.2.2.2.2.2.2.2.1, rfl, g1.2.2.2.2.2.2.2.2.2.2.1, g1.2.2.2.2.2.2.2.2.2.2.2⟩, g2, g3⟩
  · funext k
    exact p_up_n1 _ _ _ _ hq
end Cls5p
/-- a parcel's object when it begins -/
def bF (F : Nat → Nat → Int32) (q : Nat) (from_ to size seed how : Int32) : Nat → Nat → Int32 := p_up (p_up (p_up (p_up (p_up (p_up (p_up F 128 q from_) 129 q to) 130 q size) 131 q seed) 132 q (how / 2)) 134 q (c_rem how 2)) 133 q (x_sum seed size)
def x_prow0 (from_ to size seed how : Int32) : Nat → Int32 := fun k => if k = 6 then 0 else x_prow from_ to size seed how k
def e_send (X : XW) (U : Nat) (from_ to size seed how : Int32) : Int32 :=
  if ¬ (q_ib from_ 8 = true ∧ q_ib to 8 = true ∧ ¬ from_ = to) then -1
  else if ¬ (((1 : Int32) ≤ size ∧ size ≤ 4000) ∧ ((0 : Int32) ≤ seed ∧ seed ≤ 255) ∧ ((2 : Int32) ≤ how ∧ how ≤ 41)) then -2
  else if 40 ≤ xp X ∨ 300 ≤ U then -4 else 0
def e_resend (X : XW) (U : Nat) (p : Int32) : Int32 :=
  if ¬ q_ib p (xp X) = true then -1 else if 300 ≤ U then -4 else if ¬ xP X (nn p) 5 = 0 then -5 else 0
def e_forge (X : XW) (U : Nat) (p off len la seed : Int32) : Int32 :=
  if ¬ q_ib p (xp X) = true then -1
  else if ¬ (((0 : Int32) ≤ off ∧ off ≤ 3999) ∧ ((1 : Int32) ≤ len ∧ len ≤ 1500) ∧ ((0 : Int32) ≤ la ∧ la ≤ 1) ∧ ((0 : Int32) ≤ seed ∧ seed ≤ 255)) then -2
  else if 300 ≤ U then -4 else 0
section Cls5
variable {g : PG} {L : PL} {FI AI : Nat → Nat → Int32} {AL : Nat → Nat → Int64} {AR : Nat → Nat → Option Nat} {w : Nat} {X : XW} {C : List XC} {U : Nat} {sa : Nat → Nat} {M : Nat}
theorem s_byteOf7 {s i : Int32} (hs : ib s 256) (hi : ib i 4001) : Sp g 0 iX7_byteOf [vi s, vi i] (L, FI, AI, AL, AR) (0, 0) (QI (L, FI, AI, AL, AR) (c_byte s i)) := by
  refine Sp.of (ls := [some (vi s), some (vi i)]) (by decide +kernel) rfl rfl ?_
  have hs1 := hs.eq
  have hi1 := hi.eq
  have hs2 := hs.nn
  have hi2 := hi.nn
  obtain ⟨h1, h2⟩ := c_byte_nat (a := s.toNatClampNeg) (b := i.toNatClampNeg) hs2 (by show nn i ≤ 4000; omega)
  rw [← hs1, ← hi1] at h1 h2
  refine P_iloadn (i := 0) rfl rfl dX7_byteOf_0 ?_
  refine P_bipush (v := 31) rfl dX7_byteOf_1 ?_
  refine P_imul dX7_byteOf_3 ?_
  refine P_iloadn (i := 1) rfl rfl dX7_byteOf_4 ?_
  refine P_bipush (v := 7) rfl dX7_byteOf_5 ?_
  refine P_imul dX7_byteOf_7 ?_
  refine P_iadd dX7_byteOf_8 ?_
  refine P_iloadn (i := 1) rfl rfl dX7_byteOf_9 ?_
  refine P_sipush (v := 256) rfl dX7_byteOf_10 ?_
  refine P_idiv (by decide) dX7_byteOf_13 ?_
  refine P_iadd dX7_byteOf_14 ?_
  refine P_sipush (v := 255) rfl dX7_byteOf_15 ?_
  refine P_iand dX7_byteOf_18 ?_
  refine P_ireturn rfl dX7_byteOf_19 ?_
  refine ⟨congrArg (fun z => some (vi z)) ?_, rfl⟩
  rw [h2, h1]
  exact n_and255 _
theorem s_isPair {a b : Int32} : Sp g 1 iX7_isPair [vi a, vi b] (L, FI, AI, AL, AR) (0, 0) (QI (L, FI, AI, AL, AR) (if q_ib a 8 = true ∧ q_ib b 8 = true ∧ ¬ a = b then 1 else 0)) := by
  refine Sp.of (ls := [some (vi a), some (vi b)]) (by decide +kernel) rfl rfl ?_
  refine P_iloadn (i := 0) rfl rfl dX7_isPair_0 ?_
  refine P_iconst (v := 0) rfl dX7_isPair_1 ?_
  refine P_bipush (v := 7) rfl dX7_isPair_2 ?_
  refine kX7_45 rfl s_X7_isWithin (by decide) rfl dX7_isPair_4 (fun r4 s4 q4 => ?_)
  obtain ⟨rfl, rfl⟩ := q4
  refine P_ifeq dX7_isPair_7 (tgt := 29) rfl (fun h7 => ?_) (fun h7 => ?_)
  · refine P_iconst (v := 0) rfl dX7_isPair_29 ?_
    refine P_zreturn rfl (by first | exact Or.inl rfl | exact Or.inr rfl | assumption) dX7_isPair_30 ?_
    refine ⟨congrArg (fun z => some (vi z)) ?_, rfl⟩
    first | exact (if_neg (fun hh => b_f h7 (q_ib7.mpr hh.1))).symm | exact (if_neg (fun hh => b_f h17 (q_ib7.mpr hh.2.1))).symm | exact (if_neg (fun hh => hh.2.2 h22)).symm | exact (if_pos ⟨q_ib7.mp (b_t h7), q_ib7.mp (b_t h17), h22⟩).symm
  · refine P_iloadn (i := 1) rfl rfl dX7_isPair_10 ?_
    refine P_iconst (v := 0) rfl dX7_isPair_11 ?_
    refine P_bipush (v := 7) rfl dX7_isPair_12 ?_
    refine kX7_45 rfl s_X7_isWithin (by decide) rfl dX7_isPair_14 (fun r14 s14 q14 => ?_)
    obtain ⟨rfl, rfl⟩ := q14
    refine P_ifeq dX7_isPair_17 (tgt := 29) rfl (fun h17 => ?_) (fun h17 => ?_)
    · refine P_iconst (v := 0) rfl dX7_isPair_29 ?_
      refine P_zreturn rfl (by first | exact Or.inl rfl | exact Or.inr rfl | assumption) dX7_isPair_30 ?_
      refine ⟨congrArg (fun z => some (vi z)) ?_, rfl⟩
      first | exact (if_neg (fun hh => b_f h7 (q_ib7.mpr hh.1))).symm | exact (if_neg (fun hh => b_f h17 (q_ib7.mpr hh.2.1))).symm | exact (if_neg (fun hh => hh.2.2 h22)).symm | exact (if_pos ⟨q_ib7.mp (b_t h7), q_ib7.mp (b_t h17), h22⟩).symm
    · refine P_iloadn (i := 0) rfl rfl dX7_isPair_20 ?_
      refine P_iloadn (i := 1) rfl rfl dX7_isPair_21 ?_
      refine P_icmpeq dX7_isPair_22 (tgt := 29) rfl (fun h22 => ?_) (fun h22 => ?_)
      · refine P_iconst (v := 0) rfl dX7_isPair_29 ?_
        refine P_zreturn rfl (by first | exact Or.inl rfl | exact Or.inr rfl | assumption) dX7_isPair_30 ?_
        refine ⟨congrArg (fun z => some (vi z)) ?_, rfl⟩
        first | exact (if_neg (fun hh => b_f h7 (q_ib7.mpr hh.1))).symm | exact (if_neg (fun hh => b_f h17 (q_ib7.mpr hh.2.1))).symm | exact (if_neg (fun hh => hh.2.2 h22)).symm | exact (if_pos ⟨q_ib7.mp (b_t h7), q_ib7.mp (b_t h17), h22⟩).symm
      · refine P_iconst (v := 1) rfl dX7_isPair_25 ?_
        refine P_goto dX7_isPair_26 (tgt := 30) rfl ?_
        refine P_zreturn rfl (by first | exact Or.inl rfl | exact Or.inr rfl | assumption) dX7_isPair_30 ?_
        refine ⟨congrArg (fun z => some (vi z)) ?_, rfl⟩
        first | exact (if_neg (fun hh => b_f h7 (q_ib7.mpr hh.1))).symm | exact (if_neg (fun hh => b_f h17 (q_ib7.mpr hh.2.1))).symm | exact (if_neg (fun hh => hh.2.2 h22)).symm | exact (if_pos ⟨q_ib7.mp (b_t h7), q_ib7.mp (b_t h17), h22⟩).symm
theorem s_isRoom {v : Int32} : Sp g 1 iX7_isRoom [vi v] (L, FI, AI, AL, AR) (0, 0) (QI (L, FI, AI, AL, AR) (if (16 : Int32) ≤ v ∧ v ≤ 1500 then 1 else 0)) := by
  refine Sp.of (ls := [some (vi v)]) (by decide +kernel) rfl rfl ?_
  refine P_iloadn (i := 0) rfl rfl dX7_isRoom_0 ?_
  refine P_bipush (v := 16) rfl dX7_isRoom_1 ?_
  refine P_sipush (v := 1500) rfl dX7_isRoom_3 ?_
  refine kX7_45 rfl s_X7_isWithin (by decide) rfl dX7_isRoom_6 (fun r6 s6 q6 => ?_)
  obtain ⟨rfl, rfl⟩ := q6
  refine P_zreturn rfl b_01 dX7_isRoom_9 ?_
  exact ⟨rfl, rfl⟩
theorem s_isTicks {v : Int32} : Sp g 1 iX7_isTicks [vi v] (L, FI, AI, AL, AR) (0, 0) (QI (L, FI, AI, AL, AR) (if (1 : Int32) ≤ v ∧ v ≤ 500 then 1 else 0)) := by
  refine Sp.of (ls := [some (vi v)]) (by decide +kernel) rfl rfl ?_
  refine P_iloadn (i := 0) rfl rfl dX7_isTicks_0 ?_
  refine P_iconst (v := 1) rfl dX7_isTicks_1 ?_
  refine P_sipush (v := 500) rfl dX7_isTicks_2 ?_
  refine kX7_45 rfl s_X7_isWithin (by decide) rfl dX7_isTicks_5 (fun r5 s5 q5 => ?_)
  obtain ⟨rfl, rfl⟩ := q5
  refine P_zreturn rfl b_01 dX7_isTicks_8 ?_
  exact ⟨rfl, rfl⟩
theorem s_nodeAt (h : CW L FI AI AL AR w X C U sa) {n : Int32} : Sp g 1 iX6_nodeAt [vr w, vi n] (L, FI, AI, AL, AR) (0, 0) (QA (L, FI, AI, AL, AR) (if q_ib n 8 = true then some (w + 7 + 2 * nn n) else none)) := by
  refine Sp.of (ls := [some (vr w), some (vi n)]) (by decide +kernel) rfl rfl ?_
  have hw := h.wf
  have hA := h.wa
  have hb16 := h.b16
  have hp40 := h.p40
  refine P_iloadn (i := 1) rfl rfl dX6_nodeAt_0 ?_
  refine P_iconst (v := 0) rfl dX6_nodeAt_1 ?_
  refine P_aloadn (i := 0) rfl rfl dX6_nodeAt_2 ?_
  refine gX6_11 rfl (by first | assumption | exact hw.kw | exact hw.k1 | exact hw.k2 | exact hw.k3 | exact hw.k4 | exact hw.k5 | exact hw.k6) hw.r195 dX6_nodeAt_3 ?_
  refine P_lenN (t := 24) (by decide) (by first | assumption | exact hw.kw | exact hw.k1 | exact hw.k2 | exact hw.k3 | exact hw.k4 | exact hw.k5 | exact hw.k6) (by rw [hw.l1]) dX6_nodeAt_6 ?_
  refine P_iconst (v := 1) rfl dX6_nodeAt_7 ?_
  refine P_isub dX6_nodeAt_8 ?_
  refine kX6_90 rfl s_X7_isWithin (by decide) rfl dX6_nodeAt_9 (fun r9 s9 q9 => ?_)
  obtain ⟨rfl, rfl⟩ := q9
  rw [in_eq (b := n) (n := 8) (by omega)]
  refine P_ifeq dX6_nodeAt_12 (tgt := 24) rfl (fun h12 => ?_) (fun h12 => ?_)
  · refine P_null dX6_nodeAt_24 ?_
    refine P_areturn rfl dX6_nodeAt_25 ?_
    exact ⟨by rw [if_neg (b_f h12)], rfl⟩
  · have hq := b_t h12
    have hn := q_ib_iff.mp hq
    have hi := hn.nn
    refine P_aloadn (i := 0) rfl rfl dX6_nodeAt_15 ?_
    refine gX6_11 rfl (by first | assumption | exact hw.kw | exact hw.k1 | exact hw.k2 | exact hw.k3 | exact hw.k4 | exact hw.k5 | exact hw.k6) hw.r195 dX6_nodeAt_16 ?_
    refine P_iloadn (i := 1) rfl rfl dX6_nodeAt_19 ?_
    refine P_aaN (t := 24) (j := nn n) (by decide) (by first | assumption | exact hw.kw | exact hw.k1 | exact hw.k2 | exact hw.k3 | exact hw.k4 | exact hw.k5 | exact hw.k6) hn.eq (by omega) (by rw [hw.l1]; omega) (hA.1 _ hi) dX6_nodeAt_20 ?_
    refine P_goto dX6_nodeAt_21 (tgt := 25) rfl ?_
    refine P_areturn rfl dX6_nodeAt_25 ?_
    exact ⟨by rw [if_pos hq], rfl⟩
theorem s_bridgeAt (h : CW L FI AI AL AR w X C U sa) {n : Int32} : Sp g 1 iX6_bridgeAt [vr w, vi n] (L, FI, AI, AL, AR) (0, 0) (QA (L, FI, AI, AL, AR) (if q_ib n (xb X) = true then some (w + 23 + nn n) else none)) := by
  refine Sp.of (ls := [some (vr w), some (vi n)]) (by decide +kernel) rfl rfl ?_
  have hw := h.wf
  have hA := h.wa
  have hb16 := h.b16
  have hp40 := h.p40
  refine P_iloadn (i := 1) rfl rfl dX6_bridgeAt_0 ?_
  refine P_iconst (v := 0) rfl dX6_bridgeAt_1 ?_
  refine P_aloadn (i := 0) rfl rfl dX6_bridgeAt_2 ?_
  refine gX6_50 rfl (by first | assumption | exact hw.kw | exact hw.k1 | exact hw.k2 | exact hw.k3 | exact hw.k4 | exact hw.k5 | exact hw.k6) h.g.2.1 dX6_bridgeAt_3 ?_
  refine P_iconst (v := 1) rfl dX6_bridgeAt_6 ?_
  refine P_isub dX6_bridgeAt_7 ?_
  refine kX6_90 rfl s_X7_isWithin (by decide) rfl dX6_bridgeAt_8 (fun r8 s8 q8 => ?_)
  obtain ⟨rfl, rfl⟩ := q8
  rw [in_eq (b := n) (n := (xb X)) (by omega)]
  refine P_ifeq dX6_bridgeAt_11 (tgt := 23) rfl (fun h11 => ?_) (fun h11 => ?_)
  · refine P_null dX6_bridgeAt_23 ?_
    refine P_areturn rfl dX6_bridgeAt_24 ?_
    exact ⟨by rw [if_neg (b_f h11)], rfl⟩
  · have hq := b_t h11
    have hn := q_ib_iff.mp hq
    have hi := hn.nn
    refine P_aloadn (i := 0) rfl rfl dX6_bridgeAt_14 ?_
    refine gX6_19 rfl (by first | assumption | exact hw.kw | exact hw.k1 | exact hw.k2 | exact hw.k3 | exact hw.k4 | exact hw.k5 | exact hw.k6) hw.r196 dX6_bridgeAt_15 ?_
    refine P_iloadn (i := 1) rfl rfl dX6_bridgeAt_18 ?_
    refine P_aaN (t := 25) (j := nn n) (by decide) (by first | assumption | exact hw.kw | exact hw.k1 | exact hw.k2 | exact hw.k3 | exact hw.k4 | exact hw.k5 | exact hw.k6) hn.eq (by omega) (by rw [hw.l2]; omega) (hA.2.1 _ (by omega)) dX6_bridgeAt_19 ?_
    refine P_goto dX6_bridgeAt_20 (tgt := 24) rfl ?_
    refine P_areturn rfl dX6_bridgeAt_24 ?_
    exact ⟨by rw [if_pos hq], rfl⟩
theorem s_parcelAt (h : CW L FI AI AL AR w X C U sa) {n : Int32} : Sp g 1 iX6_parcelAt [vr w, vi n] (L, FI, AI, AL, AR) (0, 0) (QA (L, FI, AI, AL, AR) (if q_ib n (xp X) = true then some (w + 39 + 2 * nn n) else none)) := by
  refine Sp.of (ls := [some (vr w), some (vi n)]) (by decide +kernel) rfl rfl ?_
  have hw := h.wf
  have hA := h.wa
  have hb16 := h.b16
  have hp40 := h.p40
  refine P_iloadn (i := 1) rfl rfl dX6_parcelAt_0 ?_
  refine P_iconst (v := 0) rfl dX6_parcelAt_1 ?_
  refine P_aloadn (i := 0) rfl rfl dX6_parcelAt_2 ?_
  refine gX6_53 rfl (by first | assumption | exact hw.kw | exact hw.k1 | exact hw.k2 | exact hw.k3 | exact hw.k4 | exact hw.k5 | exact hw.k6) h.g.2.2.1 dX6_parcelAt_3 ?_
  refine P_iconst (v := 1) rfl dX6_parcelAt_6 ?_
  refine P_isub dX6_parcelAt_7 ?_
  refine kX6_90 rfl s_X7_isWithin (by decide) rfl dX6_parcelAt_8 (fun r8 s8 q8 => ?_)
  obtain ⟨rfl, rfl⟩ := q8
  rw [in_eq (b := n) (n := (xp X)) (by omega)]
  refine P_ifeq dX6_parcelAt_11 (tgt := 23) rfl (fun h11 => ?_) (fun h11 => ?_)
  · refine P_null dX6_parcelAt_23 ?_
    refine P_areturn rfl dX6_parcelAt_24 ?_
    exact ⟨by rw [if_neg (b_f h11)], rfl⟩
  · have hq := b_t h11
    have hn := q_ib_iff.mp hq
    have hi := hn.nn
    refine P_aloadn (i := 0) rfl rfl dX6_parcelAt_14 ?_
    refine gX6_25 rfl (by first | assumption | exact hw.kw | exact hw.k1 | exact hw.k2 | exact hw.k3 | exact hw.k4 | exact hw.k5 | exact hw.k6) hw.r197 dX6_parcelAt_15 ?_
    refine P_iloadn (i := 1) rfl rfl dX6_parcelAt_18 ?_
    refine P_aaN (t := 26) (j := nn n) (by decide) (by first | assumption | exact hw.kw | exact hw.k1 | exact hw.k2 | exact hw.k3 | exact hw.k4 | exact hw.k5 | exact hw.k6) hn.eq (by omega) (by rw [hw.l3]; omega) (hA.2.2.1 _ (by omega)) dX6_parcelAt_19 ?_
    refine P_goto dX6_parcelAt_20 (tgt := 24) rfl ?_
    refine P_areturn rfl dX6_parcelAt_24 ?_
    exact ⟨by rw [if_pos hq], rfl⟩
theorem s_isFull (hk : L.2.1 w = 6) {U : Nat} (hU : FI 200 w = Int32.ofNat U) (hU2 : U < 1000000) : Sp g 0 iX6_isFull [vr w] (L, FI, AI, AL, AR) (0, 0) (QI (L, FI, AI, AL, AR) (if 300 ≤ U then 1 else 0)) := by
  refine Sp.of (ls := [some (vr w)]) (by decide +kernel) rfl rfl ?_
  refine P_aloadn (i := 0) rfl rfl dX6_isFull_0 ?_
  refine gX6_59 rfl (by assumption) hU dX6_isFull_1 ?_
  refine P_sipush (v := 300) rfl dX6_isFull_4 ?_
  refine P_icmplt dX6_isFull_7 (tgt := 14) rfl (fun h7 => ?_) (fun h7 => ?_)
  · refine P_iconst (v := 0) rfl dX6_isFull_14 ?_
    refine P_zreturn rfl (by first | exact Or.inl rfl | exact Or.inr rfl | assumption) dX6_isFull_15 ?_
    refine ⟨congrArg (fun z => some (vi z)) ?_, rfl⟩
    exact (if_neg (fun hh => by have h8 := (n_lt (a := U) (b := 300) (by omega) (by omega)).mp h7; omega)).symm
  · refine P_iconst (v := 1) rfl dX6_isFull_10 ?_
    refine P_goto dX6_isFull_11 (tgt := 15) rfl ?_
    refine P_zreturn rfl (by first | exact Or.inl rfl | exact Or.inr rfl | assumption) dX6_isFull_15 ?_
    refine ⟨congrArg (fun z => some (vi z)) ?_, rfl⟩
    exact (if_pos (by have h8 : ¬ U < 300 := fun hh => h7 ((n_lt (a := U) (b := 300) (by omega) (by omega)).mpr hh); omega)).symm
theorem s_countNew (hk : L.2.1 w = 6) {n U : Nat} {v : Int32} (hn : FI 199 w = Int32.ofNat n) (hU : FI 200 w = Int32.ofNat U) (hv : FI 201 w = v) : Sp g 0 iX6_countNew [vr w] (L, FI, AI, AL, AR) (0, 0) (QV (L, p_up (p_up (p_up FI 199 w (Int32.ofNat (n + 1))) 200 w (Int32.ofNat (U + 1))) 201 w (v + 1), AI, AL, AR)) := by
  refine Sp.of (ls := [some (vr w)]) (by decide +kernel) rfl rfl ?_
  refine P_aloadn (i := 0) rfl rfl dX6_countNew_0 ?_
  refine P_dup rfl dX6_countNew_1 ?_
  refine gX6_56 rfl (by assumption) hn dX6_countNew_2 ?_
  refine P_iconst (v := 1) rfl dX6_countNew_5 ?_
  refine P_iadd dX6_countNew_6 ?_
  refine uX6_56 rfl (by assumption) dX6_countNew_7 ?_
  refine P_aloadn (i := 0) rfl rfl dX6_countNew_10 ?_
  refine P_dup rfl dX6_countNew_11 ?_
  refine gX6_59 rfl (by assumption) ((p_up_n1 _ _ _ _ (by decide)).trans hU) dX6_countNew_12 ?_
  refine P_iconst (v := 1) rfl dX6_countNew_15 ?_
  refine P_iadd dX6_countNew_16 ?_
  refine uX6_59 rfl (by assumption) dX6_countNew_17 ?_
  refine P_aloadn (i := 0) rfl rfl dX6_countNew_20 ?_
  refine P_dup rfl dX6_countNew_21 ?_
  refine gX6_62 rfl (by assumption) ((p_up_n1 _ _ _ _ (by decide)).trans ((p_up_n1 _ _ _ _ (by decide)).trans hv)) dX6_countNew_22 ?_
  refine P_iconst (v := 1) rfl dX6_countNew_25 ?_
  refine P_iadd dX6_countNew_26 ?_
  refine uX6_62 rfl (by assumption) dX6_countNew_27 ?_
  refine P_return rfl dX6_countNew_30 ?_
  rw [show Int32.ofNat (n + 1) = Int32.ofNat n + 1 from n_add' n, show Int32.ofNat (U + 1) = Int32.ofNat U + 1 from n_add' U]
  exact ⟨rfl, rfl⟩
theorem s_routeTo {q : Nat} (hk : L.2.1 q = 2) (hr : L.2.2.2 67 q = some (q + 1)) (hk1 : L.2.1 (q + 1) = 20) (hl1 : L.2.2.1 (q + 1) = 8) {n : Int32} : Sp g 1 iX2_routeTo [vr q, vi n] (L, FI, AI, AL, AR) (0, 0) (QI (L, FI, AI, AL, AR) (if q_ib n 8 = true then AI (q + 1) (nn n) else -6)) := by
  refine Sp.of (ls := [some (vr q), some (vi n)]) (by decide +kernel) rfl rfl ?_
  refine P_iloadn (i := 1) rfl rfl dX2_routeTo_0 ?_
  refine P_iconst (v := 0) rfl dX2_routeTo_1 ?_
  refine P_aloadn (i := 0) rfl rfl dX2_routeTo_2 ?_
  refine gX2_18 rfl (by assumption) hr dX2_routeTo_3 ?_
  refine P_lenN (t := 20) (by decide) (by assumption) (by rw [hl1]) dX2_routeTo_6 ?_
  refine P_iconst (v := 1) rfl dX2_routeTo_7 ?_
  refine P_isub dX2_routeTo_8 ?_
  refine kX2_31 rfl s_X7_isWithin (by decide) rfl dX2_routeTo_9 (fun r9 s9 q9 => ?_)
  obtain ⟨rfl, rfl⟩ := q9
  rw [in_eq (b := n) (n := 8) (by omega)]
  refine P_ifeq dX2_routeTo_12 (tgt := 24) rfl (fun h12 => ?_) (fun h12 => ?_)
  · refine P_bipush (v := (-6)) rfl dX2_routeTo_24 ?_
    refine P_ireturn rfl dX2_routeTo_26 ?_
    exact ⟨by rw [if_neg (b_f h12)], rfl⟩
  · have hq := b_t h12
    have hn := q_ib_iff.mp hq
    have hi := hn.nn
    refine P_aloadn (i := 0) rfl rfl dX2_routeTo_15 ?_
    refine gX2_18 rfl (by assumption) hr dX2_routeTo_16 ?_
    refine P_iloadn (i := 1) rfl rfl dX2_routeTo_19 ?_
    refine P_iaN (j := nn n) (by assumption) hn.eq (by omega) (by rw [hl1]; exact hi) rfl dX2_routeTo_20 ?_
    refine P_goto dX2_routeTo_21 (tgt := 26) rfl ?_
    refine P_ireturn rfl dX2_routeTo_26 ?_
    exact ⟨by rw [if_pos hq], rfl⟩
theorem s_routeW (hw : WF L w) {i : Nat} (hi : i < 8) {n : Int32} : Sp g 1 iX2_routeTo [vr (w + 7 + 2 * i), vi n] (L, FI, AI, AL, AR) (0, 0) (QI (L, FI, AI, AL, AR) (if q_ib n 8 = true then AI (w + 8 + 2 * i) (nn n) else -6)) := by
  have e : w + 7 + 2 * i + 1 = w + 8 + 2 * i := by omega
  have h := s_routeTo (g := g) (L := L) (FI := FI) (AI := AI) (AL := AL) (AR := AR) (q := w + 7 + 2 * i) (n := n) (hw.kN hi) (by rw [e]; exact hw.rN hi) (by rw [e]; exact hw.kR hi) (by rw [e]; exact hw.lR hi)
  rw [e] at h
  exact h
theorem s_freeSlice (h : CW L FI AI AL AR w X C U sa) (hU : U < 1000000) : Sp g 1 iX6_freeSlice [vr w] (L, FI, AI, AL, AR) (0, 0) (QA (L, FI, AI, AL, AR) (if 300 ≤ U ∨ 601 ≤ C.length then none else some (sa C.length))) := by
  refine Sp.of (ls := [some (vr w)]) (by decide +kernel) rfl rfl ?_
  have hw := h.wf
  have hA := h.wa
  have hb16 := h.b16
  have hp40 := h.p40
  have hc601 := h.c601
  refine P_aloadn (i := 0) rfl rfl dX6_freeSlice_0 ?_
  refine kX6_159 rfl (s_isFull hw.kw h.g.2.2.2.2.1 hU) (by decide) (by first | assumption | exact hw.kw | exact hw.k1 | exact hw.k2 | exact hw.k3 | exact hw.k4 | exact hw.k5 | exact hw.k6) rfl dX6_freeSlice_1 (fun r1 s1 q1 => ?_)
  obtain ⟨rfl, rfl⟩ := q1
  refine P_ifne dX6_freeSlice_4 (tgt := 19) rfl (fun h4 => ?_) (fun h4 => ?_)
  · refine P_null dX6_freeSlice_19 ?_
    refine P_goto dX6_freeSlice_20 (tgt := 32) rfl ?_
    refine P_areturn rfl dX6_freeSlice_32 ?_
    exact ⟨by rw [if_pos (show 300 ≤ U ∨ 601 ≤ C.length from Or.inl (b_t h4))], rfl⟩
  · refine P_aloadn (i := 0) rfl rfl dX6_freeSlice_7 ?_
    refine gX6_56 rfl (by first | assumption | exact hw.kw | exact hw.k1 | exact hw.k2 | exact hw.k3 | exact hw.k4 | exact hw.k5 | exact hw.k6) h.g.2.2.2.1 dX6_freeSlice_8 ?_
    refine P_aloadn (i := 0) rfl rfl dX6_freeSlice_11 ?_
    refine gX6_31 rfl (by first | assumption | exact hw.kw | exact hw.k1 | exact hw.k2 | exact hw.k3 | exact hw.k4 | exact hw.k5 | exact hw.k6) hw.r198 dX6_freeSlice_12 ?_
    refine P_lenN (t := 27) (by decide) (by first | assumption | exact hw.kw | exact hw.k1 | exact hw.k2 | exact hw.k3 | exact hw.k4 | exact hw.k5 | exact hw.k6) (by rw [hw.l4]) dX6_freeSlice_15 ?_
    refine P_icmplt dX6_freeSlice_16 (tgt := 23) rfl (fun h16 => ?_) (fun h16 => ?_)
    · have hc : C.length < 601 := (n_lt (a := C.length) (b := 601) (by omega) (by omega)).mp h16
      refine P_aloadn (i := 0) rfl rfl dX6_freeSlice_23 ?_
      refine gX6_31 rfl (by first | assumption | exact hw.kw | exact hw.k1 | exact hw.k2 | exact hw.k3 | exact hw.k4 | exact hw.k5 | exact hw.k6) hw.r198 dX6_freeSlice_24 ?_
      refine P_aloadn (i := 0) rfl rfl dX6_freeSlice_27 ?_
      refine gX6_56 rfl (by first | assumption | exact hw.kw | exact hw.k1 | exact hw.k2 | exact hw.k3 | exact hw.k4 | exact hw.k5 | exact hw.k6) h.g.2.2.2.1 dX6_freeSlice_28 ?_
      refine P_aaN (t := 27) (j := C.length) (by decide) (by first | assumption | exact hw.kw | exact hw.k1 | exact hw.k2 | exact hw.k3 | exact hw.k4 | exact hw.k5 | exact hw.k6) rfl (by omega) (by rw [hw.l4]; omega) (hA.s hc) dX6_freeSlice_31 ?_
      refine P_areturn rfl dX6_freeSlice_32 ?_
      exact ⟨by rw [if_neg (show ¬ (300 ≤ U ∨ 601 ≤ C.length) from fun hh => hh.elim (b_f h4) (fun h9 => by omega))], rfl⟩
    · refine P_null dX6_freeSlice_19 ?_
      refine P_goto dX6_freeSlice_20 (tgt := 32) rfl ?_
      refine P_areturn rfl dX6_freeSlice_32 ?_
      exact ⟨by rw [if_pos (show 300 ≤ U ∨ 601 ≤ C.length from Or.inr (Nat.le_of_not_lt (fun hh => h16 ((n_lt (a := C.length) (b := 601) (by omega) (by omega)).mpr hh))))], rfl⟩
theorem s_launch (h : CW L FI AI AL AR w X C U sa) {p : Int32} {q : Nat} (hq : nn p = q) (hp : ib p (xp X)) (hc : C.length < 601) : Sp g 2 iX6_launch [vr w, vr (sa C.length), vi p, vr (w + 39 + 2 * q)] (L, FI, AI, AL, AR) (0, 0) (QCW L FI AI AL AR w (x_resend X (nn p)) (C ++ [((p, 0, xP X (nn p) 2, 1, xP X (nn p) 7, xP X (nn p) 3, xG X 0, xP X (nn p) 0), false)]) (U + 1) sa none) := by
  refine Sp.of (ls := [some (vr w), some (vr (sa C.length)), some (vi p), some (vr (w + 39 + 2 * q))]) (by decide +kernel) rfl rfl ?_
  subst hq
  have hw := h.wf
  have hA := h.wa
  have hb16 := h.b16
  have hp40 := h.p40
  have hp9 := hp.nn
  have hsl := hA.lo (i := C.length) hc
  have hks := hw.ks hA (i := C.length) hc
  have hkp := hw.kP (i := nn p) (by omega)
  refine P_aloadn (i := 1) rfl rfl dX6_launch_0 ?_
  refine P_iloadn (i := 2) rfl rfl dX6_launch_1 ?_
  refine P_aloadn (i := 3) rfl rfl dX6_launch_2 ?_
  refine gX6_147 rfl hkp ((h.p (nn p) (by omega)).1 hp.nn).1.2.2.2.1 dX6_launch_3 ?_
  refine P_aloadn (i := 3) rfl rfl dX6_launch_6 ?_
  refine gX6_150 rfl hkp ((h.p (nn p) (by omega)).1 hp.nn).1.2.2.2.2.1 dX6_launch_7 ?_
  refine kX6_124 rfl (s_Sbegin hks) (by decide) hks rfl dX6_launch_10 (fun r10 s10 q10 => ?_)
  obtain ⟨rfl, rfl⟩ := q10
  refine P_aloadn (i := 1) rfl rfl dX6_launch_13 ?_
  refine P_iconst (v := 0) rfl dX6_launch_14 ?_
  refine P_aloadn (i := 3) rfl rfl dX6_launch_15 ?_
  refine gX6_153 rfl hkp ((p_up_n1 _ _ _ _ (by decide)).trans ((p_up_n1 _ _ _ _ (by decide)).trans ((p_up_n1 _ _ _ _ (by decide)).trans (((h.p (nn p) (by omega)).1 hp.nn).1.2.2.1)))) dX6_launch_16 ?_
  refine P_iconst (v := 1) rfl dX6_launch_19 ?_
  refine kX6_127 rfl (s_span hks (Or.inr rfl)) (by decide) hks rfl dX6_launch_20 (fun r20 s20 q20 => ?_)
  obtain ⟨rfl, rfl⟩ := q20
  refine P_aloadn (i := 1) rfl rfl dX6_launch_23 ?_
  refine P_aloadn (i := 3) rfl rfl dX6_launch_24 ?_
  refine gX6_156 rfl hkp ((p_up_n1 _ _ _ _ (by decide)).trans ((p_up_n1 _ _ _ _ (by decide)).trans ((p_up_n1 _ _ _ _ (by decide)).trans ((p_up_n1 _ _ _ _ (by decide)).trans ((p_up_n1 _ _ _ _ (by decide)).trans ((p_up_n1 _ _ _ _ (by decide)).trans (((h.p (nn p) (by omega)).1 hp.nn).1.1))))))) dX6_launch_25 ?_
  refine P_aloadn (i := 0) rfl rfl dX6_launch_28 ?_
  refine gX6_46 rfl (by first | exact hw.kw | exact hw.k3 | exact hw.k4 | exact hks) ((p_up_n1 _ _ _ _ (by decide)).trans ((p_up_n1 _ _ _ _ (by decide)).trans ((p_up_n1 _ _ _ _ (by decide)).trans ((p_up_n1 _ _ _ _ (by decide)).trans ((p_up_n1 _ _ _ _ (by decide)).trans ((p_up_n1 _ _ _ _ (by decide)).trans (h.g.1))))))) dX6_launch_29 ?_
  refine kX6_134 rfl (s_arrive hks) (by decide) hks rfl dX6_launch_32 (fun r32 s32 q32 => ?_)
  obtain ⟨rfl, rfl⟩ := q32
  have hFs : ∀ (j a : Nat), ¬ (160 ≤ j ∧ j < 169 ∧ a = sa C.length) → (p_up (p_up (p_up (p_up (p_up (p_up (p_up (p_up (p_up (FI) 160 (sa C.length) p) 164 (sa C.length) (xP X (nn p) 3)) 163 (sa C.length) (xP X (nn p) 7)) 161 (sa C.length) 0) 162 (sa C.length) (xP X (nn p) 2)) 165 (sa C.length) 1) 166 (sa C.length) (xP X (nn p) 0)) 167 (sa C.length) (xG X 0)) 168 (sa C.length) 0) j a = FI j a := fun j a hja => (p_up_of (by omega)).trans ((p_up_of (by omega)).trans ((p_up_of (by omega)).trans ((p_up_of (by omega)).trans ((p_up_of (by omega)).trans ((p_up_of (by omega)).trans ((p_up_of (by omega)).trans ((p_up_of (by omega)).trans ((p_up_of (by omega)).trans (rfl)))))))))
  have hS := h.slot (Nat.le_refl _) (by omega) hFs
  have hL : SL (p_up (p_up (p_up (p_up (p_up (p_up (p_up (p_up (p_up (FI) 160 (sa C.length) p) 164 (sa C.length) (xP X (nn p) 3)) 163 (sa C.length) (xP X (nn p) 7)) 161 (sa C.length) 0) 162 (sa C.length) (xP X (nn p) 2)) 165 (sa C.length) 1) 166 (sa C.length) (xP X (nn p) 0)) 167 (sa C.length) (xG X 0)) 168 (sa C.length) 0) (sa C.length) ((p, 0, xP X (nn p) 2, 1, xP X (nn p) 7, xP X (nn p) 3, xG X 0, xP X (nn p) 0), false).1 := ⟨(p_up_n1 _ _ _ _ (by decide)).trans ((p_up_n1 _ _ _ _ (by decide)).trans ((p_up_n1 _ _ _ _ (by decide)).trans ((p_up_n1 _ _ _ _ (by decide)).trans ((p_up_n1 _ _ _ _ (by decide)).trans ((p_up_n1 _ _ _ _ (by decide)).trans ((p_up_n1 _ _ _ _ (by decide)).trans ((p_up_n1 _ _ _ _ (by decide)).trans (p_up_eq _ _ _ _)))))))), (p_up_n1 _ _ _ _ (by decide)).trans ((p_up_n1 _ _ _ _ (by decide)).trans ((p_up_n1 _ _ _ _ (by decide)).trans ((p_up_n1 _ _ _ _ (by decide)).trans ((p_up_n1 _ _ _ _ (by decide)).trans (p_up_eq _ _ _ _))))), (p_up_n1 _ _ _ _ (by decide)).trans ((p_up_n1 _ _ _ _ (by decide)).trans ((p_up_n1 _ _ _ _ (by decide)).trans ((p_up_n1 _ _ _ _ (by decide)).trans (p_up_eq _ _ _ _)))), (p_up_n1 _ _ _ _ (by decide)).trans ((p_up_n1 _ _ _ _ (by decide)).trans ((p_up_n1 _ _ _ _ (by decide)).trans (p_up_eq _ _ _ _))), (p_up_n1 _ _ _ _ (by decide)).trans ((p_up_n1 _ _ _ _ (by decide)).trans ((p_up_n1 _ _ _ _ (by decide)).trans ((p_up_n1 _ _ _ _ (by decide)).trans ((p_up_n1 _ _ _ _ (by decide)).trans ((p_up_n1 _ _ _ _ (by decide)).trans (p_up_eq _ _ _ _)))))), (p_up_n1 _ _ _ _ (by decide)).trans ((p_up_n1 _ _ _ _ (by decide)).trans ((p_up_n1 _ _ _ _ (by decide)).trans ((p_up_n1 _ _ _ _ (by decide)).trans ((p_up_n1 _ _ _ _ (by decide)).trans ((p_up_n1 _ _ _ _ (by decide)).trans ((p_up_n1 _ _ _ _ (by decide)).trans (p_up_eq _ _ _ _))))))), (p_up_n1 _ _ _ _ (by decide)).trans (p_up_eq _ _ _ _), (p_up_n1 _ _ _ _ (by decide)).trans ((p_up_n1 _ _ _ _ (by decide)).trans (p_up_eq _ _ _ _))⟩
  have hG : (p_up (p_up (p_up (p_up (p_up (p_up (p_up (p_up (p_up (FI) 160 (sa C.length) p) 164 (sa C.length) (xP X (nn p) 3)) 163 (sa C.length) (xP X (nn p) 7)) 161 (sa C.length) 0) 162 (sa C.length) (xP X (nn p) 2)) 165 (sa C.length) 1) 166 (sa C.length) (xP X (nn p) 0)) 167 (sa C.length) (xG X 0)) 168 (sa C.length) 0) 168 (sa C.length) = (if (((p, 0, xP X (nn p) 2, 1, xP X (nn p) 7, xP X (nn p) 3, xG X 0, xP X (nn p) 0), false) : XC).2 = true then 1 else 0) := p_up_eq _ _ _ _
  generalize (p_up (p_up (p_up (p_up (p_up (p_up (p_up (p_up (p_up (FI) 160 (sa C.length) p) 164 (sa C.length) (xP X (nn p) 3)) 163 (sa C.length) (xP X (nn p) 7)) 161 (sa C.length) 0) 162 (sa C.length) (xP X (nn p) 2)) 165 (sa C.length) 1) 166 (sa C.length) (xP X (nn p) 0)) 167 (sa C.length) (xG X 0)) 168 (sa C.length) 0) = F1 at hFs hS hL hG ⊢
  refine P_aloadn (i := 0) rfl rfl dX6_launch_35 ?_
  refine kX6_138 rfl (s_countNew hw.kw hS.g.2.2.2.1 hS.g.2.2.2.2.1 hS.g.2.2.2.2.2.1) (by decide) (by first | exact hw.kw | exact hw.k3 | exact hw.k4 | exact hks) rfl dX6_launch_36 (fun r36 s36 q36 => ?_)
  obtain ⟨rfl, rfl⟩ := q36
  have hT := ((hS.add (σ := ((p, 0, xP X (nn p) 2, 1, xP X (nn p) 7, xP X (nn p) 3, xG X 0, xP X (nn p) 0), false)) (by omega) hL hG).u (U + 1)).g4 (xG X 4 + 1)
  refine P_aloadn (i := 3) rfl rfl dX6_launch_39 ?_
  refine P_dup rfl dX6_launch_40 ?_
  refine gX6_121 rfl hkp ((hT.p (nn p) (by omega)).1 hp.nn).1.2.2.2.2.2.2.2.2.1 dX6_launch_41 ?_
  refine P_iconst (v := 1) rfl dX6_launch_44 ?_
  refine P_iadd dX6_launch_45 ?_
  refine uX6_121 rfl hkp dX6_launch_46 ?_
  refine P_return rfl dX6_launch_49 ?_
  refine ⟨_, _, _, rfl, rfl, ?_, (hT.pf6 hp.nn (xP X (nn p) 6 + 1)).xs _⟩
  have hf1 : FrC w FI AI AL AR F1 AI AL AR := fun a ha => ⟨fun j => hFs j a (by omega), rfl, rfl, rfl⟩
  exact (((hf1.uF (by omega)).uF (by omega)).uF (by omega)).uF (by omega)
end Cls5
