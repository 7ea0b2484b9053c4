/-- where a parcel's cells lie -/
def LQ (L : PL) (q : Nat) : Prop := L.2.1 q = 4 ∧ L.2.2.2 143 q = some (q + 1) ∧ L.2.1 (q + 1) = 21 ∧ L.2.2.1 (q + 1) = 572
theorem LQ.k {L : PL} {q : Nat} (h : LQ L q) : L.2.1 q = 4 := h.1
theorem LQ.r {L : PL} {q : Nat} (h : LQ L q) : L.2.2.2 143 q = some (q + 1) := h.2.1
theorem LQ.kc {L : PL} {q : Nat} (h : LQ L q) : L.2.1 (q + 1) = 21 := h.2.2.1
theorem LQ.l {L : PL} {q : Nat} (h : LQ L q) : L.2.2.1 (q + 1) = 572 := h.2.2.2
theorem WF.lp {L : PL} {w p : Nat} (h : WF L w) (hp : p < 40) : LQ L (w + 39 + 2 * p) := ⟨h.kP hp, by rw [h.rP hp, show w + 40 + 2 * p = w + 39 + 2 * p + 1 by omega], by rw [show w + 39 + 2 * p + 1 = w + 40 + 2 * p by omega]; exact h.kC hp, by rw [show w + 39 + 2 * p + 1 = w + 40 + 2 * p by omega]; exact h.lC hp⟩
theorem n_rem7 {a : Nat} (ha : a < 200000000) : c_rem (Int32.ofNat a) 7 * 9 = Int32.ofNat (9 * (a % 7)) ∧ Int32.ofNat a / 7 = Int32.ofNat (a / 7) := by
  have h1 : c_rem (Int32.ofNat a) 7 = Int32.ofNat (a % 7) := by
    rw [i_eq]
    show (Int32.ofNat a - Int32.ofNat a / 7 * 7).toInt = _
    rw [i_rem _ _ (by decide), n_int (by omega), n_int (by omega), Int.tmod_eq_emod_of_nonneg (by omega)]
    simp only [Int32.reduceToInt]
    omega
  refine ⟨?_, n_div (by omega) (by decide) (by decide)⟩
  rw [h1, show Int32.ofNat (a % 7) * 9 = Int32.ofNat (a % 7 * 9) from n_mul _ 9, Nat.mul_comm]
/-- what a parcel's picture says of a byte -/
def c_at (t : Nat → Int32) (i : Nat) : Int32 := if t i < 0 then 0 else c_byte (t i) (Int32.ofNat i) + 1
theorem c_at_z {t : Nat → Int32} {i : Nat} (hi : i < 4000) (ht : t i = -6 ∨ ib (t i) 256) : (c_at t i = 0 ↔ t i < 0) ∧ ∃ n, n < 512 ∧ c_at t i = Int32.ofNat n := by
  unfold c_at
  by_cases e : t i < 0
  · rw [if_pos e]; exact ⟨⟨fun _ => e, fun _ => rfl⟩, 0, by decide, rfl⟩
  · rw [if_neg e]
    rcases ht with h9 | h9
    · rw [h9] at e; exact absurd (show (-6 : Int32) < 0 by decide) e
    · have h8 := (c_byte_nat (a := (t i).toNatClampNeg) (b := i) h9.nn (by omega)).1
      rw [← h9.eq] at h8
      rw [h8, show Int32.ofNat (((t i).toNatClampNeg * 31 + i * 7 + i / 256) % 256) + 1 = Int32.ofNat (((t i).toNatClampNeg * 31 + i * 7 + i / 256) % 256 + 1) from n_add _ 1]
      refine ⟨⟨fun hh => ?_, fun hh => absurd hh e⟩, _, by omega, rfl⟩
      have := (n_eq (a := ((t i).toNatClampNeg * 31 + i * 7 + i / 256) % 256 + 1) (b := 0) (by omega) (by omega)).mp hh
      omega
section Cls8
variable {g : PG} {L : PL} {FI AI : Nat → Nat → Int32} {AL : Nat → Nat → Int64} {AR : Nat → Nat → Option Nat} {q : Nat} {r t : Nat → Int32}
theorem s_cell (hl : LQ L q) {i : Nat} (hi : i < 4000) : Sp g 0 iX4_cell [vr q, vi (Int32.ofNat i)] (L, FI, AI, AL, AR) (0, 0) (QI (L, FI, AI, AL, AR) (x_cell (AL (q + 1)) i)) := by
  refine Sp.of (ls := [some (vr q), some (vi (Int32.ofNat i))]) (by decide +kernel) rfl rfl ?_
  refine P_iloadn (i := 1) rfl rfl dX4_cell_0 ?_
  refine P_iflt dX4_cell_1 (tgt := 11) rfl (fun h1 => absurd h1 (Int32.not_lt.mpr (n_pos (by omega)))) (fun h1 => ?_)
  refine P_iloadn (i := 1) rfl rfl dX4_cell_4 ?_
  refine P_sipush (v := 4000) rfl dX4_cell_5 ?_
  refine P_icmplt dX4_cell_8 (tgt := 13) rfl (fun h8 => ?_) (fun h8 => absurd ((n_lt (a := i) (b := 4000) (by omega) (by omega)).mpr hi) h8)
  refine P_aloadn (i := 0) rfl rfl dX4_cell_13 ?_
  refine gX4_18 rfl (by first | assumption | exact hl.k | exact hl.kc) hl.r dX4_cell_14 ?_
  refine P_iloadn (i := 1) rfl rfl dX4_cell_17 ?_
  refine P_bipush (v := 7) rfl dX4_cell_18 ?_
  refine P_idiv (by decide) dX4_cell_20 ?_
  refine P_laN (j := i / 7) (by first | assumption | exact hl.k | exact hl.kc) (n_rem7 (by omega)).2 (by omega) (by rw [hl.l]; omega) rfl dX4_cell_21 ?_
  refine P_iloadn (i := 1) rfl rfl dX4_cell_22 ?_
  refine P_bipush (v := 7) rfl dX4_cell_23 ?_
  refine P_irem2 (by decide) dX4_cell_25 ?_
  refine P_bipush (v := 9) rfl dX4_cell_26 ?_
  refine P_imul dX4_cell_28 ?_
  rw [(n_rem7 (show i < 200000000 by omega)).1]
  refine P_lushr rfl dX4_cell_29 ?_
  refine LX4_73 rfl dX4_cell_30 ?_
  refine P_land dX4_cell_33 ?_
  refine P_l2i dX4_cell_34 ?_
  refine P_ireturn rfl dX4_cell_35 ?_
  exact ⟨rfl, rfl⟩
theorem s_setCell (hl : LQ L q) {i : Nat} {v : Int32} (hi : i < 4000) : Sp g 0 iX4_setCell [vr q, vi (Int32.ofNat i), vi v] (L, FI, AI, AL, AR) (0, 0) (QV (L, FI, AI, p_up AL (q + 1) (i / 7) (l_set (AL (q + 1) (i / 7)) (i % 7) v), AR)) := by
  refine Sp.of (ls := [some (vr q), some (vi (Int32.ofNat i)), some (vi v), none, none]) (by decide +kernel) rfl rfl ?_
  refine P_iloadn (i := 1) rfl rfl dX4_setCell_0 ?_
  refine P_iflt dX4_setCell_1 (tgt := 11) rfl (fun h1 => absurd h1 (Int32.not_lt.mpr (n_pos (by omega)))) (fun h1 => ?_)
  refine P_iloadn (i := 1) rfl rfl dX4_setCell_4 ?_
  refine P_sipush (v := 4000) rfl dX4_setCell_5 ?_
  refine P_icmplt dX4_setCell_8 (tgt := 12) rfl (fun h8 => ?_) (fun h8 => absurd ((n_lt (a := i) (b := 4000) (by omega) (by omega)).mpr hi) h8)
  refine P_iloadn (i := 1) rfl rfl dX4_setCell_12 ?_
  refine P_bipush (v := 7) rfl dX4_setCell_13 ?_
  refine P_idiv (by decide) dX4_setCell_15 ?_
  rw [(n_rem7 (show i < 200000000 by omega)).2]
  refine P_is3 (Or.inl dX4_setCell_16) rfl rfl ?_
  refine P_iloadn (i := 1) rfl rfl dX4_setCell_17 ?_
  refine P_bipush (v := 7) rfl dX4_setCell_18 ?_
  refine P_irem2 (by decide) dX4_setCell_20 ?_
  refine P_bipush (v := 9) rfl dX4_setCell_21 ?_
  refine P_imul dX4_setCell_23 ?_
  rw [(n_rem7 (show i < 200000000 by omega)).1]
  refine P_is4 (Or.inr dX4_setCell_24) rfl rfl ?_
  refine P_aloadn (i := 0) rfl rfl dX4_setCell_26 ?_
  refine gX4_18 rfl (by first | assumption | exact hl.k | exact hl.kc) hl.r dX4_setCell_27 ?_
  refine P_iloadn (i := 3) rfl rfl dX4_setCell_30 ?_
  refine P_aloadn (i := 0) rfl rfl dX4_setCell_31 ?_
  refine gX4_18 rfl (by first | assumption | exact hl.k | exact hl.kc) hl.r dX4_setCell_32 ?_
  refine P_iloadn (i := 3) rfl rfl dX4_setCell_35 ?_
  refine P_laN (j := i / 7) (by first | assumption | exact hl.k | exact hl.kc) rfl (by omega) (by rw [hl.l]; omega) rfl dX4_setCell_36 ?_
  refine LX4_73 rfl dX4_setCell_37 ?_
  refine P_iload (i := 4) rfl dX4_setCell_40 ?_
  refine P_lshl rfl dX4_setCell_42 ?_
  refine LX4_75 rfl dX4_setCell_43 ?_
  refine P_lxor dX4_setCell_46 ?_
  refine P_land dX4_setCell_47 ?_
  refine P_iloadn (i := 2) rfl rfl dX4_setCell_48 ?_
  refine P_i2l dX4_setCell_49 ?_
  refine P_iload (i := 4) rfl dX4_setCell_50 ?_
  refine P_lshl rfl dX4_setCell_52 ?_
  refine P_lor dX4_setCell_53 ?_
  refine P_lsN (j := i / 7) (by first | assumption | exact hl.k | exact hl.kc) rfl (by omega) (by rw [hl.l]; omega) dX4_setCell_54 ?_
  refine P_return rfl dX4_setCell_55 ?_
  exact ⟨rfl, rfl⟩
theorem s_hasByte (hl : LQ L q) {tick : Int32} (hr : RP FI AL q r t) (hq : qP r t tick) {i : Nat} (hi : i < 4000) : Sp g 1 iX4_hasByte [vr q, vi (Int32.ofNat i)] (L, FI, AI, AL, AR) (0, 0) (QI (L, FI, AI, AL, AR) (if 0 ≤ t i then 1 else 0)) := by
  refine Sp.of (ls := [some (vr q), some (vi (Int32.ofNat i))]) (by decide +kernel) rfl rfl ?_
  have hct : FI 139 q = Int32.ofNat (x_cnt t 4000) := hr.1.2.2.2.2.2.2.2.2.2.2.2.trans hq.2.2.1
  have hcl := x_cnt_le t 4000
  refine P_aloadn (i := 0) rfl rfl dX4_hasByte_0 ?_
  refine gX4_58 rfl (by first | assumption | exact hl.k | exact hl.kc) hct dX4_hasByte_1 ?_
  refine P_ifle dX4_hasByte_4 (tgt := 19) rfl (fun h4 => ?_) (fun h4 => ?_)
  · have hz : x_cnt t 4000 = 0 := by have h9 := (n_le (a := x_cnt t 4000) (b := 0) (by omega) (by omega)).mp h4; omega
    have hti : ¬ 0 ≤ t i := fun hh => by have := x_cnt_pos hh 4000 hi; omega
    refine P_iconst (v := 0) rfl dX4_hasByte_19 ?_
    refine P_zreturn rfl (by first | exact Or.inl rfl | exact Or.inr rfl | assumption) dX4_hasByte_20 ?_
    exact ⟨by rw [if_neg hti], rfl⟩
  · have hz : ¬ x_cnt t 4000 = 0 := fun hh => h4 (by rw [hh]; decide)
    have hce := (hr.2.1 (fun hh => hz (by rw [hq.2.2.1] at hh; exact (n_eq (b := 0) (by omega) (by omega)).mp hh))).2 i hi
    have hcz := (c_at_z hi (hq.2.1 i hi)).1
    refine P_aloadn (i := 0) rfl rfl dX4_hasByte_7 ?_
    refine P_iloadn (i := 1) rfl rfl dX4_hasByte_8 ?_
    refine kX4_77 rfl (s_cell hl (by omega)) (by decide) (by first | assumption | exact hl.k | exact hl.kc) rfl dX4_hasByte_9 (fun r9 s9 q9 => ?_)
    obtain ⟨rfl, rfl⟩ := q9
    rw [show x_cell (AL (q + 1)) i = c_at t i from hce]
    refine P_ifeq dX4_hasByte_12 (tgt := 19) rfl (fun h12 => ?_) (fun h12 => ?_)
    · refine P_iconst (v := 0) rfl dX4_hasByte_19 ?_
      refine P_zreturn rfl (by first | exact Or.inl rfl | exact Or.inr rfl | assumption) dX4_hasByte_20 ?_
      exact ⟨by rw [if_neg (Int32.not_le.mpr (hcz.mp h12))], rfl⟩
    · refine P_iconst (v := 1) rfl dX4_hasByte_15 ?_
      refine P_goto dX4_hasByte_16 (tgt := 20) rfl ?_
      refine P_zreturn rfl (by first | exact Or.inl rfl | exact Or.inr rfl | assumption) dX4_hasByte_20 ?_
      exact ⟨by rw [if_pos (Int32.not_lt.mp (fun hh => h12 (hcz.mpr hh)))], rfl⟩
theorem s_end7 (hl : LQ L q) {st tk : Int32} : Sp g 0 iX4_end [vr q, vi st, vi tk] (L, FI, AI, AL, AR) (0, 0) (QV (L, p_up (p_up (p_up FI 135 q st) 138 q tk) 139 q 0, AI, AL, AR)) := by
  refine Sp.of (ls := [some (vr q), some (vi st), some (vi tk)]) (by decide +kernel) rfl rfl ?_
  refine P_aloadn (i := 0) rfl rfl dX4_end_0 ?_
  refine P_iloadn (i := 1) rfl rfl dX4_end_1 ?_
  refine uX4_49 rfl (by first | assumption | exact hl.k | exact hl.kc) dX4_end_2 ?_
  refine P_aloadn (i := 0) rfl rfl dX4_end_5 ?_
  refine P_iloadn (i := 2) rfl rfl dX4_end_6 ?_
  refine uX4_9 rfl (by first | assumption | exact hl.k | exact hl.kc) dX4_end_7 ?_
  refine P_aloadn (i := 0) rfl rfl dX4_end_10 ?_
  refine P_iconst (v := 0) rfl dX4_end_11 ?_
  refine uX4_58 rfl (by first | assumption | exact hl.k | exact hl.kc) dX4_end_12 ?_
  refine P_return rfl dX4_end_15 ?_
  exact ⟨rfl, rfl⟩
theorem s_isComplete (hl : LQ L q) : Sp g 0 iX4_isComplete [vr q] (L, FI, AI, AL, AR) (0, 0) (QI (L, FI, AI, AL, AR) (if FI 139 q = FI 142 q then 1 else 0)) := by
  refine Sp.of (ls := [some (vr q)]) (by decide +kernel) rfl rfl ?_
  refine P_aloadn (i := 0) rfl rfl dX4_isComplete_0 ?_
  refine gX4_58 rfl (by first | assumption | exact hl.k | exact hl.kc) rfl dX4_isComplete_1 ?_
  refine P_aloadn (i := 0) rfl rfl dX4_isComplete_4 ?_
  refine gX4_15 rfl (by first | assumption | exact hl.k | exact hl.kc) rfl dX4_isComplete_5 ?_
  refine P_icmpne dX4_isComplete_8 (tgt := 15) rfl (fun h8 => ?_) (fun h8 => ?_)
  · refine P_iconst (v := 0) rfl dX4_isComplete_15 ?_
    refine P_zreturn rfl (by first | exact Or.inl rfl | exact Or.inr rfl | assumption) dX4_isComplete_16 ?_
    exact ⟨by rw [if_neg h8], rfl⟩
  · refine P_iconst (v := 1) rfl dX4_isComplete_11 ?_
    refine P_goto dX4_isComplete_12 (tgt := 16) rfl ?_
    refine P_zreturn rfl (by first | exact Or.inl rfl | exact Or.inr rfl | assumption) dX4_isComplete_16 ?_
    exact ⟨by rw [if_pos h8], rfl⟩
end Cls8
