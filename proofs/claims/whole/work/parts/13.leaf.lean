def c_piece (room : Int32) : Int32 := if 8 < (room - 8) / 8 * 8 then (room - 8) / 8 * 8 else 8
def c_full (room n : Int32) : Int32 := if n + 8 ≤ room then 0 else (n - 1) / c_piece room
def c_time (delay pace n : Int32) : Int32 := delay + (n + 8) / (if 1 < pace then pace else 1)
def c_rem (x y : Int32) : Int32 := x - x / y * y
/-- whether a slice is lost by its turn: the count (already grown), the turns -/
def c_lost (came turns : Int32) : Bool := decide (0 < turns) && decide (c_rem came turns = 0)
theorem c_piece_pos (room : Int32) : 8 ≤ (c_piece room).toInt := by
  unfold c_piece
  split
  · rename_i h
    rw [Int32.lt_iff_toInt_lt] at h
    simp only [Int32.reduceToInt] at h
    omega
  · simp only [Int32.reduceToInt]
    omega
theorem c_piece_ne (room : Int32) : ¬ c_piece room = 0 := by
  intro h
  have := c_piece_pos room
  rw [h] at this
  simp only [Int32.reduceToInt] at this
  omega
theorem c_pace_ne (p : Int32) : ¬ (if (1 : Int32) < p then p else 1) = 0 := by
  split
  · rename_i h
    intro e
    rw [e] at h
    exact absurd h (by decide)
  · decide
theorem b_f {c : Prop} [Decidable c] (h : (if c then (1 : Int32) else 0) = 0) : ¬ c := fun hc => by
  rw [if_pos hc] at h
  exact absurd h (by decide)
theorem b_t {c : Prop} [Decidable c] (h : ¬ (if c then (1 : Int32) else 0) = 0) : c := Decidable.byContradiction fun hc => h (if_neg hc)
theorem b_01 {c : Prop} [Decidable c] : (if c then (1 : Int32) else 0) = 0 ∨ (if c then (1 : Int32) else 0) = 1 := by
  by_cases hc : c
  · exact Or.inr (if_pos hc)
  · exact Or.inl (if_neg hc)
section Leaf
variable {g : PG} {L : PL} {FI AI : Nat → Nat → Int32} {AL : Nat → Nat → Int64} {AR : Nat → Nat → Option Nat}
theorem s_X7_isWithin {v a b : Int32} : Sp g 0 iX7_isWithin [vi v, vi a, vi b] (L, FI, AI, AL, AR) (0, 0) (QI (L, FI, AI, AL, AR) (if a ≤ v ∧ v ≤ b then 1 else 0)) := by
  refine Sp.of (ls := [some (vi v), some (vi a), some (vi b)]) (by decide +kernel) rfl rfl ?_
  refine P_iloadn (i := 0) rfl rfl dX7_isWithin_0 ?_
  refine P_iloadn (i := 1) rfl rfl dX7_isWithin_1 ?_
  refine P_icmplt dX7_isWithin_2 (tgt := 14) rfl (fun h2 => ?_) (fun h2 => ?_)
  · refine P_iconst (v := 0) rfl dX7_isWithin_14 ?_
    refine P_zreturn rfl (by first | exact Or.inl rfl | exact Or.inr rfl | assumption) dX7_isWithin_15 ?_
    refine ⟨?_, rfl⟩
    simp only [Int32.lt_iff_toInt_lt, Int32.le_iff_toInt_le] at *
    first | rw [if_pos (by omega)] | rw [if_neg (by omega)]
  · refine P_iloadn (i := 0) rfl rfl dX7_isWithin_5 ?_
    refine P_iloadn (i := 2) rfl rfl dX7_isWithin_6 ?_
    refine P_icmpgt dX7_isWithin_7 (tgt := 14) rfl (fun h7 => ?_) (fun h7 => ?_)
    · refine P_iconst (v := 0) rfl dX7_isWithin_14 ?_
      refine P_zreturn rfl (by first | exact Or.inl rfl | exact Or.inr rfl | assumption) dX7_isWithin_15 ?_
      refine ⟨?_, rfl⟩
      simp only [Int32.lt_iff_toInt_lt, Int32.le_iff_toInt_le] at *
      first | rw [if_pos (by omega)] | rw [if_neg (by omega)]
    · refine P_iconst (v := 1) rfl dX7_isWithin_10 ?_
      refine P_goto dX7_isWithin_11 (tgt := 15) rfl ?_
      refine P_zreturn rfl (by first | exact Or.inl rfl | exact Or.inr rfl | assumption) dX7_isWithin_15 ?_
      refine ⟨?_, rfl⟩
      simp only [Int32.lt_iff_toInt_lt, Int32.le_iff_toInt_le] at *
      first | rw [if_pos (by omega)] | rw [if_neg (by omega)]
theorem s_X8_in {v a b : Int32} : Sp g 0 iX8_in [vi v, vi a, vi b] (L, FI, AI, AL, AR) (0, 0) (QI (L, FI, AI, AL, AR) (if a ≤ v ∧ v ≤ b then 1 else 0)) := by
  refine Sp.of (ls := [some (vi v), some (vi a), some (vi b)]) (by decide +kernel) rfl rfl ?_
  refine P_iloadn (i := 0) rfl rfl dX8_in_0 ?_
  refine P_iloadn (i := 1) rfl rfl dX8_in_1 ?_
  refine P_icmplt dX8_in_2 (tgt := 14) rfl (fun h2 => ?_) (fun h2 => ?_)
  · refine P_iconst (v := 0) rfl dX8_in_14 ?_
    refine P_zreturn rfl (by first | exact Or.inl rfl | exact Or.inr rfl | assumption) dX8_in_15 ?_
    refine ⟨?_, rfl⟩
    simp only [Int32.lt_iff_toInt_lt, Int32.le_iff_toInt_le] at *
    first | rw [if_pos (by omega)] | rw [if_neg (by omega)]
  · refine P_iloadn (i := 0) rfl rfl dX8_in_5 ?_
    refine P_iloadn (i := 2) rfl rfl dX8_in_6 ?_
    refine P_icmpgt dX8_in_7 (tgt := 14) rfl (fun h7 => ?_) (fun h7 => ?_)
    · refine P_iconst (v := 0) rfl dX8_in_14 ?_
      refine P_zreturn rfl (by first | exact Or.inl rfl | exact Or.inr rfl | assumption) dX8_in_15 ?_
      refine ⟨?_, rfl⟩
      simp only [Int32.lt_iff_toInt_lt, Int32.le_iff_toInt_le] at *
      first | rw [if_pos (by omega)] | rw [if_neg (by omega)]
    · refine P_iconst (v := 1) rfl dX8_in_10 ?_
      refine P_goto dX8_in_11 (tgt := 15) rfl ?_
      refine P_zreturn rfl (by first | exact Or.inl rfl | exact Or.inr rfl | assumption) dX8_in_15 ?_
      refine ⟨?_, rfl⟩
      simp only [Int32.lt_iff_toInt_lt, Int32.le_iff_toInt_le] at *
      first | rw [if_pos (by omega)] | rw [if_neg (by omega)]
theorem s_arrive {a : Nat} {n t : Int32} (hk : L.2.1 a = 5) : Sp g 0 iX5_arrive [vr a, vi n, vi t] (L, FI, AI, AL, AR) (0, 0) (QV (L, p_up (p_up (p_up FI 166 a n) 167 a t) 168 a 0, AI, AL, AR)) := by
  refine Sp.of (ls := [some (vr a), some (vi n), some (vi t)]) (by decide +kernel) rfl rfl ?_
  refine P_aloadn (i := 0) rfl rfl dX5_arrive_0 ?_
  refine P_iloadn (i := 1) rfl rfl dX5_arrive_1 ?_
  refine uX5_29 rfl (by assumption) dX5_arrive_2 ?_
  refine P_aloadn (i := 0) rfl rfl dX5_arrive_5 ?_
  refine P_iloadn (i := 2) rfl rfl dX5_arrive_6 ?_
  refine uX5_32 rfl (by assumption) dX5_arrive_7 ?_
  refine P_aloadn (i := 0) rfl rfl dX5_arrive_10 ?_
  refine P_iconst (v := 0) rfl dX5_arrive_11 ?_
  refine uX5_35 rfl (by first | exact Or.inl rfl | exact Or.inr rfl | assumption) (by assumption) dX5_arrive_12 ?_
  refine P_return rfl dX5_arrive_15 ?_
  exact ⟨rfl, rfl⟩
theorem s_span {a : Nat} {o n l : Int32} (hk : L.2.1 a = 5) (hl : l = 0 ∨ l = 1) : Sp g 0 iX5_span [vr a, vi o, vi n, vi l] (L, FI, AI, AL, AR) (0, 0) (QV (L, p_up (p_up (p_up FI 161 a o) 162 a n) 165 a l, AI, AL, AR)) := by
  refine Sp.of (ls := [some (vr a), some (vi o), some (vi n), some (vi l)]) (by decide +kernel) rfl rfl ?_
  refine P_aloadn (i := 0) rfl rfl dX5_span_0 ?_
  refine P_iloadn (i := 1) rfl rfl dX5_span_1 ?_
  refine uX5_19 rfl (by assumption) dX5_span_2 ?_
  refine P_aloadn (i := 0) rfl rfl dX5_span_5 ?_
  refine P_iloadn (i := 2) rfl rfl dX5_span_6 ?_
  refine uX5_22 rfl (by assumption) dX5_span_7 ?_
  refine P_aloadn (i := 0) rfl rfl dX5_span_10 ?_
  refine P_iloadn (i := 3) rfl rfl dX5_span_11 ?_
  refine uX5_25 rfl (by first | exact Or.inl rfl | exact Or.inr rfl | assumption) (by assumption) dX5_span_12 ?_
  refine P_return rfl dX5_span_15 ?_
  exact ⟨rfl, rfl⟩
theorem s_Sbegin {a : Nat} {n s h : Int32} (hk : L.2.1 a = 5) : Sp g 0 iX5_begin [vr a, vi n, vi s, vi h] (L, FI, AI, AL, AR) (0, 0) (QV (L, p_up (p_up (p_up FI 160 a n) 164 a s) 163 a h, AI, AL, AR)) := by
  refine Sp.of (ls := [some (vr a), some (vi n), some (vi s), some (vi h)]) (by decide +kernel) rfl rfl ?_
  refine P_aloadn (i := 0) rfl rfl dX5_begin_0 ?_
  refine P_iloadn (i := 1) rfl rfl dX5_begin_1 ?_
  refine uX5_7 rfl (by assumption) dX5_begin_2 ?_
  refine P_aloadn (i := 0) rfl rfl dX5_begin_5 ?_
  refine P_iloadn (i := 2) rfl rfl dX5_begin_6 ?_
  refine uX5_13 rfl (by assumption) dX5_begin_7 ?_
  refine P_aloadn (i := 0) rfl rfl dX5_begin_10 ?_
  refine P_iloadn (i := 3) rfl rfl dX5_begin_11 ?_
  refine uX5_16 rfl (by assumption) dX5_begin_12 ?_
  refine P_return rfl dX5_begin_15 ?_
  exact ⟨rfl, rfl⟩
theorem s_Slice_copyFrom {a b : Nat} (hk : L.2.1 a = 5) (hk2 : L.2.1 b = 5) (hz1 : FI 165 b = 0 ∨ FI 165 b = 1) (hz2 : FI 168 b = 0 ∨ FI 168 b = 1) : Sp g 0 iX5_copyFrom [vr a, vr b] (L, FI, AI, AL, AR) (0, 0) (QV (L, p_up (p_up (p_up (p_up (p_up (p_up (p_up (p_up (p_up FI 160 a (FI 160 b)) 161 a (FI 161 b)) 162 a (FI 162 b)) 163 a (FI 163 b)) 164 a (FI 164 b)) 165 a (FI 165 b)) 166 a (FI 166 b)) 167 a (FI 167 b)) 168 a (FI 168 b), AI, AL, AR)) := by
  refine Sp.of (ls := [some (vr a), some (vr b)]) (by decide +kernel) rfl rfl ?_
  refine P_aloadn (i := 0) rfl rfl dX5_copyFrom_0 ?_
  refine P_aloadn (i := 1) rfl rfl dX5_copyFrom_1 ?_
  refine gX5_7 rfl (by assumption) (rfl) dX5_copyFrom_2 ?_
  refine uX5_7 rfl (by assumption) dX5_copyFrom_5 ?_
  refine P_aloadn (i := 0) rfl rfl dX5_copyFrom_8 ?_
  refine P_aloadn (i := 1) rfl rfl dX5_copyFrom_9 ?_
  refine gX5_19 rfl (by assumption) ((p_up_n1 _ _ _ _ (by decide)).trans (rfl)) dX5_copyFrom_10 ?_
  refine uX5_19 rfl (by assumption) dX5_copyFrom_13 ?_
  refine P_aloadn (i := 0) rfl rfl dX5_copyFrom_16 ?_
  refine P_aloadn (i := 1) rfl rfl dX5_copyFrom_17 ?_
  refine gX5_22 rfl (by assumption) ((p_up_n1 _ _ _ _ (by decide)).trans ((p_up_n1 _ _ _ _ (by decide)).trans (rfl))) dX5_copyFrom_18 ?_
  refine uX5_22 rfl (by assumption) dX5_copyFrom_21 ?_
  refine P_aloadn (i := 0) rfl rfl dX5_copyFrom_24 ?_
  refine P_aloadn (i := 1) rfl rfl dX5_copyFrom_25 ?_
  refine gX5_16 rfl (by assumption) ((p_up_n1 _ _ _ _ (by decide)).trans ((p_up_n1 _ _ _ _ (by decide)).trans ((p_up_n1 _ _ _ _ (by decide)).trans (rfl)))) dX5_copyFrom_26 ?_
  refine uX5_16 rfl (by assumption) dX5_copyFrom_29 ?_
  refine P_aloadn (i := 0) rfl rfl dX5_copyFrom_32 ?_
  refine P_aloadn (i := 1) rfl rfl dX5_copyFrom_33 ?_
  refine gX5_13 rfl (by assumption) ((p_up_n1 _ _ _ _ (by decide)).trans ((p_up_n1 _ _ _ _ (by decide)).trans ((p_up_n1 _ _ _ _ (by decide)).trans ((p_up_n1 _ _ _ _ (by decide)).trans (rfl))))) dX5_copyFrom_34 ?_
  refine uX5_13 rfl (by assumption) dX5_copyFrom_37 ?_
  refine P_aloadn (i := 0) rfl rfl dX5_copyFrom_40 ?_
  refine P_aloadn (i := 1) rfl rfl dX5_copyFrom_41 ?_
  refine gX5_25 rfl (by assumption) ((p_up_n1 _ _ _ _ (by decide)).trans ((p_up_n1 _ _ _ _ (by decide)).trans ((p_up_n1 _ _ _ _ (by decide)).trans ((p_up_n1 _ _ _ _ (by decide)).trans ((p_up_n1 _ _ _ _ (by decide)).trans (rfl)))))) dX5_copyFrom_42 ?_
  refine uX5_25 rfl (by assumption) (by assumption) dX5_copyFrom_45 ?_
  refine P_aloadn (i := 0) rfl rfl dX5_copyFrom_48 ?_
  refine P_aloadn (i := 1) rfl rfl dX5_copyFrom_49 ?_
  refine gX5_29 rfl (by assumption) ((p_up_n1 _ _ _ _ (by decide)).trans ((p_up_n1 _ _ _ _ (by decide)).trans ((p_up_n1 _ _ _ _ (by decide)).trans ((p_up_n1 _ _ _ _ (by decide)).trans ((p_up_n1 _ _ _ _ (by decide)).trans ((p_up_n1 _ _ _ _ (by decide)).trans (rfl))))))) dX5_copyFrom_50 ?_
  refine uX5_29 rfl (by assumption) dX5_copyFrom_53 ?_
  refine P_aloadn (i := 0) rfl rfl dX5_copyFrom_56 ?_
  refine P_aloadn (i := 1) rfl rfl dX5_copyFrom_57 ?_
  refine gX5_32 rfl (by assumption) ((p_up_n1 _ _ _ _ (by decide)).trans ((p_up_n1 _ _ _ _ (by decide)).trans ((p_up_n1 _ _ _ _ (by decide)).trans ((p_up_n1 _ _ _ _ (by decide)).trans ((p_up_n1 _ _ _ _ (by decide)).trans ((p_up_n1 _ _ _ _ (by decide)).trans ((p_up_n1 _ _ _ _ (by decide)).trans (rfl)))))))) dX5_copyFrom_58 ?_
  refine uX5_32 rfl (by assumption) dX5_copyFrom_61 ?_
  refine P_aloadn (i := 0) rfl rfl dX5_copyFrom_64 ?_
  refine P_aloadn (i := 1) rfl rfl dX5_copyFrom_65 ?_
  refine gX5_35 rfl (by assumption) ((p_up_n1 _ _ _ _ (by decide)).trans ((p_up_n1 _ _ _ _ (by decide)).trans ((p_up_n1 _ _ _ _ (by decide)).trans ((p_up_n1 _ _ _ _ (by decide)).trans ((p_up_n1 _ _ _ _ (by decide)).trans ((p_up_n1 _ _ _ _ (by decide)).trans ((p_up_n1 _ _ _ _ (by decide)).trans ((p_up_n1 _ _ _ _ (by decide)).trans (rfl))))))))) dX5_copyFrom_66 ?_
  refine uX5_35 rfl (by assumption) (by assumption) dX5_copyFrom_69 ?_
  refine P_return rfl dX5_copyFrom_72 ?_
  exact ⟨rfl, rfl⟩
theorem s_Bridge_copyFrom {a b : Nat} (hk : L.2.1 a = 0) (hk2 : L.2.1 b = 0) : Sp g 0 iX0_copyFrom [vr a, vr b] (L, FI, AI, AL, AR) (0, 0) (QV (L, p_up (p_up (p_up (p_up (p_up (p_up (p_up (p_up (p_up (FI) 0 a (FI 0 b)) 1 a (FI 1 b)) 2 a (FI 2 b)) 3 a (FI 3 b)) 4 a (FI 4 b)) 5 a (FI 5 b)) 6 a (FI 6 b)) 7 a (FI 7 b)) 8 a (FI 8 b), AI, AL, AR)) := by
  refine Sp.of (ls := [some (vr a), some (vr b)]) (by decide +kernel) rfl rfl ?_
  refine P_aloadn (i := 0) rfl rfl dX0_copyFrom_0 ?_
  refine P_aloadn (i := 1) rfl rfl dX0_copyFrom_1 ?_
  refine gX0_9 rfl (by assumption) (rfl) dX0_copyFrom_2 ?_
  refine uX0_9 rfl (by assumption) dX0_copyFrom_5 ?_
  refine P_aloadn (i := 0) rfl rfl dX0_copyFrom_8 ?_
  refine P_aloadn (i := 1) rfl rfl dX0_copyFrom_9 ?_
  refine gX0_15 rfl (by assumption) ((p_up_n1 _ _ _ _ (by decide)).trans (rfl)) dX0_copyFrom_10 ?_
  refine uX0_15 rfl (by assumption) dX0_copyFrom_13 ?_
  refine P_aloadn (i := 0) rfl rfl dX0_copyFrom_16 ?_
  refine P_aloadn (i := 1) rfl rfl dX0_copyFrom_17 ?_
  refine gX0_18 rfl (by assumption) ((p_up_n1 _ _ _ _ (by decide)).trans ((p_up_n1 _ _ _ _ (by decide)).trans (rfl))) dX0_copyFrom_18 ?_
  refine uX0_18 rfl (by assumption) dX0_copyFrom_21 ?_
  refine P_aloadn (i := 0) rfl rfl dX0_copyFrom_24 ?_
  refine P_aloadn (i := 1) rfl rfl dX0_copyFrom_25 ?_
  refine gX0_21 rfl (by assumption) ((p_up_n1 _ _ _ _ (by decide)).trans ((p_up_n1 _ _ _ _ (by decide)).trans ((p_up_n1 _ _ _ _ (by decide)).trans (rfl)))) dX0_copyFrom_26 ?_
  refine uX0_21 rfl (by assumption) dX0_copyFrom_29 ?_
  refine P_aloadn (i := 0) rfl rfl dX0_copyFrom_32 ?_
  refine P_aloadn (i := 1) rfl rfl dX0_copyFrom_33 ?_
  refine gX0_24 rfl (by assumption) ((p_up_n1 _ _ _ _ (by decide)).trans ((p_up_n1 _ _ _ _ (by decide)).trans ((p_up_n1 _ _ _ _ (by decide)).trans ((p_up_n1 _ _ _ _ (by decide)).trans (rfl))))) dX0_copyFrom_34 ?_
  refine uX0_24 rfl (by assumption) dX0_copyFrom_37 ?_
  refine P_aloadn (i := 0) rfl rfl dX0_copyFrom_40 ?_
  refine P_aloadn (i := 1) rfl rfl dX0_copyFrom_41 ?_
  refine gX0_27 rfl (by assumption) ((p_up_n1 _ _ _ _ (by decide)).trans ((p_up_n1 _ _ _ _ (by decide)).trans ((p_up_n1 _ _ _ _ (by decide)).trans ((p_up_n1 _ _ _ _ (by decide)).trans ((p_up_n1 _ _ _ _ (by decide)).trans (rfl)))))) dX0_copyFrom_42 ?_
  refine uX0_27 rfl (by assumption) dX0_copyFrom_45 ?_
  refine P_aloadn (i := 0) rfl rfl dX0_copyFrom_48 ?_
  refine P_aloadn (i := 1) rfl rfl dX0_copyFrom_49 ?_
  refine gX0_30 rfl (by assumption) ((p_up_n1 _ _ _ _ (by decide)).trans ((p_up_n1 _ _ _ _ (by decide)).trans ((p_up_n1 _ _ _ _ (by decide)).trans ((p_up_n1 _ _ _ _ (by decide)).trans ((p_up_n1 _ _ _ _ (by decide)).trans ((p_up_n1 _ _ _ _ (by decide)).trans (rfl))))))) dX0_copyFrom_50 ?_
  refine uX0_30 rfl (by assumption) dX0_copyFrom_53 ?_
  refine P_aloadn (i := 0) rfl rfl dX0_copyFrom_56 ?_
  refine P_aloadn (i := 1) rfl rfl dX0_copyFrom_57 ?_
  refine gX0_33 rfl (by assumption) ((p_up_n1 _ _ _ _ (by decide)).trans ((p_up_n1 _ _ _ _ (by decide)).trans ((p_up_n1 _ _ _ _ (by decide)).trans ((p_up_n1 _ _ _ _ (by decide)).trans ((p_up_n1 _ _ _ _ (by decide)).trans ((p_up_n1 _ _ _ _ (by decide)).trans ((p_up_n1 _ _ _ _ (by decide)).trans (rfl)))))))) dX0_copyFrom_58 ?_
  refine uX0_33 rfl (by assumption) dX0_copyFrom_61 ?_
  refine P_aloadn (i := 0) rfl rfl dX0_copyFrom_64 ?_
  refine P_aloadn (i := 1) rfl rfl dX0_copyFrom_65 ?_
  refine gX0_36 rfl (by assumption) ((p_up_n1 _ _ _ _ (by decide)).trans ((p_up_n1 _ _ _ _ (by decide)).trans ((p_up_n1 _ _ _ _ (by decide)).trans ((p_up_n1 _ _ _ _ (by decide)).trans ((p_up_n1 _ _ _ _ (by decide)).trans ((p_up_n1 _ _ _ _ (by decide)).trans ((p_up_n1 _ _ _ _ (by decide)).trans ((p_up_n1 _ _ _ _ (by decide)).trans (rfl))))))))) dX0_copyFrom_66 ?_
  refine uX0_36 rfl (by assumption) dX0_copyFrom_69 ?_
  refine P_return rfl dX0_copyFrom_72 ?_
  exact ⟨rfl, rfl⟩
theorem s_bears {a : Nat} {n : Int32} (hk : L.2.1 a = 0) : Sp g 0 iX0_bears [vr a, vi n] (L, FI, AI, AL, AR) (0, 0) (QI (L, FI, AI, AL, AR) (if n + 8 ≤ FI 2 a then 1 else 0)) := by
  refine Sp.of (ls := [some (vr a), some (vi n)]) (by decide +kernel) rfl rfl ?_
  refine P_iloadn (i := 1) rfl rfl dX0_bears_0 ?_
  refine P_bipush (v := 8) rfl dX0_bears_1 ?_
  refine P_iadd dX0_bears_3 ?_
  refine P_aloadn (i := 0) rfl rfl dX0_bears_4 ?_
  refine gX0_18 rfl (by assumption) rfl dX0_bears_5 ?_
  refine P_icmpgt dX0_bears_8 (tgt := 15) rfl (fun h8 => ?_) (fun h8 => ?_)
  · refine P_iconst (v := 0) rfl dX0_bears_15 ?_
    refine P_zreturn rfl (by first | exact Or.inl rfl | exact Or.inr rfl | assumption) dX0_bears_16 ?_
    refine ⟨?_, rfl⟩
    simp only [Int32.lt_iff_toInt_lt, Int32.le_iff_toInt_le] at *
    first | rw [if_pos (by omega)] | rw [if_neg (by omega)]
  · refine P_iconst (v := 1) rfl dX0_bears_11 ?_
    refine P_goto dX0_bears_12 (tgt := 16) rfl ?_
    refine P_zreturn rfl (by first | exact Or.inl rfl | exact Or.inr rfl | assumption) dX0_bears_16 ?_
    refine ⟨?_, rfl⟩
    simp only [Int32.lt_iff_toInt_lt, Int32.le_iff_toInt_le] at *
    first | rw [if_pos (by omega)] | rw [if_neg (by omega)]
theorem s_longestPiece {a : Nat} (hk : L.2.1 a = 0) : Sp g 0 iX0_longestPiece [vr a] (L, FI, AI, AL, AR) (0, 0) (QI (L, FI, AI, AL, AR) (c_piece (FI 2 a))) := by
  refine Sp.of (ls := [some (vr a)]) (by decide +kernel) rfl rfl ?_
  refine P_bipush (v := 8) rfl dX0_longestPiece_0 ?_
  refine P_aloadn (i := 0) rfl rfl dX0_longestPiece_2 ?_
  refine gX0_18 rfl (by assumption) rfl dX0_longestPiece_3 ?_
  refine P_bipush (v := 8) rfl dX0_longestPiece_6 ?_
  refine P_isub dX0_longestPiece_8 ?_
  refine P_bipush (v := 8) rfl dX0_longestPiece_9 ?_
  refine P_idiv (by decide) dX0_longestPiece_11 ?_
  refine P_bipush (v := 8) rfl dX0_longestPiece_12 ?_
  refine P_imul dX0_longestPiece_14 ?_
  refine mX0_39 rfl dX0_longestPiece_15 rfl ?_
  refine P_ireturn rfl dX0_longestPiece_18 ?_
  exact ⟨rfl, rfl⟩
theorem s_fullPieces {a : Nat} {n : Int32} (hk : L.2.1 a = 0) : Sp g 1 iX0_fullPieces [vr a, vi n] (L, FI, AI, AL, AR) (0, 0) (QI (L, FI, AI, AL, AR) (c_full (FI 2 a) n)) := by
  refine Sp.of (ls := [some (vr a), some (vi n)]) (by decide +kernel) rfl rfl ?_
  refine P_aloadn (i := 0) rfl rfl dX0_fullPieces_0 ?_
  refine P_iloadn (i := 1) rfl rfl dX0_fullPieces_1 ?_
  refine kX0_45 rfl (s_bears hk) (by decide) (by assumption) rfl dX0_fullPieces_2 (fun r2 s2 q2 => ?_)
  obtain ⟨rfl, rfl⟩ := q2
  refine P_ifeq dX0_fullPieces_5 (tgt := 12) rfl (fun h5 => ?_) (fun h5 => ?_)
  · refine P_iloadn (i := 1) rfl rfl dX0_fullPieces_12 ?_
    refine P_iconst (v := 1) rfl dX0_fullPieces_13 ?_
    refine P_isub dX0_fullPieces_14 ?_
    refine P_aloadn (i := 0) rfl rfl dX0_fullPieces_15 ?_
    refine kX0_49 rfl (s_longestPiece hk) (by decide) (by assumption) rfl dX0_fullPieces_16 (fun r16 s16 q16 => ?_)
    obtain ⟨rfl, rfl⟩ := q16
    refine P_idiv (c_piece_ne _) dX0_fullPieces_19 ?_
    refine P_ireturn rfl dX0_fullPieces_20 ?_
    refine ⟨?_, rfl⟩
    unfold c_full
    first | rw [if_neg (b_f h5)] | rw [if_pos (b_t h5)]
  · refine P_iconst (v := 0) rfl dX0_fullPieces_8 ?_
    refine P_goto dX0_fullPieces_9 (tgt := 20) rfl ?_
    refine P_ireturn rfl dX0_fullPieces_20 ?_
    refine ⟨?_, rfl⟩
    unfold c_full
    first | rw [if_neg (b_f h5)] | rw [if_pos (b_t h5)]
theorem s_ticksFor {a : Nat} {n : Int32} (hk : L.2.1 a = 0) : Sp g 0 iX0_ticksFor [vr a, vi n] (L, FI, AI, AL, AR) (0, 0) (QI (L, FI, AI, AL, AR) (c_time (FI 3 a) (FI 4 a) n)) := by
  refine Sp.of (ls := [some (vr a), some (vi n)]) (by decide +kernel) rfl rfl ?_
  refine P_aloadn (i := 0) rfl rfl dX0_ticksFor_0 ?_
  refine gX0_21 rfl (by assumption) rfl dX0_ticksFor_1 ?_
  refine P_iloadn (i := 1) rfl rfl dX0_ticksFor_4 ?_
  refine P_bipush (v := 8) rfl dX0_ticksFor_5 ?_
  refine P_iadd dX0_ticksFor_7 ?_
  refine P_iconst (v := 1) rfl dX0_ticksFor_8 ?_
  refine P_aloadn (i := 0) rfl rfl dX0_ticksFor_9 ?_
  refine gX0_24 rfl (by assumption) rfl dX0_ticksFor_10 ?_
  refine mX0_39 rfl dX0_ticksFor_13 rfl ?_
  refine P_idiv (c_pace_ne _) dX0_ticksFor_16 ?_
  refine P_iadd dX0_ticksFor_17 ?_
  refine P_ireturn rfl dX0_ticksFor_18 ?_
  exact ⟨rfl, rfl⟩
theorem s_loses {a : Nat} (hk : L.2.1 a = 0) : Sp g 0 iX0_loses [vr a] (L, FI, AI, AL, AR) (0, 0) (QR L (fun r F2 A2 AL2 AR2 => A2 = AI ∧ AL2 = AL ∧ AR2 = AR ∧ (if c_lost (FI 6 a + 1) (FI 5 a) = true then r = some (vi 1) ∧ F2 = p_up (p_up FI 6 a (FI 6 a + 1)) 7 a (FI 7 a + 1) else r = some (vi 0) ∧ F2 = p_up FI 6 a (FI 6 a + 1)))) := by
  refine Sp.of (ls := [some (vr a)]) (by decide +kernel) rfl rfl ?_
  refine P_aloadn (i := 0) rfl rfl dX0_loses_0 ?_
  refine P_dup rfl dX0_loses_1 ?_
  refine gX0_30 rfl (by assumption) rfl dX0_loses_2 ?_
  refine P_iconst (v := 1) rfl dX0_loses_5 ?_
  refine P_iadd dX0_loses_6 ?_
  refine uX0_30 rfl (by assumption) dX0_loses_7 ?_
  refine P_aloadn (i := 0) rfl rfl dX0_loses_10 ?_
  refine gX0_27 rfl (by assumption) (p_up_n1 _ _ _ _ (by decide)) dX0_loses_11 ?_
  refine P_ifle dX0_loses_14 (tgt := 29) rfl (fun h14 => ?_) (fun h14 => ?_)
  · refine P_iconst (v := 0) rfl dX0_loses_29 ?_
    refine P_zreturn rfl (by first | exact Or.inl rfl | exact Or.inr rfl | assumption) dX0_loses_30 ?_
    refine ⟨_, _, _, _, rfl, rfl, rfl, rfl, ?_⟩
    first | (rw [if_pos (by unfold c_lost c_rem; simp only [Bool.and_eq_true, decide_eq_true_eq]; exact ⟨Int32.not_le.mp h14, h26⟩)]; exact ⟨rfl, rfl⟩) | (rw [if_neg (by unfold c_lost c_rem; simp only [Bool.and_eq_true, decide_eq_true_eq]; intro hh; first | exact h26 hh.2 | exact Int32.not_le.mpr hh.1 h14)]; exact ⟨rfl, rfl⟩)
  · refine P_aloadn (i := 0) rfl rfl dX0_loses_17 ?_
    refine gX0_30 rfl (by assumption) (p_up_eq _ _ _ _) dX0_loses_18 ?_
    refine P_aloadn (i := 0) rfl rfl dX0_loses_21 ?_
    refine gX0_27 rfl (by assumption) (p_up_n1 _ _ _ _ (by decide)) dX0_loses_22 ?_
    refine P_irem (by intro e; rw [e] at h14; exact h14 (by decide)) dX0_loses_25 ?_
    refine P_ifeq dX0_loses_26 (tgt := 31) rfl (fun h26 => ?_) (fun h26 => ?_)
    · refine P_aloadn (i := 0) rfl rfl dX0_loses_31 ?_
      refine P_dup rfl dX0_loses_32 ?_
      refine gX0_33 rfl (by assumption) (p_up_n1 _ _ _ _ (by decide)) dX0_loses_33 ?_
      refine P_iconst (v := 1) rfl dX0_loses_36 ?_
      refine P_iadd dX0_loses_37 ?_
      refine uX0_33 rfl (by assumption) dX0_loses_38 ?_
      refine P_iconst (v := 1) rfl dX0_loses_41 ?_
      refine P_zreturn rfl (by first | exact Or.inl rfl | exact Or.inr rfl | assumption) dX0_loses_42 ?_
      refine ⟨_, _, _, _, rfl, rfl, rfl, rfl, ?_⟩
      first | (rw [if_pos (by unfold c_lost c_rem; simp only [Bool.and_eq_true, decide_eq_true_eq]; exact ⟨Int32.not_le.mp h14, h26⟩)]; exact ⟨rfl, rfl⟩) | (rw [if_neg (by unfold c_lost c_rem; simp only [Bool.and_eq_true, decide_eq_true_eq]; intro hh; first | exact h26 hh.2 | exact Int32.not_le.mpr hh.1 h14)]; exact ⟨rfl, rfl⟩)
    · refine P_iconst (v := 0) rfl dX0_loses_29 ?_
      refine P_zreturn rfl (by first | exact Or.inl rfl | exact Or.inr rfl | assumption) dX0_loses_30 ?_
      refine ⟨_, _, _, _, rfl, rfl, rfl, rfl, ?_⟩
      first | (rw [if_pos (by unfold c_lost c_rem; simp only [Bool.and_eq_true, decide_eq_true_eq]; exact ⟨Int32.not_le.mp h14, h26⟩)]; exact ⟨rfl, rfl⟩) | (rw [if_neg (by unfold c_lost c_rem; simp only [Bool.and_eq_true, decide_eq_true_eq]; intro hh; first | exact h26 hh.2 | exact Int32.not_le.mpr hh.1 h14)]; exact ⟨rfl, rfl⟩)
end Leaf
