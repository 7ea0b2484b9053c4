section Leaf
variable {g : PG} {L : PL} {FI AI : Nat → Nat → Int32} {AL : Nat → Nat → Int64} {AR : Nat → Nat → Option Nat}
theorem s_X7_isWithin {v a b : Int32} : Sp g 0 iX7_isWithin [vi v, vi a, vi b] (L, FI, AI, AL, AR) (0, 0) (QI (L, FI, AI, AL, AR) (if a ≤ v ∧ v ≤ b then 1 else 0)) := by
  refine Sp.of (ls := [some (vi v), some (vi a), some (vi b)]) (by decide +kernel) rfl rfl ?_
  refine P_iloadn (i := 0) rfl rfl dX7_isWithin_0 ?_
  refine P_iloadn (i := 1) rfl rfl dX7_isWithin_1 ?_
  refine P_icmplt dX7_isWithin_2 (tgt := 14) rfl (fun h2 => ?_) (fun h2 => ?_)
  · refine P_iconst (v := 0) rfl dX7_isWithin_14 ?_
    refine P_zreturn rfl (by first | exact Or.inl rfl | exact Or.inr rfl | assumption) dX7_isWithin_15 ?_
    exact ⟨by simp [*], rfl⟩
  · refine P_iloadn (i := 0) rfl rfl dX7_isWithin_5 ?_
    refine P_iloadn (i := 2) rfl rfl dX7_isWithin_6 ?_
    refine P_icmpgt dX7_isWithin_7 (tgt := 14) rfl (fun h7 => ?_) (fun h7 => ?_)
    · refine P_iconst (v := 0) rfl dX7_isWithin_14 ?_
      refine P_zreturn rfl (by first | exact Or.inl rfl | exact Or.inr rfl | assumption) dX7_isWithin_15 ?_
      exact ⟨by simp [*], rfl⟩
    · refine P_iconst (v := 1) rfl dX7_isWithin_10 ?_
      refine P_goto dX7_isWithin_11 (tgt := 15) rfl ?_
      refine P_zreturn rfl (by first | exact Or.inl rfl | exact Or.inr rfl | assumption) dX7_isWithin_15 ?_
      exact ⟨by simp [*], rfl⟩
theorem s_X8_in {v a b : Int32} : Sp g 0 iX8_in [vi v, vi a, vi b] (L, FI, AI, AL, AR) (0, 0) (QI (L, FI, AI, AL, AR) (if a ≤ v ∧ v ≤ b then 1 else 0)) := by
  refine Sp.of (ls := [some (vi v), some (vi a), some (vi b)]) (by decide +kernel) rfl rfl ?_
  refine P_iloadn (i := 0) rfl rfl dX8_in_0 ?_
  refine P_iloadn (i := 1) rfl rfl dX8_in_1 ?_
  refine P_icmplt dX8_in_2 (tgt := 14) rfl (fun h2 => ?_) (fun h2 => ?_)
  · refine P_iconst (v := 0) rfl dX8_in_14 ?_
    refine P_zreturn rfl (by first | exact Or.inl rfl | exact Or.inr rfl | assumption) dX8_in_15 ?_
    exact ⟨by simp [*], rfl⟩
  · refine P_iloadn (i := 0) rfl rfl dX8_in_5 ?_
    refine P_iloadn (i := 2) rfl rfl dX8_in_6 ?_
    refine P_icmpgt dX8_in_7 (tgt := 14) rfl (fun h7 => ?_) (fun h7 => ?_)
    · refine P_iconst (v := 0) rfl dX8_in_14 ?_
      refine P_zreturn rfl (by first | exact Or.inl rfl | exact Or.inr rfl | assumption) dX8_in_15 ?_
      exact ⟨by simp [*], rfl⟩
    · refine P_iconst (v := 1) rfl dX8_in_10 ?_
      refine P_goto dX8_in_11 (tgt := 15) rfl ?_
      refine P_zreturn rfl (by first | exact Or.inl rfl | exact Or.inr rfl | assumption) dX8_in_15 ?_
      exact ⟨by simp [*], rfl⟩
theorem s_arrive {a : Nat} {n t : Int32} (hk : L.2.1 a = 5) : Sp g 0 iX5_arrive [vr a, vi n, vi t] (L, FI, AI, AL, AR) (0, 0) (QV (L, p_up (p_up (p_up FI 166 a n) 167 a t) 168 a 0, AI, AL, AR)) := by
  refine Sp.of (ls := [some (vr a), some (vi n), some (vi t)]) (by decide +kernel) rfl rfl ?_
  refine P_aloadn (i := 0) rfl rfl dX5_arrive_0 ?_
  refine P_iloadn (i := 1) rfl rfl dX5_arrive_1 ?_
  refine uX5_20 rfl (by assumption) dX5_arrive_2 ?_
  refine P_aloadn (i := 0) rfl rfl dX5_arrive_5 ?_
  refine P_iloadn (i := 2) rfl rfl dX5_arrive_6 ?_
  refine uX5_23 rfl (by assumption) dX5_arrive_7 ?_
  refine P_aloadn (i := 0) rfl rfl dX5_arrive_10 ?_
  refine P_iconst (v := 0) rfl dX5_arrive_11 ?_
  refine uX5_26 rfl (by first | exact Or.inl rfl | exact Or.inr rfl | assumption) (by assumption) dX5_arrive_12 ?_
  refine P_return rfl dX5_arrive_15 ?_
  exact ⟨rfl, rfl⟩
theorem s_span {a : Nat} {o n l : Int32} (hk : L.2.1 a = 5) (hl : l = 0 ∨ l = 1) : Sp g 0 iX5_span [vr a, vi o, vi n, vi l] (L, FI, AI, AL, AR) (0, 0) (QV (L, p_up (p_up (p_up FI 161 a o) 162 a n) 165 a l, AI, AL, AR)) := by
  refine Sp.of (ls := [some (vr a), some (vi o), some (vi n), some (vi l)]) (by decide +kernel) rfl rfl ?_
  refine P_aloadn (i := 0) rfl rfl dX5_span_0 ?_
  refine P_iloadn (i := 1) rfl rfl dX5_span_1 ?_
  refine uX5_7 rfl (by assumption) dX5_span_2 ?_
  refine P_aloadn (i := 0) rfl rfl dX5_span_5 ?_
  refine P_iloadn (i := 2) rfl rfl dX5_span_6 ?_
  refine uX5_13 rfl (by assumption) dX5_span_7 ?_
  refine P_aloadn (i := 0) rfl rfl dX5_span_10 ?_
  refine P_iloadn (i := 3) rfl rfl dX5_span_11 ?_
  refine uX5_16 rfl (by first | exact Or.inl rfl | exact Or.inr rfl | assumption) (by assumption) dX5_span_12 ?_
  refine P_return rfl dX5_span_15 ?_
  exact ⟨rfl, rfl⟩
end Leaf
