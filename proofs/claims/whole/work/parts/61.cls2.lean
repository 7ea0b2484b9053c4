section Cls2
variable {g : PG} {L : PL} {FI AI : Nat → Nat → Int32} {AL : Nat → Nat → Int64} {AR : Nat → Nat → Option Nat} {a b : Nat}
theorem s_B_copy (hk : L.2.1 a = 0) (hk2 : L.2.1 b = 0)  : Sp g 0 iX0_copyFrom [vr a, vr b] (L, FI, AI, AL, AR) (0, 0) (QV (L, cpF FI 0 9 a b, AI, AL, AR)) := by
  refine Sp.of (ls := [some (vr a), some (vr b)]) (by decide +kernel) rfl rfl ?_
  rw [show FI = cpF FI 0 0 a b from (cpF_0 FI 0 a b).symm]
  rw [show cpF (cpF FI 0 0 a b) 0 9 a b = cpF FI 0 9 a b from by rw [cpF_0]]
  refine P_aloadn (i := 0) rfl rfl dX0_copyFrom_0 ?_
  refine P_aloadn (i := 1) rfl rfl dX0_copyFrom_1 ?_
  refine gX0_9 rfl (by assumption) cpF_b dX0_copyFrom_2 ?_
  refine uX0_9 rfl (by assumption) dX0_copyFrom_5 ?_
  rw [cpF_s (by decide)]
  refine P_aloadn (i := 0) rfl rfl dX0_copyFrom_8 ?_
  refine P_aloadn (i := 1) rfl rfl dX0_copyFrom_9 ?_
  refine gX0_15 rfl (by assumption) cpF_b dX0_copyFrom_10 ?_
  refine uX0_15 rfl (by assumption) dX0_copyFrom_13 ?_
  rw [cpF_s (by decide)]
  refine P_aloadn (i := 0) rfl rfl dX0_copyFrom_16 ?_
  refine P_aloadn (i := 1) rfl rfl dX0_copyFrom_17 ?_
  refine gX0_18 rfl (by assumption) cpF_b dX0_copyFrom_18 ?_
  refine uX0_18 rfl (by assumption) dX0_copyFrom_21 ?_
  rw [cpF_s (by decide)]
  refine P_aloadn (i := 0) rfl rfl dX0_copyFrom_24 ?_
  refine P_aloadn (i := 1) rfl rfl dX0_copyFrom_25 ?_
  refine gX0_21 rfl (by assumption) cpF_b dX0_copyFrom_26 ?_
  refine uX0_21 rfl (by assumption) dX0_copyFrom_29 ?_
  rw [cpF_s (by decide)]
  refine P_aloadn (i := 0) rfl rfl dX0_copyFrom_32 ?_
  refine P_aloadn (i := 1) rfl rfl dX0_copyFrom_33 ?_
  refine gX0_24 rfl (by assumption) cpF_b dX0_copyFrom_34 ?_
  refine uX0_24 rfl (by assumption) dX0_copyFrom_37 ?_
  rw [cpF_s (by decide)]
  refine P_aloadn (i := 0) rfl rfl dX0_copyFrom_40 ?_
  refine P_aloadn (i := 1) rfl rfl dX0_copyFrom_41 ?_
  refine gX0_27 rfl (by assumption) cpF_b dX0_copyFrom_42 ?_
  refine uX0_27 rfl (by assumption) dX0_copyFrom_45 ?_
  rw [cpF_s (by decide)]
  refine P_aloadn (i := 0) rfl rfl dX0_copyFrom_48 ?_
  refine P_aloadn (i := 1) rfl rfl dX0_copyFrom_49 ?_
  refine gX0_30 rfl (by assumption) cpF_b dX0_copyFrom_50 ?_
  refine uX0_30 rfl (by assumption) dX0_copyFrom_53 ?_
  rw [cpF_s (by decide)]
  refine P_aloadn (i := 0) rfl rfl dX0_copyFrom_56 ?_
  refine P_aloadn (i := 1) rfl rfl dX0_copyFrom_57 ?_
  refine gX0_33 rfl (by assumption) cpF_b dX0_copyFrom_58 ?_
  refine uX0_33 rfl (by assumption) dX0_copyFrom_61 ?_
  rw [cpF_s (by decide)]
  refine P_aloadn (i := 0) rfl rfl dX0_copyFrom_64 ?_
  refine P_aloadn (i := 1) rfl rfl dX0_copyFrom_65 ?_
  refine gX0_36 rfl (by assumption) cpF_b dX0_copyFrom_66 ?_
  refine uX0_36 rfl (by assumption) dX0_copyFrom_69 ?_
  rw [cpF_s (by decide)]
  refine P_return rfl dX0_copyFrom_72 ?_
  exact ⟨rfl, rfl⟩
theorem s_S_copy (hk : L.2.1 a = 5) (hk2 : L.2.1 b = 5) (hz165 : FI 165 b = 0 ∨ FI 165 b = 1) (hz168 : FI 168 b = 0 ∨ FI 168 b = 1) : Sp g 0 iX5_copyFrom [vr a, vr b] (L, FI, AI, AL, AR) (0, 0) (QV (L, cpF FI 160 169 a b, AI, AL, AR)) := by
  refine Sp.of (ls := [some (vr a), some (vr b)]) (by decide +kernel) rfl rfl ?_
  rw [show FI = cpF FI 160 160 a b from (cpF_0 FI 160 a b).symm]
  rw [show cpF (cpF FI 160 160 a b) 160 169 a b = cpF FI 160 169 a b from by rw [cpF_0]]
  refine P_aloadn (i := 0) rfl rfl dX5_copyFrom_0 ?_
  refine P_aloadn (i := 1) rfl rfl dX5_copyFrom_1 ?_
  refine gX5_7 rfl (by assumption) cpF_b dX5_copyFrom_2 ?_
  refine uX5_7 rfl (by assumption) dX5_copyFrom_5 ?_
  rw [cpF_s (by decide)]
  refine P_aloadn (i := 0) rfl rfl dX5_copyFrom_8 ?_
  refine P_aloadn (i := 1) rfl rfl dX5_copyFrom_9 ?_
  refine gX5_19 rfl (by assumption) cpF_b dX5_copyFrom_10 ?_
  refine uX5_19 rfl (by assumption) dX5_copyFrom_13 ?_
  rw [cpF_s (by decide)]
  refine P_aloadn (i := 0) rfl rfl dX5_copyFrom_16 ?_
  refine P_aloadn (i := 1) rfl rfl dX5_copyFrom_17 ?_
  refine gX5_22 rfl (by assumption) cpF_b dX5_copyFrom_18 ?_
  refine uX5_22 rfl (by assumption) dX5_copyFrom_21 ?_
  rw [cpF_s (by decide)]
  refine P_aloadn (i := 0) rfl rfl dX5_copyFrom_24 ?_
  refine P_aloadn (i := 1) rfl rfl dX5_copyFrom_25 ?_
  refine gX5_16 rfl (by assumption) cpF_b dX5_copyFrom_26 ?_
  refine uX5_16 rfl (by assumption) dX5_copyFrom_29 ?_
  rw [cpF_s (by decide)]
  refine P_aloadn (i := 0) rfl rfl dX5_copyFrom_32 ?_
  refine P_aloadn (i := 1) rfl rfl dX5_copyFrom_33 ?_
  refine gX5_13 rfl (by assumption) cpF_b dX5_copyFrom_34 ?_
  refine uX5_13 rfl (by assumption) dX5_copyFrom_37 ?_
  rw [cpF_s (by decide)]
  refine P_aloadn (i := 0) rfl rfl dX5_copyFrom_40 ?_
  refine P_aloadn (i := 1) rfl rfl dX5_copyFrom_41 ?_
  refine gX5_25 rfl (by assumption) cpF_b dX5_copyFrom_42 ?_
  refine uX5_25 rfl hz165 (by assumption) dX5_copyFrom_45 ?_
  rw [cpF_s (by decide)]
  refine P_aloadn (i := 0) rfl rfl dX5_copyFrom_48 ?_
  refine P_aloadn (i := 1) rfl rfl dX5_copyFrom_49 ?_
  refine gX5_29 rfl (by assumption) cpF_b dX5_copyFrom_50 ?_
  refine uX5_29 rfl (by assumption) dX5_copyFrom_53 ?_
  rw [cpF_s (by decide)]
  refine P_aloadn (i := 0) rfl rfl dX5_copyFrom_56 ?_
  refine P_aloadn (i := 1) rfl rfl dX5_copyFrom_57 ?_
  refine gX5_32 rfl (by assumption) cpF_b dX5_copyFrom_58 ?_
  refine uX5_32 rfl (by assumption) dX5_copyFrom_61 ?_
  rw [cpF_s (by decide)]
  refine P_aloadn (i := 0) rfl rfl dX5_copyFrom_64 ?_
  refine P_aloadn (i := 1) rfl rfl dX5_copyFrom_65 ?_
  refine gX5_35 rfl (by assumption) cpF_b dX5_copyFrom_66 ?_
  refine uX5_35 rfl hz168 (by assumption) dX5_copyFrom_69 ?_
  rw [cpF_s (by decide)]
  refine P_return rfl dX5_copyFrom_72 ?_
  exact ⟨rfl, rfl⟩
theorem s_N_copy {ra rb : Nat} (hk : L.2.1 a = 2) (hk2 : L.2.1 b = 2) (hra : L.2.2.2 67 a = some ra) (hrb : L.2.2.2 67 b = some rb) (hka : L.2.1 ra = 20) (hkb : L.2.1 rb = 20) (hla : L.2.2.1 ra = 8) (hlb : L.2.2.1 rb = 8) : Sp g 0 iX2_copyFrom [vr a, vr b] (L, FI, AI, AL, AR) (0, 0) (QV (L, cpF FI 64 67 a b, (fun c i => if c = ra ∧ i < 8 then AI rb i else AI c i), AL, AR)) := by
  refine Sp.of (ls := [some (vr a), some (vr b)]) (by decide +kernel) rfl rfl ?_
  rw [show FI = cpF FI 64 64 a b from (cpF_0 FI 64 a b).symm]
  rw [show cpF (cpF FI 64 64 a b) 64 67 a b = cpF FI 64 67 a b from by rw [cpF_0]]
  refine P_aloadn (i := 0) rfl rfl dX2_copyFrom_0 ?_
  refine P_aloadn (i := 1) rfl rfl dX2_copyFrom_1 ?_
  refine gX2_22 rfl (by assumption) cpF_b dX2_copyFrom_2 ?_
  refine uX2_22 rfl (by assumption) dX2_copyFrom_5 ?_
  rw [cpF_s (by decide)]
  refine P_aloadn (i := 0) rfl rfl dX2_copyFrom_8 ?_
  refine P_aloadn (i := 1) rfl rfl dX2_copyFrom_9 ?_
  refine gX2_9 rfl (by assumption) cpF_b dX2_copyFrom_10 ?_
  refine uX2_9 rfl (by assumption) dX2_copyFrom_13 ?_
  rw [cpF_s (by decide)]
  refine P_aloadn (i := 0) rfl rfl dX2_copyFrom_16 ?_
  refine P_aloadn (i := 1) rfl rfl dX2_copyFrom_17 ?_
  refine gX2_15 rfl (by assumption) cpF_b dX2_copyFrom_18 ?_
  refine uX2_15 rfl (by assumption) dX2_copyFrom_21 ?_
  rw [cpF_s (by decide)]
  refine P_aloadn (i := 1) rfl rfl dX2_copyFrom_24 ?_
  refine gX2_18 rfl (by assumption) hrb dX2_copyFrom_25 ?_
  refine P_iconst (v := 0) rfl dX2_copyFrom_28 ?_
  refine P_aloadn (i := 0) rfl rfl dX2_copyFrom_29 ?_
  refine gX2_18 rfl (by assumption) hra dX2_copyFrom_30 ?_
  refine P_iconst (v := 0) rfl dX2_copyFrom_33 ?_
  refine P_bipush (v := 8) rfl dX2_copyFrom_34 ?_
  refine cIX2_25 (N := 8) rfl hkb hka rfl (by decide) (by rw [hlb]; omega) (by rw [hla]; omega) dX2_copyFrom_36 rfl ?_
  refine P_return rfl dX2_copyFrom_39 ?_
  exact ⟨rfl, rfl⟩
theorem s_P_copy {ra rb : Nat} (hk : L.2.1 a = 4) (hk2 : L.2.1 b = 4) (hz134 : FI 134 b = 0 ∨ FI 134 b = 1) (hra : L.2.2.2 143 a = some ra) (hrb : L.2.2.2 143 b = some rb) (hka : L.2.1 ra = 21) (hkb : L.2.1 rb = 21) (hla : L.2.2.1 ra = 572) (hlb : L.2.2.1 rb = 572) : Sp g 0 iX4_copyFrom [vr a, vr b] (L, FI, AI, AL, AR) (0, 0) (QV (L, cpF FI 128 143 a b, AI, (if 0 < FI 139 b then (fun c i => if c = ra ∧ i < 572 then AL rb i else AL c i) else AL), AR)) := by
  refine Sp.of (ls := [some (vr a), some (vr b)]) (by decide +kernel) rfl rfl ?_
  rw [show FI = cpF FI 128 128 a b from (cpF_0 FI 128 a b).symm]
  rw [show cpF (cpF FI 128 128 a b) 128 143 a b = cpF FI 128 143 a b from by rw [cpF_0]]
  rw [show cpF FI 128 128 a b 139 b = FI 139 b from cpF_b]
  refine P_aloadn (i := 0) rfl rfl dX4_copyFrom_0 ?_
  refine P_aloadn (i := 1) rfl rfl dX4_copyFrom_1 ?_
  refine gX4_22 rfl (by assumption) cpF_b dX4_copyFrom_2 ?_
  refine uX4_22 rfl (by assumption) dX4_copyFrom_5 ?_
  rw [cpF_s (by decide)]
  refine P_aloadn (i := 0) rfl rfl dX4_copyFrom_8 ?_
  refine P_aloadn (i := 1) rfl rfl dX4_copyFrom_9 ?_
  refine gX4_25 rfl (by assumption) cpF_b dX4_copyFrom_10 ?_
  refine uX4_25 rfl (by assumption) dX4_copyFrom_13 ?_
  rw [cpF_s (by decide)]
  refine P_aloadn (i := 0) rfl rfl dX4_copyFrom_16 ?_
  refine P_aloadn (i := 1) rfl rfl dX4_copyFrom_17 ?_
  refine gX4_28 rfl (by assumption) cpF_b dX4_copyFrom_18 ?_
  refine uX4_28 rfl (by assumption) dX4_copyFrom_21 ?_
  rw [cpF_s (by decide)]
  refine P_aloadn (i := 0) rfl rfl dX4_copyFrom_24 ?_
  refine P_aloadn (i := 1) rfl rfl dX4_copyFrom_25 ?_
  refine gX4_31 rfl (by assumption) cpF_b dX4_copyFrom_26 ?_
  refine uX4_31 rfl (by assumption) dX4_copyFrom_29 ?_
  rw [cpF_s (by decide)]
  refine P_aloadn (i := 0) rfl rfl dX4_copyFrom_32 ?_
  refine P_aloadn (i := 1) rfl rfl dX4_copyFrom_33 ?_
  refine gX4_34 rfl (by assumption) cpF_b dX4_copyFrom_34 ?_
  refine uX4_34 rfl (by assumption) dX4_copyFrom_37 ?_
  rw [cpF_s (by decide)]
  refine P_aloadn (i := 0) rfl rfl dX4_copyFrom_40 ?_
  refine P_aloadn (i := 1) rfl rfl dX4_copyFrom_41 ?_
  refine gX4_46 rfl (by assumption) cpF_b dX4_copyFrom_42 ?_
  refine uX4_46 rfl (by assumption) dX4_copyFrom_45 ?_
  rw [cpF_s (by decide)]
  refine P_aloadn (i := 0) rfl rfl dX4_copyFrom_48 ?_
  refine P_aloadn (i := 1) rfl rfl dX4_copyFrom_49 ?_
  refine gX4_37 rfl (by assumption) cpF_b dX4_copyFrom_50 ?_
  refine uX4_37 rfl hz134 (by assumption) dX4_copyFrom_53 ?_
  rw [cpF_s (by decide)]
  refine P_aloadn (i := 0) rfl rfl dX4_copyFrom_56 ?_
  refine P_aloadn (i := 1) rfl rfl dX4_copyFrom_57 ?_
  refine gX4_49 rfl (by assumption) cpF_b dX4_copyFrom_58 ?_
  refine uX4_49 rfl (by assumption) dX4_copyFrom_61 ?_
  rw [cpF_s (by decide)]
  refine P_aloadn (i := 0) rfl rfl dX4_copyFrom_64 ?_
  refine P_aloadn (i := 1) rfl rfl dX4_copyFrom_65 ?_
  refine gX4_52 rfl (by assumption) cpF_b dX4_copyFrom_66 ?_
  refine uX4_52 rfl (by assumption) dX4_copyFrom_69 ?_
  rw [cpF_s (by decide)]
  refine P_aloadn (i := 0) rfl rfl dX4_copyFrom_72 ?_
  refine P_aloadn (i := 1) rfl rfl dX4_copyFrom_73 ?_
  refine gX4_55 rfl (by assumption) cpF_b dX4_copyFrom_74 ?_
  refine uX4_55 rfl (by assumption) dX4_copyFrom_77 ?_
  rw [cpF_s (by decide)]
  refine P_aloadn (i := 0) rfl rfl dX4_copyFrom_80 ?_
  refine P_aloadn (i := 1) rfl rfl dX4_copyFrom_81 ?_
  refine gX4_9 rfl (by assumption) cpF_b dX4_copyFrom_82 ?_
  refine uX4_9 rfl (by assumption) dX4_copyFrom_85 ?_
  rw [cpF_s (by decide)]
  refine P_aloadn (i := 0) rfl rfl dX4_copyFrom_88 ?_
  refine P_aloadn (i := 1) rfl rfl dX4_copyFrom_89 ?_
  refine gX4_58 rfl (by assumption) cpF_b dX4_copyFrom_90 ?_
  refine uX4_58 rfl (by assumption) dX4_copyFrom_93 ?_
  rw [cpF_s (by decide)]
  refine P_aloadn (i := 0) rfl rfl dX4_copyFrom_96 ?_
  refine P_aloadn (i := 1) rfl rfl dX4_copyFrom_97 ?_
  refine gX4_61 rfl (by assumption) cpF_b dX4_copyFrom_98 ?_
  refine uX4_61 rfl (by assumption) dX4_copyFrom_101 ?_
  rw [cpF_s (by decide)]
  refine P_aloadn (i := 0) rfl rfl dX4_copyFrom_104 ?_
  refine P_aloadn (i := 1) rfl rfl dX4_copyFrom_105 ?_
  refine gX4_64 rfl (by assumption) cpF_b dX4_copyFrom_106 ?_
  refine uX4_64 rfl (by assumption) dX4_copyFrom_109 ?_
  rw [cpF_s (by decide)]
  refine P_aloadn (i := 0) rfl rfl dX4_copyFrom_112 ?_
  refine P_aloadn (i := 1) rfl rfl dX4_copyFrom_113 ?_
  refine gX4_15 rfl (by assumption) cpF_b dX4_copyFrom_114 ?_
  refine uX4_15 rfl (by assumption) dX4_copyFrom_117 ?_
  rw [cpF_s (by decide)]
  refine P_aloadn (i := 0) rfl rfl dX4_copyFrom_120 ?_
  refine gX4_58 rfl (by assumption) (cpF_a (by decide)) dX4_copyFrom_121 ?_
  refine P_ifle dX4_copyFrom_124 (tgt := 145) rfl (fun h124 => ?_) (fun h124 => ?_)
  · refine P_return rfl dX4_copyFrom_145 ?_
    exact ⟨rfl, by rw [if_neg (Int32.not_lt.mpr h124)]⟩
  · refine P_aloadn (i := 1) rfl rfl dX4_copyFrom_127 ?_
    refine gX4_18 rfl (by assumption) hrb dX4_copyFrom_128 ?_
    refine P_iconst (v := 0) rfl dX4_copyFrom_131 ?_
    refine P_aloadn (i := 0) rfl rfl dX4_copyFrom_132 ?_
    refine gX4_18 rfl (by assumption) hra dX4_copyFrom_133 ?_
    refine P_iconst (v := 0) rfl dX4_copyFrom_136 ?_
    refine P_aloadn (i := 0) rfl rfl dX4_copyFrom_137 ?_
    refine gX4_18 rfl (by assumption) hra dX4_copyFrom_138 ?_
    refine P_lenN (t := 21) (by decide) hka (by rw [hla]) dX4_copyFrom_141 ?_
    refine cLX4_67 (N := 572) rfl hkb hka rfl (by decide) (by rw [hlb]; omega) (by rw [hla]; omega) dX4_copyFrom_142 rfl ?_
    refine P_return rfl dX4_copyFrom_145 ?_
    exact ⟨rfl, by rw [if_pos (Int32.not_le.mp h124)]⟩
end Cls2
