/-- what a parcel tells (its slices aside) -/
def c_parcelTell (r t : Nat → Int32) (v : Int32) : Int32 :=
  if (0 : Int32) ≤ v ∧ v ≤ 6 then r (nn v)
  else if v = 8 then r 12 else if v = 9 then r 8 else if v = 10 then Int32.ofNat (x_fm t 4000 0) else if v = 11 then r 10 else if v = 12 then x_sum (r 3) (r 2) else if v = 13 then r 11 else -2
theorem qP.z {r t : Nat → Int32} {tick : Int32} (h : qP r t tick) (h12 : r 12 = 0) : r 8 = -6 ∧ x_fm t 4000 0 = 0 ∧ ∀ i, i < 4000 → ¬ 0 ≤ t i := by
  have hc := x_cnt_le t 4000
  have h1 : x_cnt t 4000 = 0 := by
    have h2 := h.2.2.1
    rw [h12] at h2
    have h3 := congrArg Int32.toInt h2
    rw [n_int (by omega)] at h3
    simp only [Int32.reduceToInt] at h3
    omega
  have h4 : ∀ i, i < 4000 → ¬ 0 ≤ t i := fun i hi hh => by have := x_cnt_pos hh 4000 hi; omega
  exact ⟨(h.2.2.2.1 h1).2, if_neg (h4 0 (by decide)), h4⟩
theorem qP.nz {r t : Nat → Int32} {tick : Int32} (h : qP r t tick) (h12 : ¬ r 12 = 0) : r 5 = 0 := by
  refine (h.2.2.2.2.1 (fun hh => h12 ?_)).2.2
  rw [h.2.2.1, hh]
  rfl
theorem x_fg_none {t : Nat → Int32} : ∀ n i, (∀ j, i ≤ j → j < i + n → t j < 0) → x_fg t n i = i + n := by
  intro n
  induction n with
  | zero => intro i _; rfl
  | succ n ih =>
    intro i h
    rw [show x_fg t (n + 1) i = x_fg t n (i + 1) from if_pos (h i (Nat.le_refl _) (by omega)), ih (i + 1) (fun j h1 h2 => h j (by omega) (by omega))]
    omega
theorem n_eqz {a : Nat} (h : a < 2147483648) : Int32.ofNat a = 0 ↔ a = 0 := by
  constructor
  · intro h1
    have h2 := congrArg Int32.toInt h1
    rw [n_int h] at h2
    simp only [Int32.reduceToInt] at h2
    omega
  · intro h1
    rw [h1]
    rfl
section Cls21
variable {g : PG} {L : PL} {FI AI : Nat → Nat → Int32} {AL : Nat → Nat → Int64} {AR : Nat → Nat → Option Nat} {q : Nat} {r t : Nat → Int32} {v : Int32}
theorem c_P_tell (hl : LQ L q) {tick : Int32} (hr : RP FI AL q r t) (hq : qP r t tick) : Sp g 3 iX4_tell [vr q, vi v] (L, FI, AI, AL, AR) (0, 0) (QI (L, FI, AI, AL, AR) (c_parcelTell r t v)) := by
  refine Sp.of (ls := [some (vr q), some (vi v)]) (by decide +kernel) rfl rfl ?_
  refine P_iloadn (i := 1) rfl rfl dX4_tell_0 ?_
  by_cases e0 : v = 0
  · refine P_tabIn (off := 71) (tgt := 72) dX4_tell_1 (by rw [e0]; decide) (by rw [e0]; decide) (by rw [e0]; rfl) rfl ?_
    refine P_aloadn (i := 0) rfl rfl dX4_tell_72 ?_
    refine gX4_22 rfl (by exact hl.1) hr.1.1 dX4_tell_73 ?_
    refine P_ireturn rfl dX4_tell_76 ?_
    rw [e0]
    exact ⟨rfl, rfl⟩
  by_cases e1 : v = 1
  · refine P_tabIn (off := 76) (tgt := 77) dX4_tell_1 (by rw [e1]; decide) (by rw [e1]; decide) (by rw [e1]; rfl) rfl ?_
    refine P_aloadn (i := 0) rfl rfl dX4_tell_77 ?_
    refine gX4_25 rfl (by exact hl.1) hr.1.2.1 dX4_tell_78 ?_
    refine P_ireturn rfl dX4_tell_81 ?_
    rw [e1]
    exact ⟨rfl, rfl⟩
  by_cases e2 : v = 2
  · refine P_tabIn (off := 81) (tgt := 82) dX4_tell_1 (by rw [e2]; decide) (by rw [e2]; decide) (by rw [e2]; rfl) rfl ?_
    refine P_aloadn (i := 0) rfl rfl dX4_tell_82 ?_
    refine gX4_28 rfl (by exact hl.1) hr.1.2.2.1 dX4_tell_83 ?_
    refine P_ireturn rfl dX4_tell_86 ?_
    rw [e2]
    exact ⟨rfl, rfl⟩
  by_cases e3 : v = 3
  · refine P_tabIn (off := 86) (tgt := 87) dX4_tell_1 (by rw [e3]; decide) (by rw [e3]; decide) (by rw [e3]; rfl) rfl ?_
    refine P_aloadn (i := 0) rfl rfl dX4_tell_87 ?_
    refine gX4_31 rfl (by exact hl.1) hr.1.2.2.2.1 dX4_tell_88 ?_
    refine P_ireturn rfl dX4_tell_91 ?_
    rw [e3]
    exact ⟨rfl, rfl⟩
  by_cases e4 : v = 4
  · refine P_tabIn (off := 91) (tgt := 92) dX4_tell_1 (by rw [e4]; decide) (by rw [e4]; decide) (by rw [e4]; rfl) rfl ?_
    refine P_aloadn (i := 0) rfl rfl dX4_tell_92 ?_
    refine gX4_37 rfl (by exact hl.1) hr.1.2.2.2.2.2.2.1 dX4_tell_93 ?_
    refine P_ifeq dX4_tell_96 (tgt := 103) rfl (fun h96 => ?_) (fun h96 => ?_)
    · refine P_iconst (v := 0) rfl dX4_tell_103 ?_
      refine P_ireturn rfl dX4_tell_104 ?_
      rw [e4, show c_parcelTell r t 4 = 0 from h96]
      exact ⟨rfl, rfl⟩
    · refine P_iconst (v := 1) rfl dX4_tell_99 ?_
      refine P_goto dX4_tell_100 (tgt := 104) rfl ?_
      refine P_ireturn rfl dX4_tell_104 ?_
      rw [e4, show c_parcelTell r t 4 = 1 from hq.1.2.2.2.2.1.resolve_left h96]
      exact ⟨rfl, rfl⟩
  by_cases e5 : v = 5
  · refine P_tabIn (off := 104) (tgt := 105) dX4_tell_1 (by rw [e5]; decide) (by rw [e5]; decide) (by rw [e5]; rfl) rfl ?_
    refine P_aloadn (i := 0) rfl rfl dX4_tell_105 ?_
    refine gX4_49 rfl (by exact hl.1) hr.1.2.2.2.2.2.2.2.1 dX4_tell_106 ?_
    refine P_ireturn rfl dX4_tell_109 ?_
    rw [e5]
    exact ⟨rfl, rfl⟩
  by_cases e6 : v = 6
  · refine P_tabIn (off := 109) (tgt := 110) dX4_tell_1 (by rw [e6]; decide) (by rw [e6]; decide) (by rw [e6]; rfl) rfl ?_
    refine P_aloadn (i := 0) rfl rfl dX4_tell_110 ?_
    refine gX4_52 rfl (by exact hl.1) hr.1.2.2.2.2.2.2.2.2.1 dX4_tell_111 ?_
    refine P_ireturn rfl dX4_tell_114 ?_
    rw [e6]
    exact ⟨rfl, rfl⟩
  by_cases e7 : v = 7
  · refine P_tabIn (off := 167) (tgt := 168) dX4_tell_1 (by rw [e7]; decide) (by rw [e7]; decide) (by rw [e7]; rfl) rfl ?_
    refine P_bipush (v := (-2)) rfl dX4_tell_168 ?_
    refine P_ireturn rfl dX4_tell_170 ?_
    rw [e7]
    exact ⟨rfl, rfl⟩
  by_cases e8 : v = 8
  · refine P_tabIn (off := 114) (tgt := 115) dX4_tell_1 (by rw [e8]; decide) (by rw [e8]; decide) (by rw [e8]; rfl) rfl ?_
    refine P_aloadn (i := 0) rfl rfl dX4_tell_115 ?_
    refine gX4_58 rfl (by exact hl.1) hr.1.2.2.2.2.2.2.2.2.2.2.2 dX4_tell_116 ?_
    refine P_ireturn rfl dX4_tell_119 ?_
    rw [e8]
    exact ⟨rfl, rfl⟩
  by_cases e9 : v = 9
  · refine P_tabIn (off := 119) (tgt := 120) dX4_tell_1 (by rw [e9]; decide) (by rw [e9]; decide) (by rw [e9]; rfl) rfl ?_
    refine P_aloadn (i := 0) rfl rfl dX4_tell_120 ?_
    refine gX4_58 rfl (by exact hl.1) hr.1.2.2.2.2.2.2.2.2.2.2.2 dX4_tell_121 ?_
    refine P_ifne dX4_tell_124 (tgt := 132) rfl (fun h124 => ?_) (fun h124 => ?_)
    · refine P_aloadn (i := 0) rfl rfl dX4_tell_132 ?_
      refine gX4_15 rfl (by exact hl.1) (hr.2.2.1 (hq.nz h124)).1 dX4_tell_133 ?_
      refine P_ireturn rfl dX4_tell_136 ?_
      rw [e9]
      exact ⟨rfl, rfl⟩
    · refine P_bipush (v := (-6)) rfl dX4_tell_127 ?_
      refine P_goto dX4_tell_129 (tgt := 136) rfl ?_
      refine P_ireturn rfl dX4_tell_136 ?_
      rw [e9, show c_parcelTell r t 9 = -6 from (hq.z h124).1]
      exact ⟨rfl, rfl⟩
  by_cases e10 : v = 10
  · refine P_tabIn (off := 136) (tgt := 137) dX4_tell_1 (by rw [e10]; decide) (by rw [e10]; decide) (by rw [e10]; rfl) rfl ?_
    refine P_aloadn (i := 0) rfl rfl dX4_tell_137 ?_
    refine gX4_58 rfl (by exact hl.1) hr.1.2.2.2.2.2.2.2.2.2.2.2 dX4_tell_138 ?_
    refine P_ifne dX4_tell_141 (tgt := 148) rfl (fun h141 => ?_) (fun h141 => ?_)
    · refine P_aloadn (i := 0) rfl rfl dX4_tell_148 ?_
      refine kX4_106 rfl (s_firstMissing7 hl hr hq) (by decide) hl.1 rfl dX4_tell_149 (fun r149 s149 q149 => ?_)
      obtain ⟨rfl, rfl⟩ := q149
      refine P_ireturn rfl dX4_tell_152 ?_
      rw [e10]
      exact ⟨rfl, rfl⟩
    · refine P_iconst (v := 0) rfl dX4_tell_144 ?_
      refine P_goto dX4_tell_145 (tgt := 152) rfl ?_
      refine P_ireturn rfl dX4_tell_152 ?_
      rw [e10, show c_parcelTell r t 10 = 0 from (congrArg Int32.ofNat (hq.z h141).2.1)]
      exact ⟨rfl, rfl⟩
  by_cases e11 : v = 11
  · refine P_tabIn (off := 152) (tgt := 153) dX4_tell_1 (by rw [e11]; decide) (by rw [e11]; decide) (by rw [e11]; rfl) rfl ?_
    refine P_aloadn (i := 0) rfl rfl dX4_tell_153 ?_
    refine gX4_9 rfl (by exact hl.1) hr.1.2.2.2.2.2.2.2.2.2.2.1 dX4_tell_154 ?_
    refine P_ireturn rfl dX4_tell_157 ?_
    rw [e11]
    exact ⟨rfl, rfl⟩
  by_cases e12 : v = 12
  · refine P_tabIn (off := 157) (tgt := 158) dX4_tell_1 (by rw [e12]; decide) (by rw [e12]; decide) (by rw [e12]; rfl) rfl ?_
    refine P_aloadn (i := 0) rfl rfl dX4_tell_158 ?_
    refine gX4_46 rfl (by exact hl.1) hr.1.2.2.2.2.2.1 dX4_tell_159 ?_
    refine P_ireturn rfl dX4_tell_162 ?_
    rw [e12]
    exact ⟨rfl, rfl⟩
  by_cases e13 : v = 13
  · refine P_tabIn (off := 162) (tgt := 163) dX4_tell_1 (by rw [e13]; decide) (by rw [e13]; decide) (by rw [e13]; rfl) rfl ?_
    refine P_aloadn (i := 0) rfl rfl dX4_tell_163 ?_
    refine gX4_55 rfl (by exact hl.1) hr.1.2.2.2.2.2.2.2.2.2.1 dX4_tell_164 ?_
    refine P_ireturn rfl dX4_tell_167 ?_
    rw [e13]
    exact ⟨rfl, rfl⟩
  refine P_tabOut (tgt := 168) dX4_tell_1 (by
    have hne : ∀ k : Nat, k < 2147483648 → ¬ v = Int32.ofNat k → ¬ v.toInt = (k : Int) := fun k hk h1 h2 => h1 (i_eq.mpr (by rw [n_int hk]; exact h2))
    have f0 := hne 0 (by decide) e0
    have f1 := hne 1 (by decide) e1
    have f2 := hne 2 (by decide) e2
    have f3 := hne 3 (by decide) e3
    have f4 := hne 4 (by decide) e4
    have f5 := hne 5 (by decide) e5
    have f6 := hne 6 (by decide) e6
    have f7 := hne 7 (by decide) e7
    have f8 := hne 8 (by decide) e8
    have f9 := hne 9 (by decide) e9
    have f10 := hne 10 (by decide) e10
    have f11 := hne 11 (by decide) e11
    have f12 := hne 12 (by decide) e12
    have f13 := hne 13 (by decide) e13
    omega) rfl ?_
  refine P_bipush (v := (-2)) rfl dX4_tell_168 ?_
  refine P_ireturn rfl dX4_tell_170 ?_
  rw [show c_parcelTell r t v = -2 from (if_neg (fun hh => by obtain ⟨g1, g2, g3⟩ := in_nn (a := 0) (b := 6) (by decide) (by decide) hh; rcases (show nn v = 0 ∨ nn v = 1 ∨ nn v = 2 ∨ nn v = 3 ∨ nn v = 4 ∨ nn v = 5 ∨ nn v = 6 by omega) with e | e | e | e | e | e | e <;> rw [e] at g3 <;> first | exact e0 g3 | exact e1 g3 | exact e2 g3 | exact e3 g3 | exact e4 g3 | exact e5 g3 | exact e6 g3)).trans ((if_neg e8).trans ((if_neg e9).trans ((if_neg e10).trans ((if_neg e11).trans ((if_neg e12).trans (if_neg e13))))))]
  exact ⟨rfl, rfl⟩
theorem c_gapLength (hl : LQ L q) {tick : Int32} (hr : RP FI AL q r t) (hq : qP r t tick) (h12 : ¬ r 12 = 0) : Sp g 3 iX4_lengthOfGap [vr q] (L, FI, AI, AL, AR) (0, 0) (QI (L, FI, AI, AL, AR) (if (x_fg t (4000 - (x_fm t 4000 0)) (x_fm t 4000 0)) < 4000 then Int32.ofNat (x_fg t (4000 - (x_fm t 4000 0)) (x_fm t 4000 0)) - Int32.ofNat (x_fm t 4000 0) else if 0 ≤ r 8 then r 8 - Int32.ofNat (x_fm t 4000 0) else -6)) := by
  refine Sp.of (ls := [some (vr q), none, none]) (by decide +kernel) rfl rfl ?_
  have hst := hq.nz h12
  have hfr := (hr.2.2.1 hst).2
  have hfe := hfr.1
  have hfl : (nn (FI 141 q)) ≤ 4000 := by have := hfe.nn; omega
  have hbl := x_fm_le t 4000 0
  have hel := x_fg_le t (4000 - (x_fm t 4000 0)) (x_fm t 4000 0)
  have J29 : ∀ i : Nat, i ≤ 4000 → (Int32.ofNat i < Int32.ofNat (nn (FI 141 q)) → (x_fg t (4000 - (x_fm t 4000 0)) (x_fm t 4000 0)) = i) → (Int32.ofNat (nn (FI 141 q)) ≤ Int32.ofNat i → (x_fg t (4000 - (x_fm t 4000 0)) (x_fm t 4000 0)) = 4000) → P g 3 iX4_lengthOfGap 29 [some (vr q), some (vi (Int32.ofNat (x_fm t 4000 0))), some (vi (Int32.ofNat i))] [] (L, FI, AI, AL, AR) (0, 0) (QI (L, FI, AI, AL, AR) (if (x_fg t (4000 - (x_fm t 4000 0)) (x_fm t 4000 0)) < 4000 then Int32.ofNat (x_fg t (4000 - (x_fm t 4000 0)) (x_fm t 4000 0)) - Int32.ofNat (x_fm t 4000 0) else if 0 ≤ r 8 then r 8 - Int32.ofNat (x_fm t 4000 0) else -6)) := by
    intro i hi4 hxe0 hxn
    have hxe : Int32.ofNat i < Int32.ofNat (nn (FI 141 q)) → i = (x_fg t (4000 - (x_fm t 4000 0)) (x_fm t 4000 0)) := fun hh => (hxe0 hh).symm
    refine P_iloadn (i := 2) rfl rfl dX4_lengthOfGap_29 ?_
    refine P_aloadn (i := 0) rfl rfl dX4_lengthOfGap_30 ?_
    refine gX4_64 rfl (by exact hl.1) hfe.eq dX4_lengthOfGap_31 ?_
    refine P_icmpge dX4_lengthOfGap_34 (tgt := 41) rfl (fun h34 => ?_) (fun h34 => ?_)
    · refine P_aloadn (i := 0) rfl rfl dX4_lengthOfGap_41 ?_
      refine gX4_15 rfl (by exact hl.1) (hr.2.2.1 hst).1 dX4_lengthOfGap_42 ?_
      refine P_bipush (v := (-6)) rfl dX4_lengthOfGap_45 ?_
      refine P_icmpne dX4_lengthOfGap_47 (tgt := 55) rfl (fun h47 => ?_) (fun h47 => ?_)
      · refine P_aloadn (i := 0) rfl rfl dX4_lengthOfGap_55 ?_
        refine gX4_15 rfl (by exact hl.1) (hr.2.2.1 hst).1 dX4_lengthOfGap_56 ?_
        refine P_iloadn (i := 1) rfl rfl dX4_lengthOfGap_59 ?_
        refine P_isub dX4_lengthOfGap_60 ?_
        refine P_ireturn rfl dX4_lengthOfGap_61 ?_
        rw [if_neg (by rw [hxn h34]; omega), if_pos (by rcases hq.2.2.2.2.2.1 with g | g; exact absurd g h47; rw [Int32.le_iff_toInt_le]; simp only [Int32.reduceToInt]; omega)]
        exact ⟨rfl, rfl⟩
      · refine P_bipush (v := (-6)) rfl dX4_lengthOfGap_50 ?_
        refine P_goto dX4_lengthOfGap_52 (tgt := 61) rfl ?_
        refine P_ireturn rfl dX4_lengthOfGap_61 ?_
        rw [if_neg (by rw [hxn h34]; omega), if_neg (by rw [h47]; decide)]
        exact ⟨rfl, rfl⟩
    · refine P_iloadn (i := 2) rfl rfl dX4_lengthOfGap_37 ?_
      refine P_iloadn (i := 1) rfl rfl dX4_lengthOfGap_38 ?_
      refine P_isub dX4_lengthOfGap_39 ?_
      refine P_ireturn rfl dX4_lengthOfGap_40 ?_
      rw [← hxe (Int32.not_le.mp h34), if_pos (by have h8 := (n_lt (a := i) (b := (nn (FI 141 q))) (by omega) (by omega)).mp (Int32.not_le.mp h34); omega)]
      exact ⟨rfl, rfl⟩
  have loop : ∀ n i : Nat, i + n = 4000 → (x_fg t (4000 - (x_fm t 4000 0)) (x_fm t 4000 0)) = x_fg t n i → P g 3 iX4_lengthOfGap 7 [some (vr q), some (vi (Int32.ofNat (x_fm t 4000 0))), some (vi (Int32.ofNat i))] [] (L, FI, AI, AL, AR) (0, 0) (QI (L, FI, AI, AL, AR) (if (x_fg t (4000 - (x_fm t 4000 0)) (x_fm t 4000 0)) < 4000 then Int32.ofNat (x_fg t (4000 - (x_fm t 4000 0)) (x_fm t 4000 0)) - Int32.ofNat (x_fm t 4000 0) else if 0 ≤ r 8 then r 8 - Int32.ofNat (x_fm t 4000 0) else -6)) := by
    intro n
    induction n with
    | zero =>
      intro i hi hf
      refine P_iloadn (i := 2) rfl rfl dX4_lengthOfGap_7 ?_
      refine P_aloadn (i := 0) rfl rfl dX4_lengthOfGap_8 ?_
      refine gX4_64 rfl (by exact hl.1) hfe.eq dX4_lengthOfGap_9 ?_
      refine P_icmpge dX4_lengthOfGap_12 (tgt := 29) rfl (fun h12 => ?_) (fun h12 => absurd ((n_le (a := (nn (FI 141 q))) (b := i) (by omega) (by omega)).mpr (by omega)) h12)
      exact J29 i (by omega) (fun hh => absurd hh (Int32.not_lt.mpr h12)) (fun _ => by rw [hf, x_fg_none 0 i (fun j g1 g2 => Int32.not_le.mp (fun g3 => by have g4 := hfr.2.1 j (by omega) g3; have g5 := (n_le (a := (nn (FI 141 q))) (b := i) (by omega) (by omega)).mp h12; omega))]; omega)
    | succ n ih =>
      intro i hi hf
      refine P_iloadn (i := 2) rfl rfl dX4_lengthOfGap_7 ?_
      refine P_aloadn (i := 0) rfl rfl dX4_lengthOfGap_8 ?_
      refine gX4_64 rfl (by exact hl.1) hfe.eq dX4_lengthOfGap_9 ?_
      refine P_icmpge dX4_lengthOfGap_12 (tgt := 29) rfl (fun h12 => ?_) (fun h12 => ?_)
      · exact J29 i (by omega) (fun hh => absurd hh (Int32.not_lt.mpr h12)) (fun _ => by rw [hf, x_fg_none (n + 1) i (fun j g1 g2 => Int32.not_le.mp (fun g3 => by have g4 := hfr.2.1 j (by omega) g3; have g5 := (n_le (a := (nn (FI 141 q))) (b := i) (by omega) (by omega)).mp h12; omega))]; omega)
      · have hif := (n_lt (a := i) (b := (nn (FI 141 q))) (by omega) (by omega)).mp (Int32.not_le.mp h12)
        refine P_aloadn (i := 0) rfl rfl dX4_lengthOfGap_15 ?_
        refine P_iloadn (i := 2) rfl rfl dX4_lengthOfGap_16 ?_
        refine kX4_92 rfl (s_hasByte hl hr hq (i := i) (by omega)) (by decide) hl.1 rfl dX4_lengthOfGap_17 (fun r17 s17 q17 => ?_)
        obtain ⟨rfl, rfl⟩ := q17
        refine P_ifne dX4_lengthOfGap_20 (tgt := 29) rfl (fun h20 => ?_) (fun h20 => ?_)
        · exact J29 i (by omega) (fun _ => by rw [hf]; exact if_neg (Int32.not_lt.mpr (b_t h20))) (fun hh => by have g5 := (n_le (a := (nn (FI 141 q))) (b := i) (by omega) (by omega)).mp hh; omega)
        · refine P_inN2 dX4_lengthOfGap_23 rfl rfl ?_
          refine P_goto dX4_lengthOfGap_26 (tgt := 7) rfl ?_
          refine ih (i + 1) (by omega) ?_
          rw [hf]
          exact if_pos (Int32.not_le.mp (b_f h20))
  refine P_aloadn (i := 0) rfl rfl dX4_lengthOfGap_0 ?_
  refine kX4_106 rfl (s_firstMissing7 hl hr hq) (by decide) hl.1 rfl dX4_lengthOfGap_1 (fun r1 s1 q1 => ?_)
  obtain ⟨rfl, rfl⟩ := q1
  refine P_is1 (Or.inl dX4_lengthOfGap_4) rfl rfl ?_
  refine P_iloadn (i := 1) rfl rfl dX4_lengthOfGap_5 ?_
  refine P_is2 (Or.inl dX4_lengthOfGap_6) rfl rfl ?_
  exact loop (4000 - (x_fm t 4000 0)) (x_fm t 4000 0) (by omega) rfl
end Cls21
section Cls21b
variable {g : PG} {L : PL} {FI AI : Nat → Nat → Int32} {AL : Nat → Nat → Int64} {AR : Nat → Nat → Option Nat} {w : Nat} {X : XW} {C : List XC} {U : Nat} {sa : Nat → Nat} {M : Nat} {v : Int32}
/-- what a World tells -/
def c_worldTell (X : XW) (v : Int32) : Int32 :=
  if (0 : Int32) ≤ v ∧ v ≤ 6 then a_head X v
  else if (11 : Int32) ≤ v ∧ v ≤ 17 then xG X (6 + (nn v - 10))
  else if (20 : Int32) ≤ v ∧ v ≤ 25 then a_parcelsIn X (v - 20)
  else if v = 9 then x_next X (xS X).length
  else -2
theorem c_W_tell (h : CW L FI AI AL AR w X (c_of (xS X)) (xS X).length sa) (hI : XI M X) : Sp g 2 iX6_tell [vr w, vi v] (L, FI, AI, AL, AR) (0, 0) (QI (L, FI, AI, AL, AR) (c_worldTell X v)) := by
  refine Sp.of (ls := [some (vr w), some (vi v)]) (by decide +kernel) rfl rfl ?_
  refine P_iloadn (i := 1) rfl rfl dX6_tell_0 ?_
  by_cases e0 : v = 0
  · refine P_tabIn (off := 55) (tgt := 56) dX6_tell_1 (by rw [e0]; decide) (by rw [e0]; decide) (by rw [e0]; rfl) rfl ?_
    refine P_aloadn (i := 0) rfl rfl dX6_tell_56 ?_
    refine gX6_46 rfl (by first | assumption | exact h.wf.kw | exact h.wf.k1 | exact h.wf.k3 | exact h.wf.k4 | exact h.wf.k5) h.g.1 dX6_tell_57 ?_
    refine P_ireturn rfl dX6_tell_60 ?_
    rw [e0]
    exact ⟨rfl, rfl⟩
  by_cases e1 : v = 1
  · refine P_tabIn (off := 60) (tgt := 61) dX6_tell_1 (by rw [e1]; decide) (by rw [e1]; decide) (by rw [e1]; rfl) rfl ?_
    refine P_aloadn (i := 0) rfl rfl dX6_tell_61 ?_
    refine gX6_50 rfl (by first | assumption | exact h.wf.kw | exact h.wf.k1 | exact h.wf.k3 | exact h.wf.k4 | exact h.wf.k5) h.g.2.1 dX6_tell_62 ?_
    refine P_ireturn rfl dX6_tell_65 ?_
    rw [e1]
    exact ⟨rfl, rfl⟩
  by_cases e2 : v = 2
  · refine P_tabIn (off := 65) (tgt := 66) dX6_tell_1 (by rw [e2]; decide) (by rw [e2]; decide) (by rw [e2]; rfl) rfl ?_
    refine P_aloadn (i := 0) rfl rfl dX6_tell_66 ?_
    refine gX6_53 rfl (by first | assumption | exact h.wf.kw | exact h.wf.k1 | exact h.wf.k3 | exact h.wf.k4 | exact h.wf.k5) h.g.2.2.1 dX6_tell_67 ?_
    refine P_ireturn rfl dX6_tell_70 ?_
    rw [e2]
    exact ⟨rfl, rfl⟩
  by_cases e3 : v = 3
  · refine P_tabIn (off := 70) (tgt := 71) dX6_tell_1 (by rw [e3]; decide) (by rw [e3]; decide) (by rw [e3]; rfl) rfl ?_
    refine P_aloadn (i := 0) rfl rfl dX6_tell_71 ?_
    refine gX6_59 rfl (by first | assumption | exact h.wf.kw | exact h.wf.k1 | exact h.wf.k3 | exact h.wf.k4 | exact h.wf.k5) h.g.2.2.2.2.1 dX6_tell_72 ?_
    refine P_ireturn rfl dX6_tell_75 ?_
    rw [e3]
    exact ⟨rfl, rfl⟩
  by_cases e4 : v = 4
  · refine P_tabIn (off := 75) (tgt := 76) dX6_tell_1 (by rw [e4]; decide) (by rw [e4]; decide) (by rw [e4]; rfl) rfl ?_
    refine P_aloadn (i := 0) rfl rfl dX6_tell_76 ?_
    refine gX6_62 rfl (by first | assumption | exact h.wf.kw | exact h.wf.k1 | exact h.wf.k3 | exact h.wf.k4 | exact h.wf.k5) h.g.2.2.2.2.2.1 dX6_tell_77 ?_
    refine P_ireturn rfl dX6_tell_80 ?_
    rw [e4]
    exact ⟨rfl, rfl⟩
  by_cases e5 : v = 5
  · refine P_tabIn (off := 80) (tgt := 81) dX6_tell_1 (by rw [e5]; decide) (by rw [e5]; decide) (by rw [e5]; rfl) rfl ?_
    refine P_aloadn (i := 0) rfl rfl dX6_tell_81 ?_
    refine gX6_65 rfl (by first | assumption | exact h.wf.kw | exact h.wf.k1 | exact h.wf.k3 | exact h.wf.k4 | exact h.wf.k5) h.g.2.2.2.2.2.2.1 dX6_tell_82 ?_
    refine P_ireturn rfl dX6_tell_85 ?_
    rw [e5]
    exact ⟨rfl, rfl⟩
  by_cases e6 : v = 6
  · refine P_tabIn (off := 85) (tgt := 86) dX6_tell_1 (by rw [e6]; decide) (by rw [e6]; decide) (by rw [e6]; rfl) rfl ?_
    refine P_aloadn (i := 0) rfl rfl dX6_tell_86 ?_
    refine gX6_68 rfl (by first | assumption | exact h.wf.kw | exact h.wf.k1 | exact h.wf.k3 | exact h.wf.k4 | exact h.wf.k5) h.g.2.2.2.2.2.2.2 dX6_tell_87 ?_
    refine P_ireturn rfl dX6_tell_90 ?_
    rw [e6]
    exact ⟨rfl, rfl⟩
  by_cases e7 : v = 7
  · refine P_tabIn (off := 95) (tgt := 96) dX6_tell_1 (by rw [e7]; decide) (by rw [e7]; decide) (by rw [e7]; rfl) rfl ?_
    refine P_iloadn (i := 1) rfl rfl dX6_tell_96 ?_
    refine P_bipush (v := 11) rfl dX6_tell_97 ?_
    refine P_bipush (v := 17) rfl dX6_tell_99 ?_
    refine kX6_90 rfl s_X7_isWithin (by decide) rfl dX6_tell_101 (fun r101 s101 q101 => ?_)
    obtain ⟨rfl, rfl⟩ := q101
    refine P_ifeq dX6_tell_104 (tgt := 117) rfl (fun h104 => ?_) (fun h104 => ?_)
    · refine P_iloadn (i := 1) rfl rfl dX6_tell_117 ?_
      refine P_bipush (v := 20) rfl dX6_tell_118 ?_
      refine P_bipush (v := 25) rfl dX6_tell_120 ?_
      refine kX6_90 rfl s_X7_isWithin (by decide) rfl dX6_tell_122 (fun r122 s122 q122 => ?_)
      obtain ⟨rfl, rfl⟩ := q122
      refine P_ifeq dX6_tell_125 (tgt := 139) rfl (fun h125 => ?_) (fun h125 => ?_)
      · refine P_bipush (v := (-2)) rfl dX6_tell_139 ?_
        refine P_ireturn rfl dX6_tell_141 ?_
        rw [show c_worldTell X v = -2 from (if_neg (by rw [e7]; decide)).trans ((if_neg (b_f h104)).trans ((if_neg (b_f h125)).trans (if_neg (by rw [e7]; decide))))]
        exact ⟨rfl, rfl⟩
      · refine P_aloadn (i := 0) rfl rfl dX6_tell_128 ?_
        refine P_iloadn (i := 1) rfl rfl dX6_tell_129 ?_
        refine P_bipush (v := 20) rfl dX6_tell_130 ?_
        refine P_isub dX6_tell_132 ?_
        refine kX6_342 rfl (c_parcelsInState h) (by decide) h.wf.kw rfl dX6_tell_133 (fun r133 s133 q133 => ?_)
        obtain ⟨rfl, rfl⟩ := q133
        refine P_goto dX6_tell_136 (tgt := 141) rfl ?_
        refine P_ireturn rfl dX6_tell_141 ?_
        rw [show c_worldTell X v = a_parcelsIn X (v - 20) from (if_neg (by rw [e7]; decide)).trans ((if_neg (b_f h104)).trans (if_pos (b_t h125)))]
        exact ⟨rfl, rfl⟩
    · have hw := in_nn (a := 11) (b := 17) (by decide) (by decide) (b_t h104)
      have h10 : v - 10 = Int32.ofNat (nn v - 10) := n_10 ⟨by have := (b_t h104).1; rw [Int32.le_iff_toInt_le] at *; simp only [Int32.reduceToInt] at *; omega, (b_t h104).2⟩
      refine P_aloadn (i := 0) rfl rfl dX6_tell_107 ?_
      refine gX6_35 rfl (by first | assumption | exact h.wf.kw | exact h.wf.k1 | exact h.wf.k3 | exact h.wf.k4 | exact h.wf.k5) h.wf.r204 dX6_tell_108 ?_
      refine P_iloadn (i := 1) rfl rfl dX6_tell_111 ?_
      refine P_bipush (v := 10) rfl dX6_tell_112 ?_
      refine P_isub dX6_tell_114 ?_
      refine P_iaN (j := nn v - 10) (by first | assumption | exact h.wf.kw | exact h.wf.k1 | exact h.wf.k3 | exact h.wf.k4 | exact h.wf.k5) h10 (by omega) (by rw [h.wf.l5]; omega) (h.d _ (by omega) (by omega)) dX6_tell_115 ?_
      refine P_ireturn rfl dX6_tell_116 ?_
      rw [show c_worldTell X v = xG X (6 + (nn v - 10)) from (if_neg (by rw [e7]; decide)).trans (if_pos (b_t h104))]
      exact ⟨rfl, rfl⟩
  by_cases e8 : v = 8
  · refine P_tabIn (off := 95) (tgt := 96) dX6_tell_1 (by rw [e8]; decide) (by rw [e8]; decide) (by rw [e8]; rfl) rfl ?_
    refine P_iloadn (i := 1) rfl rfl dX6_tell_96 ?_
    refine P_bipush (v := 11) rfl dX6_tell_97 ?_
    refine P_bipush (v := 17) rfl dX6_tell_99 ?_
    refine kX6_90 rfl s_X7_isWithin (by decide) rfl dX6_tell_101 (fun r101 s101 q101 => ?_)
    obtain ⟨rfl, rfl⟩ := q101
    refine P_ifeq dX6_tell_104 (tgt := 117) rfl (fun h104 => ?_) (fun h104 => ?_)
    · refine P_iloadn (i := 1) rfl rfl dX6_tell_117 ?_
      refine P_bipush (v := 20) rfl dX6_tell_118 ?_
      refine P_bipush (v := 25) rfl dX6_tell_120 ?_
      refine kX6_90 rfl s_X7_isWithin (by decide) rfl dX6_tell_122 (fun r122 s122 q122 => ?_)
      obtain ⟨rfl, rfl⟩ := q122
      refine P_ifeq dX6_tell_125 (tgt := 139) rfl (fun h125 => ?_) (fun h125 => ?_)
      · refine P_bipush (v := (-2)) rfl dX6_tell_139 ?_
        refine P_ireturn rfl dX6_tell_141 ?_
        rw [show c_worldTell X v = -2 from (if_neg (by rw [e8]; decide)).trans ((if_neg (b_f h104)).trans ((if_neg (b_f h125)).trans (if_neg (by rw [e8]; decide))))]
        exact ⟨rfl, rfl⟩
      · refine P_aloadn (i := 0) rfl rfl dX6_tell_128 ?_
        refine P_iloadn (i := 1) rfl rfl dX6_tell_129 ?_
        refine P_bipush (v := 20) rfl dX6_tell_130 ?_
        refine P_isub dX6_tell_132 ?_
        refine kX6_342 rfl (c_parcelsInState h) (by decide) h.wf.kw rfl dX6_tell_133 (fun r133 s133 q133 => ?_)
        obtain ⟨rfl, rfl⟩ := q133
        refine P_goto dX6_tell_136 (tgt := 141) rfl ?_
        refine P_ireturn rfl dX6_tell_141 ?_
        rw [show c_worldTell X v = a_parcelsIn X (v - 20) from (if_neg (by rw [e8]; decide)).trans ((if_neg (b_f h104)).trans (if_pos (b_t h125)))]
        exact ⟨rfl, rfl⟩
    · have hw := in_nn (a := 11) (b := 17) (by decide) (by decide) (b_t h104)
      have h10 : v - 10 = Int32.ofNat (nn v - 10) := n_10 ⟨by have := (b_t h104).1; rw [Int32.le_iff_toInt_le] at *; simp only [Int32.reduceToInt] at *; omega, (b_t h104).2⟩
      refine P_aloadn (i := 0) rfl rfl dX6_tell_107 ?_
      refine gX6_35 rfl (by first | assumption | exact h.wf.kw | exact h.wf.k1 | exact h.wf.k3 | exact h.wf.k4 | exact h.wf.k5) h.wf.r204 dX6_tell_108 ?_
      refine P_iloadn (i := 1) rfl rfl dX6_tell_111 ?_
      refine P_bipush (v := 10) rfl dX6_tell_112 ?_
      refine P_isub dX6_tell_114 ?_
      refine P_iaN (j := nn v - 10) (by first | assumption | exact h.wf.kw | exact h.wf.k1 | exact h.wf.k3 | exact h.wf.k4 | exact h.wf.k5) h10 (by omega) (by rw [h.wf.l5]; omega) (h.d _ (by omega) (by omega)) dX6_tell_115 ?_
      refine P_ireturn rfl dX6_tell_116 ?_
      rw [show c_worldTell X v = xG X (6 + (nn v - 10)) from (if_neg (by rw [e8]; decide)).trans (if_pos (b_t h104))]
      exact ⟨rfl, rfl⟩
  by_cases e9 : v = 9
  · refine P_tabIn (off := 90) (tgt := 91) dX6_tell_1 (by rw [e9]; decide) (by rw [e9]; decide) (by rw [e9]; rfl) rfl ?_
    refine P_aloadn (i := 0) rfl rfl dX6_tell_91 ?_
    refine kX6_339 rfl (c_nextArrival h hI) (by decide) h.wf.kw rfl dX6_tell_92 (fun r92 s92 q92 => ?_)
    obtain ⟨rfl, rfl⟩ := q92
    refine P_ireturn rfl dX6_tell_95 ?_
    rw [e9]
    exact ⟨rfl, rfl⟩
  refine P_tabOut (tgt := 96) dX6_tell_1 (by
    have hne : ∀ k : Nat, k < 2147483648 → ¬ v = Int32.ofNat k → ¬ v.toInt = (k : Int) := fun k hk h1 h2 => h1 (i_eq.mpr (by rw [n_int hk]; exact h2))
    have f0 := hne 0 (by decide) e0
    have f1 := hne 1 (by decide) e1
    have f2 := hne 2 (by decide) e2
    have f3 := hne 3 (by decide) e3
    have f4 := hne 4 (by decide) e4
    have f5 := hne 5 (by decide) e5
    have f6 := hne 6 (by decide) e6
    have f7 := hne 7 (by decide) e7
    have f8 := hne 8 (by decide) e8
    have f9 := hne 9 (by decide) e9
    omega) rfl ?_
  refine P_iloadn (i := 1) rfl rfl dX6_tell_96 ?_
  refine P_bipush (v := 11) rfl dX6_tell_97 ?_
  refine P_bipush (v := 17) rfl dX6_tell_99 ?_
  refine kX6_90 rfl s_X7_isWithin (by decide) rfl dX6_tell_101 (fun r101 s101 q101 => ?_)
  obtain ⟨rfl, rfl⟩ := q101
  refine P_ifeq dX6_tell_104 (tgt := 117) rfl (fun h104 => ?_) (fun h104 => ?_)
  · refine P_iloadn (i := 1) rfl rfl dX6_tell_117 ?_
    refine P_bipush (v := 20) rfl dX6_tell_118 ?_
    refine P_bipush (v := 25) rfl dX6_tell_120 ?_
    refine kX6_90 rfl s_X7_isWithin (by decide) rfl dX6_tell_122 (fun r122 s122 q122 => ?_)
    obtain ⟨rfl, rfl⟩ := q122
    refine P_ifeq dX6_tell_125 (tgt := 139) rfl (fun h125 => ?_) (fun h125 => ?_)
    · refine P_bipush (v := (-2)) rfl dX6_tell_139 ?_
      refine P_ireturn rfl dX6_tell_141 ?_
      rw [show c_worldTell X v = -2 from (if_neg (fun hh => by obtain ⟨g1, g2, g3⟩ := in_nn (a := 0) (b := 6) (by decide) (by decide) hh; rcases (show nn v = 0 ∨ nn v = 1 ∨ nn v = 2 ∨ nn v = 3 ∨ nn v = 4 ∨ nn v = 5 ∨ nn v = 6 by omega) with e | e | e | e | e | e | e <;> rw [e] at g3 <;> first | exact e0 g3 | exact e1 g3 | exact e2 g3 | exact e3 g3 | exact e4 g3 | exact e5 g3 | exact e6 g3)).trans ((if_neg (b_f h104)).trans ((if_neg (b_f h125)).trans (if_neg e9)))]
      exact ⟨rfl, rfl⟩
    · refine P_aloadn (i := 0) rfl rfl dX6_tell_128 ?_
      refine P_iloadn (i := 1) rfl rfl dX6_tell_129 ?_
      refine P_bipush (v := 20) rfl dX6_tell_130 ?_
      refine P_isub dX6_tell_132 ?_
      refine kX6_342 rfl (c_parcelsInState h) (by decide) h.wf.kw rfl dX6_tell_133 (fun r133 s133 q133 => ?_)
      obtain ⟨rfl, rfl⟩ := q133
      refine P_goto dX6_tell_136 (tgt := 141) rfl ?_
      refine P_ireturn rfl dX6_tell_141 ?_
      rw [show c_worldTell X v = a_parcelsIn X (v - 20) from (if_neg (fun hh => by obtain ⟨g1, g2, g3⟩ := in_nn (a := 0) (b := 6) (by decide) (by decide) hh; rcases (show nn v = 0 ∨ nn v = 1 ∨ nn v = 2 ∨ nn v = 3 ∨ nn v = 4 ∨ nn v = 5 ∨ nn v = 6 by omega) with e | e | e | e | e | e | e <;> rw [e] at g3 <;> first | exact e0 g3 | exact e1 g3 | exact e2 g3 | exact e3 g3 | exact e4 g3 | exact e5 g3 | exact e6 g3)).trans ((if_neg (b_f h104)).trans (if_pos (b_t h125)))]
      exact ⟨rfl, rfl⟩
  · have hw := in_nn (a := 11) (b := 17) (by decide) (by decide) (b_t h104)
    have h10 : v - 10 = Int32.ofNat (nn v - 10) := n_10 ⟨by have := (b_t h104).1; rw [Int32.le_iff_toInt_le] at *; simp only [Int32.reduceToInt] at *; omega, (b_t h104).2⟩
    refine P_aloadn (i := 0) rfl rfl dX6_tell_107 ?_
    refine gX6_35 rfl (by first | assumption | exact h.wf.kw | exact h.wf.k1 | exact h.wf.k3 | exact h.wf.k4 | exact h.wf.k5) h.wf.r204 dX6_tell_108 ?_
    refine P_iloadn (i := 1) rfl rfl dX6_tell_111 ?_
    refine P_bipush (v := 10) rfl dX6_tell_112 ?_
    refine P_isub dX6_tell_114 ?_
    refine P_iaN (j := nn v - 10) (by first | assumption | exact h.wf.kw | exact h.wf.k1 | exact h.wf.k3 | exact h.wf.k4 | exact h.wf.k5) h10 (by omega) (by rw [h.wf.l5]; omega) (h.d _ (by omega) (by omega)) dX6_tell_115 ?_
    refine P_ireturn rfl dX6_tell_116 ?_
    rw [show c_worldTell X v = xG X (6 + (nn v - 10)) from (if_neg (fun hh => by obtain ⟨g1, g2, g3⟩ := in_nn (a := 0) (b := 6) (by decide) (by decide) hh; rcases (show nn v = 0 ∨ nn v = 1 ∨ nn v = 2 ∨ nn v = 3 ∨ nn v = 4 ∨ nn v = 5 ∨ nn v = 6 by omega) with e | e | e | e | e | e | e <;> rw [e] at g3 <;> first | exact e0 g3 | exact e1 g3 | exact e2 g3 | exact e3 g3 | exact e4 g3 | exact e5 g3 | exact e6 g3)).trans (if_pos (b_t h104))]
    exact ⟨rfl, rfl⟩
end Cls21b
