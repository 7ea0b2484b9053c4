theorem P_irem2 {g : PG} {d : Nat} {mi : PI} {pc : Nat} {ls : List (Option PV)} {st : List PV} {σ : PS} {k : Nat × Nat} {Q : Option PV → PS → Prop} {x y : Int32} (hy : ¬ y = 0) (hd : decode mi.2.1 pc = .ok (.irem, 1)) (kk : P g d mi (pc + 1) ls (vi (c_rem x y) :: st) σ k Q) : P g d mi pc ls (vi y :: vi x :: st) σ k Q := P_irem hy hd kk
section Ref6
variable {g : PG} {L : PL} {FI AI : Nat → Nat → Int32} {AL : Nat → Nat → Int64} {AR : Nat → Nat → Option Nat} {m : Nat} {X : XW}
theorem s_finishIfAll (hM : WM L m) (hA : RA AI m X) {p : Int32} (hp : ib p (xp X)) (h4000 : (xP X (nn p) 8).toInt < 4001) : Sp g 2 iX8_finishIfAll [vr m, vi p] (L, FI, AI, AL, AR) (0, 0) (RM L FI AI AL AR m (x_fin X (nn p)) none) := by
  refine Sp.of (ls := [some (vr m), some (vi p), none, none, none]) (by decide +kernel) rfl rfl ?_
  have hp9 := hp.nn
  have hp40 := hA.p40
  obtain ⟨al, hal0⟩ : ∃ al, al = xP X (nn p) 8 := ⟨_, rfl⟩
  refine P_aloadn (i := 0) rfl rfl dX8_finishIfAll_0 ?_
  refine P_iloadn (i := 1) rfl rfl dX8_finishIfAll_1 ?_
  refine P_bipush (v := 8) rfl dX8_finishIfAll_2 ?_
  refine kX8_102 rfl (s_ofP hM hA (k := 8) (by first | assumption | (apply ib.mono (by assumption); omega)) rfl (by decide)) (by decide) (by first | exact hM.k0 | exact hM.k1 | exact hM.k2 | exact hM.k3 | exact hM.k4 | exact hM.k5 | exact hM.k6 | exact hM.k7 | exact hM.k8 | exact hM.k9 | exact hM.k10 | exact hM.k11 | exact hM.k12 | exact hM.k13 | exact hM.k14 | exact hM.k15 | exact hM.k16 | exact hM.k17) rfl dX8_finishIfAll_4 (fun r4 s4 q4 => ?_)
  obtain ⟨rfl, rfl⟩ := q4
  rw [← hal0]
  refine P_is2 (Or.inl dX8_finishIfAll_7) rfl rfl ?_
  refine P_iloadn (i := 2) rfl rfl dX8_finishIfAll_8 ?_
  refine P_iflt dX8_finishIfAll_9 (tgt := 23) rfl (fun h9 => ?_) (fun h9 => ?_)
  · refine P_return rfl dX8_finishIfAll_23 ?_
    refine ⟨_, rfl, rfl, FA.rf, ?_⟩
    unfold x_fin
    rw [← hal0]
    rw [if_pos (Or.inl h9)]
    exact hA
  · refine P_aloadn (i := 0) rfl rfl dX8_finishIfAll_12 ?_
    refine P_iloadn (i := 1) rfl rfl dX8_finishIfAll_13 ?_
    refine P_bipush (v := 12) rfl dX8_finishIfAll_14 ?_
    refine kX8_102 rfl (s_ofP hM hA (k := 12) (by first | assumption | (apply ib.mono (by assumption); omega)) rfl (by decide)) (by decide) (by first | exact hM.k0 | exact hM.k1 | exact hM.k2 | exact hM.k3 | exact hM.k4 | exact hM.k5 | exact hM.k6 | exact hM.k7 | exact hM.k8 | exact hM.k9 | exact hM.k10 | exact hM.k11 | exact hM.k12 | exact hM.k13 | exact hM.k14 | exact hM.k15 | exact hM.k16 | exact hM.k17) rfl dX8_finishIfAll_16 (fun r16 s16 q16 => ?_)
    obtain ⟨rfl, rfl⟩ := q16
    refine P_iloadn (i := 2) rfl rfl dX8_finishIfAll_19 ?_
    refine P_icmpge dX8_finishIfAll_20 (tgt := 24) rfl (fun h20 => ?_) (fun h20 => ?_)
    · refine P_iconst (v := 0) rfl dX8_finishIfAll_24 ?_
      refine P_is3 (Or.inl dX8_finishIfAll_25) rfl rfl ?_
      refine P_iconst (v := 0) rfl dX8_finishIfAll_26 ?_
      refine P_is4 (Or.inr dX8_finishIfAll_27) rfl rfl ?_
      have hal : ib al 4001 := ⟨by have h8 := Int32.not_lt.mp h9; rw [Int32.le_iff_toInt_le] at h8; simpa using h8, by rw [hal0]; exact h4000⟩
      have hal9 := hal.nn
      have loop : ∀ n i, i + n = nn al → P g 2 iX8_finishIfAll 29 [some (vr m), some (vi p), some (vi al), some (vi (x_csum (xT X (nn p)) i)), some (vi (Int32.ofNat i))] [] (L, FI, AI, AL, AR) (0, 0) (RM L FI AI AL AR m (x_fin X (nn p)) none) := by
        intro n
        induction n with
        | zero =>
          intro i hi
          refine P_iload (i := 4) rfl dX8_finishIfAll_29 ?_
          refine P_iloadn (i := 2) rfl rfl dX8_finishIfAll_31 ?_
          refine P_icmpge dX8_finishIfAll_32 (tgt := 62) rfl (fun h32 => ?_) (fun h32 => absurd ((hal.leN (by omega)).mpr (by show nn al ≤ i; omega)) h32)
          have e : i = nn al := (by omega)
          subst e
          refine P_iloadn (i := 2) rfl rfl dX8_finishIfAll_62 ?_
          refine P_aloadn (i := 0) rfl rfl dX8_finishIfAll_63 ?_
          refine P_iloadn (i := 1) rfl rfl dX8_finishIfAll_64 ?_
          refine P_iconst (v := 2) rfl dX8_finishIfAll_65 ?_
          refine kX8_102 rfl (s_ofP hM hA (k := 2) (by first | assumption | (apply ib.mono (by assumption); omega)) rfl (by decide)) (by decide) (by first | exact hM.k0 | exact hM.k1 | exact hM.k2 | exact hM.k3 | exact hM.k4 | exact hM.k5 | exact hM.k6 | exact hM.k7 | exact hM.k8 | exact hM.k9 | exact hM.k10 | exact hM.k11 | exact hM.k12 | exact hM.k13 | exact hM.k14 | exact hM.k15 | exact hM.k16 | exact hM.k17) rfl dX8_finishIfAll_66 (fun r66 s66 q66 => ?_)
          obtain ⟨rfl, rfl⟩ := q66
          refine P_icmpne dX8_finishIfAll_69 (tgt := 93) rfl (fun h69 => ?_) (fun h69 => ?_)
          · refine P_iconst (v := 0) rfl dX8_finishIfAll_93 ?_
            refine P_is4 (Or.inr dX8_finishIfAll_94) rfl rfl ?_
            refine P_aloadn (i := 0) rfl rfl dX8_finishIfAll_96 ?_
            refine P_iloadn (i := 1) rfl rfl dX8_finishIfAll_97 ?_
            refine P_iload (i := 4) rfl dX8_finishIfAll_98 ?_
            refine P_ifeq dX8_finishIfAll_100 (tgt := 107) rfl (fun h100 => ?_) (fun h100 => absurd (rfl) h100)
            refine P_iconst (v := 2) rfl dX8_finishIfAll_107 ?_
            refine kX8_155 rfl (s_end hM hA hp) (by decide) (by first | exact hM.k0 | exact hM.k1 | exact hM.k2 | exact hM.k3 | exact hM.k4 | exact hM.k5 | exact hM.k6 | exact hM.k7 | exact hM.k8 | exact hM.k9 | exact hM.k10 | exact hM.k11 | exact hM.k12 | exact hM.k13 | exact hM.k14 | exact hM.k15 | exact hM.k16 | exact hM.k17) rfl dX8_finishIfAll_108 (fun r108 s108 q108 => ?_)
            obtain ⟨A2, rfl, rfl, hF2, hA2⟩ := q108
            refine P_return rfl dX8_finishIfAll_111 ?_
            refine ⟨A2, rfl, rfl, hF2, ?_⟩
            unfold x_fin
            rw [← hal0, if_neg (fun hh => hh.elim h9 (fun h8 => Int32.not_lt.mpr h20 h8)), if_neg (fun hh => h69 hh.1)]
            exact hA2
          · refine P_iloadn (i := 3) rfl rfl dX8_finishIfAll_72 ?_
            refine lX8_144 rfl dX8_finishIfAll_73 ?_
            refine P_irem2 (by decide) dX8_finishIfAll_75 ?_
            refine P_aloadn (i := 0) rfl rfl dX8_finishIfAll_76 ?_
            refine P_iloadn (i := 1) rfl rfl dX8_finishIfAll_77 ?_
            refine P_iconst (v := 3) rfl dX8_finishIfAll_78 ?_
            refine kX8_102 rfl (s_ofP hM hA (k := 3) (by first | assumption | (apply ib.mono (by assumption); omega)) rfl (by decide)) (by decide) (by first | exact hM.k0 | exact hM.k1 | exact hM.k2 | exact hM.k3 | exact hM.k4 | exact hM.k5 | exact hM.k6 | exact hM.k7 | exact hM.k8 | exact hM.k9 | exact hM.k10 | exact hM.k11 | exact hM.k12 | exact hM.k13 | exact hM.k14 | exact hM.k15 | exact hM.k16 | exact hM.k17) rfl dX8_finishIfAll_79 (fun r79 s79 q79 => ?_)
            obtain ⟨rfl, rfl⟩ := q79
            refine P_iloadn (i := 2) rfl rfl dX8_finishIfAll_82 ?_
            refine kX8_158 rfl (s_sumOf hal) (by decide) rfl dX8_finishIfAll_83 (fun r83 s83 q83 => ?_)
            obtain ⟨rfl, rfl⟩ := q83
            refine P_icmpne dX8_finishIfAll_86 (tgt := 93) rfl (fun h86 => ?_) (fun h86 => ?_)
            · refine P_iconst (v := 0) rfl dX8_finishIfAll_93 ?_
              refine P_is4 (Or.inr dX8_finishIfAll_94) rfl rfl ?_
              refine P_aloadn (i := 0) rfl rfl dX8_finishIfAll_96 ?_
              refine P_iloadn (i := 1) rfl rfl dX8_finishIfAll_97 ?_
              refine P_iload (i := 4) rfl dX8_finishIfAll_98 ?_
              refine P_ifeq dX8_finishIfAll_100 (tgt := 107) rfl (fun h100 => ?_) (fun h100 => absurd (rfl) h100)
              refine P_iconst (v := 2) rfl dX8_finishIfAll_107 ?_
              refine kX8_155 rfl (s_end hM hA hp) (by decide) (by first | exact hM.k0 | exact hM.k1 | exact hM.k2 | exact hM.k3 | exact hM.k4 | exact hM.k5 | exact hM.k6 | exact hM.k7 | exact hM.k8 | exact hM.k9 | exact hM.k10 | exact hM.k11 | exact hM.k12 | exact hM.k13 | exact hM.k14 | exact hM.k15 | exact hM.k16 | exact hM.k17) rfl dX8_finishIfAll_108 (fun r108 s108 q108 => ?_)
              obtain ⟨A2, rfl, rfl, hF2, hA2⟩ := q108
              refine P_return rfl dX8_finishIfAll_111 ?_
              refine ⟨A2, rfl, rfl, hF2, ?_⟩
              unfold x_fin
              rw [← hal0, if_neg (fun hh => hh.elim h9 (fun h8 => Int32.not_lt.mpr h20 h8)), if_neg (fun hh => h86 hh.2)]
              exact hA2
            · refine P_iconst (v := 1) rfl dX8_finishIfAll_89 ?_
              refine P_goto dX8_finishIfAll_90 (tgt := 94) rfl ?_
              refine P_is4 (Or.inr dX8_finishIfAll_94) rfl rfl ?_
              refine P_aloadn (i := 0) rfl rfl dX8_finishIfAll_96 ?_
              refine P_iloadn (i := 1) rfl rfl dX8_finishIfAll_97 ?_
              refine P_iload (i := 4) rfl dX8_finishIfAll_98 ?_
              refine P_ifeq dX8_finishIfAll_100 (tgt := 107) rfl (fun h100 => absurd h100 (by decide)) (fun h100 => ?_)
              refine P_iconst (v := 1) rfl dX8_finishIfAll_103 ?_
              refine P_goto dX8_finishIfAll_104 (tgt := 108) rfl ?_
              refine kX8_155 rfl (s_end hM hA hp) (by decide) (by first | exact hM.k0 | exact hM.k1 | exact hM.k2 | exact hM.k3 | exact hM.k4 | exact hM.k5 | exact hM.k6 | exact hM.k7 | exact hM.k8 | exact hM.k9 | exact hM.k10 | exact hM.k11 | exact hM.k12 | exact hM.k13 | exact hM.k14 | exact hM.k15 | exact hM.k16 | exact hM.k17) rfl dX8_finishIfAll_108 (fun r108 s108 q108 => ?_)
              obtain ⟨A2, rfl, rfl, hF2, hA2⟩ := q108
              refine P_return rfl dX8_finishIfAll_111 ?_
              refine ⟨A2, rfl, rfl, hF2, ?_⟩
              unfold x_fin
              rw [← hal0, if_neg (fun hh => hh.elim h9 (fun h8 => Int32.not_lt.mpr h20 h8)), if_pos ⟨h69, h86⟩]
              exact hA2
        | succ n ih =>
          intro i hi
          refine P_iload (i := 4) rfl dX8_finishIfAll_29 ?_
          refine P_iloadn (i := 2) rfl rfl dX8_finishIfAll_31 ?_
          refine P_icmpge dX8_finishIfAll_32 (tgt := 62) rfl (fun h32 => absurd h32 (fun h9 => by have h8 : nn al ≤ i := (hal.leN (by omega)).mp h9; omega)) (fun h32 => ?_)
          refine P_iloadn (i := 3) rfl rfl dX8_finishIfAll_35 ?_
          refine P_aloadn (i := 0) rfl rfl dX8_finishIfAll_36 ?_
          refine gX8_14 rfl (by first | exact hM.k0 | exact hM.k1 | exact hM.k2 | exact hM.k3 | exact hM.k4 | exact hM.k5 | exact hM.k6 | exact hM.k7 | exact hM.k8 | exact hM.k9 | exact hM.k10 | exact hM.k11 | exact hM.k12 | exact hM.k13 | exact hM.k14 | exact hM.k15 | exact hM.k16 | exact hM.k17) hM.r257 dX8_finishIfAll_37 ?_
          refine P_sipush (v := 4000) rfl dX8_finishIfAll_40 ?_
          refine P_iloadn (i := 1) rfl rfl dX8_finishIfAll_43 ?_
          refine P_imul dX8_finishIfAll_44 ?_
          refine P_iload (i := 4) rfl dX8_finishIfAll_45 ?_
          refine P_iadd dX8_finishIfAll_47 ?_
          refine P_iaN (j := 4000 * nn p + i) (by first | exact hM.k0 | exact hM.k1 | exact hM.k2 | exact hM.k3 | exact hM.k4 | exact hM.k5 | exact hM.k6 | exact hM.k7 | exact hM.k8 | exact hM.k9 | exact hM.k10 | exact hM.k11 | exact hM.k12 | exact hM.k13 | exact hM.k14 | exact hM.k15 | exact hM.k16 | exact hM.k17) (n_idt hp i) (by first | omega | (simp only [hM.l1, hM.l2, hM.l3, hM.l4, hM.l5, hM.l6, hM.l7, hM.l8, hM.l9, hM.l10, hM.l11, hM.l12, hM.l13, hM.l14, hM.l15, hM.l16, hM.l17]; omega)) (by first | omega | (simp only [hM.l1, hM.l2, hM.l3, hM.l4, hM.l5, hM.l6, hM.l7, hM.l8, hM.l9, hM.l10, hM.l11, hM.l12, hM.l13, hM.l14, hM.l15, hM.l16, hM.l17]; omega)) (hA.tt hp9 (by omega)) dX8_finishIfAll_48 ?_
          refine P_iload (i := 4) rfl dX8_finishIfAll_49 ?_
          refine kX8_141 rfl s_byteOf8 (by decide) rfl dX8_finishIfAll_51 (fun r51 s51 q51 => ?_)
          obtain ⟨rfl, rfl⟩ := q51
          refine P_iadd dX8_finishIfAll_54 ?_
          refine P_is3 (Or.inl dX8_finishIfAll_55) rfl rfl ?_
          refine P_inN4 dX8_finishIfAll_56 rfl rfl ?_
          refine P_goto dX8_finishIfAll_59 (tgt := 29) rfl ?_
          exact ih (i + 1) (by omega)
      exact loop (nn al) 0 (by omega)
    · 
      refine P_return rfl dX8_finishIfAll_23 ?_
      refine ⟨_, rfl, rfl, FA.rf, ?_⟩
      unfold x_fin
      rw [← hal0]
      rw [if_pos (Or.inr (Int32.not_le.mp h20))]
      exact hA
end Ref6
