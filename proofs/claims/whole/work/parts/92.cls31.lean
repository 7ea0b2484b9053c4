theorem RC.pad {L : PL} {FI AI F2 A2 : Nat → Nat → Int32} {AL : Nat → Nat → Int64} {AR : Nat → Nat → Option Nat} {x : Nat} {Z : ZW} (h : RC L FI AI AL AR x Z) (hF : ∀ j a, a ≠ x + 5765 → F2 j a = FI j a) (hA : ∀ a, a ≠ x + 5766 → a ≠ x + 5767 → A2 a = AI a) {n : Nat} {c : Nat → Int32} (h97 : F2 97 (x + 5765) = Int32.ofNat n) (hn : n ≤ 80) (hc : ∀ i, i < n → A2 (x + 5766) i = c i) : RC L F2 A2 AL AR x (zX Z, zH Z, zf Z, zk Z, zS Z, zV Z, c, n) := by
  have hV : ∀ {w : Nat} {X : XW}, CV L FI AI AL AR w X → (x + 5768 ≤ w ∨ w + 720 ≤ x + 5765) → CV L F2 A2 AL AR w X := fun hv hw => hv.oth (fun a h1 h2 => ⟨fun j => hF j a (by omega), hA a (by omega) (by omega), rfl, rfl⟩)
  have hf6 := h.f6
  exact ⟨h.lc, h.2.1, hV h.live (by omega), h.fore, fun i hi => h.wh hi, fun i hi => h.ws hi, ⟨(hF _ _ (by omega)).trans h.pf, h.f6, (hF _ _ (by omega)).trans h.pk, h.k6, fun i hi => hV (h.h hi) (by omega)⟩, fun s hs => ⟨(congrFun (hA _ (by omega) (by omega)) s).trans (h.v hs), fun hv => hV (h.s hs hv) (by omega)⟩, ⟨h97, hn, hc⟩⟩
/-- the character as the class takes it -/
def l_chc (x : Int64) (j : Nat) : Int32 := (((x.toUInt64 >>> (((8 : Int32) * Int32.ofNat j).toInt64.toUInt64 &&& Int64.toUInt64 63)).toInt64) &&& 255).toInt32
theorem l_8j {j : Nat} (hj : j < 8) : (((8 : Int32) * Int32.ofNat j).toInt64.toUInt64 &&& Int64.toUInt64 63) = UInt64.ofNat (8 * j) ∧ ((UInt64.ofNat (8 * j)).toBitVec % 64).toNat = 8 * j ∧ ((((8 : Int32) * Int32.ofNat j).toInt64 &&& 63).toBitVec.smod 64).toNat = 8 * j := by
  rcases (show j = 0 ∨ j = 1 ∨ j = 2 ∨ j = 3 ∨ j = 4 ∨ j = 5 ∨ j = 6 ∨ j = 7 by omega) with e | e | e | e | e | e | e | e <;> subst e <;> exact ⟨by decide, by decide, by decide⟩
theorem l_chc_nat (x : Int64) {j : Nat} (hj : j < 8) : l_chc x j = Int32.ofNat ((x.toBitVec.toNat >>> (8 * j)) % 256) := by
  unfold l_chc
  rw [(l_8j hj).1]
  refine Int32.toBitVec_inj.mp ?_
  rw [Int64.toBitVec_toInt32, BitVec.signExtend_eq_setWidth_of_le _ (by decide)]
  refine BitVec.eq_of_toNat_eq ?_
  rw [BitVec.toNat_setWidth, Int64.toBitVec_and, BitVec.toNat_and]
  show ((x.toBitVec >>> ((UInt64.ofNat (8 * j)).toBitVec % 64).toNat).toNat &&& 255) % 2 ^ 32 = ((x.toBitVec.toNat >>> (8 * j)) % 256) % 2 ^ 32
  rw [(l_8j hj).2.1, BitVec.toNat_ushiftRight]
  congr 1
  exact Nat.and_two_pow_sub_one_eq_mod _ 8
theorem l_chc_eq (x : Int64) {j : Nat} (hj : j < 8) : l_chc x j = l_chr x j := by
  unfold l_chc l_chr
  rw [(l_8j hj).1]
  congr 1
  refine Int64.toBitVec_inj.mp ?_
  rw [Int64.toBitVec_and, Int64.toBitVec_and, Int64.toBitVec_shiftRight]
  refine BitVec.eq_of_getLsbD_eq (fun i hi => ?_)
  rw [BitVec.getLsbD_and, BitVec.getLsbD_and]
  show ((x.toBitVec >>> ((UInt64.ofNat (8 * j)).toBitVec % 64).toNat).getLsbD i && (255#64).getLsbD i) = ((x.toBitVec.sshiftRight ((((8 : Int32) * Int32.ofNat j).toInt64 &&& 63).toBitVec.smod 64).toNat).getLsbD i && (255#64).getLsbD i)
  rw [(l_8j hj).2.1, (l_8j hj).2.2, BitVec.getLsbD_ushiftRight, BitVec.getLsbD_sshiftRight, BitVec.getLsbD_ofNat, show (255 : Nat) = 2 ^ 8 - 1 from rfl, Nat.testBit_two_pow_sub_one]
  by_cases e : i < 8
  · rw [if_pos (show 8 * j + i < 64 by omega), decide_eq_false (show ¬ 64 ≤ i by omega)]
    simp
  · rw [decide_eq_false e]
    simp
theorem n_char {n : Nat} (h : n < 256) : ((Int32.ofNat n).toUInt32 % 65536).toInt32 = Int32.ofNat n := by
  refine Int32.toBitVec_inj.mp (BitVec.eq_of_toNat_eq ?_)
  show (n % 2 ^ 32) % 65536 = n % 2 ^ 32
  omega
section Cls31
variable {g : PG} {L : PL} {FI AI : Nat → Nat → Int32} {AL : Nat → Nat → Int64} {AR : Nat → Nat → Option Nat} {x : Nat} {Z : ZW} {M : Nat} {y : Int64}
theorem g_wipe (h : RC L FI AI AL AR x Z) : Sp g 1 iX7_wipe [vr x] (L, FI, AI, AL, AR) (0, 0) (QRC L FI AI AL AR x (z_wipe Z).1 (some (vi (z_wipe Z).2))) := by
  refine Sp.of (ls := [some (vr x), none]) (by decide +kernel) rfl rfl ?_
  refine P_aloadn (i := 0) rfl rfl dX7_wipe_0 ?_
  refine gX7_37 rfl (by first | exact h.lc.kx | exact h.lc.kh | exact h.lc.kt | exact h.lc.kv | assumption) h.lc.r229 dX7_wipe_1 ?_
  refine gX7_159 rfl h.lc.kp h.pn dX7_wipe_4 ?_
  refine P_is1 (Or.inl dX7_wipe_7) rfl rfl ?_
  refine P_aloadn (i := 0) rfl rfl dX7_wipe_8 ?_
  refine gX7_37 rfl (by first | exact h.lc.kx | exact h.lc.kh | exact h.lc.kt | exact h.lc.kv | assumption) h.lc.r229 dX7_wipe_9 ?_
  refine P_iconst (v := 0) rfl dX7_wipe_12 ?_
  refine uX7_159 rfl h.lc.kp dX7_wipe_13 ?_
  refine P_iloadn (i := 1) rfl rfl dX7_wipe_16 ?_
  refine P_ireturn rfl dX7_wipe_17 ?_
  exact ⟨_, AI, AL, AR, rfl, rfl, FrO.rf.uF (by omega), h.pad (fun j a ha => p_up_of (by omega)) (fun _ _ _ => rfl) (p_up_eq _ _ _ _) (by omega) (fun i hi => absurd hi (Nat.not_lt_zero _))⟩
theorem g_charactersIn : Sp g 1 iX3_charactersIn [vl y] (L, FI, AI, AL, AR) (0, 0) (QI (L, FI, AI, AL, AR) (Int32.ofNat (l_cnt 8 y 0))) := by
  refine Sp.of (ls := [some (vl y), none, none, none, none, none]) (by decide +kernel) rfl rfl ?_
  have loop : ∀ n i : Nat, i + n = 8 → ∀ r : Int64, l_cnt 8 y 0 = l_cnt n r i → P g 1 iX3_charactersIn 7 [some (vl y), none, some (vi (Int32.ofNat i)), some (vl r), none, some (vi (Int32.ofNat i))] [] (L, FI, AI, AL, AR) (0, 0) (QI (L, FI, AI, AL, AR) (Int32.ofNat (l_cnt 8 y 0))) := by
    intro n
    induction n with
    | zero =>
      intro i hi r hf
      refine P_iload (i := 5) rfl dX3_charactersIn_7 ?_
      refine P_bipush (v := 8) rfl dX3_charactersIn_9 ?_
      refine P_icmpge dX3_charactersIn_11 (tgt := 52) rfl (fun h11 => ?_) (fun h11 => absurd ((n_le (a := 8) (b := i) (by omega) (by omega)).mpr (by omega)) h11)
      refine P_iloadn (i := 2) rfl rfl dX3_charactersIn_52 ?_
      refine P_ireturn rfl dX3_charactersIn_53 ?_
      rw [hf]
      exact ⟨rfl, rfl⟩
    | succ n ih =>
      intro i hi r hf
      refine P_iload (i := 5) rfl dX3_charactersIn_7 ?_
      refine P_bipush (v := 8) rfl dX3_charactersIn_9 ?_
      refine P_icmpge dX3_charactersIn_11 (tgt := 52) rfl (fun h11 => absurd h11 (fun h8 => by have h7 := (n_le (a := 8) (b := i) (by omega) (by omega)).mp h8; omega)) (fun h11 => ?_)
      refine P_lloadn (i := 3) rfl rfl dX3_charactersIn_14 ?_
      refine P_lconst (v := 0) rfl dX3_charactersIn_15 ?_
      refine P_lcmp dX3_charactersIn_16 ?_
      refine P_ifeq dX3_charactersIn_17 (tgt := 52) rfl (fun h17 => ?_) (fun h17 => ?_)
      · refine P_iloadn (i := 2) rfl rfl dX3_charactersIn_52 ?_
        refine P_ireturn rfl dX3_charactersIn_53 ?_
        rw [hf, show l_cnt (n + 1) r i = i from if_pos ((lg_cmp_eq _ _).mp h17)]
        exact ⟨rfl, rfl⟩
      · refine P_lloadn (i := 3) rfl rfl dX3_charactersIn_20 ?_
        refine LX3_19 rfl dX3_charactersIn_21 ?_
        refine P_land dX3_charactersIn_24 ?_
        refine P_l2i dX3_charactersIn_25 ?_
        refine P_bipush (v := 33) rfl dX3_charactersIn_26 ?_
        refine P_bipush (v := 126) rfl dX3_charactersIn_28 ?_
        refine kX3_21 rfl s_X7_isWithin (by decide) rfl dX3_charactersIn_30 (fun r30 s30 q30 => ?_)
        obtain ⟨rfl, rfl⟩ := q30
        refine P_ifne dX3_charactersIn_33 (tgt := 38) rfl (fun h33 => ?_) (fun h33 => ?_)
        · refine P_lloadn (i := 3) rfl rfl dX3_charactersIn_38 ?_
          refine P_bipush (v := 8) rfl dX3_charactersIn_39 ?_
          refine P_lushr rfl dX3_charactersIn_41 ?_
          refine P_ls3 (Or.inl dX3_charactersIn_42) rfl rfl ?_
          refine P_inN2 dX3_charactersIn_43 rfl rfl ?_
          refine P_inN5 dX3_charactersIn_46 rfl rfl ?_
          refine P_goto dX3_charactersIn_49 (tgt := 7) rfl ?_
          exact ih (i + 1) (by omega) (l_sh r) (hf.trans ((if_neg (fun hh => h17 ((lg_cmp_eq _ _).mpr hh))).trans (if_neg (fun hh => hh (b_t h33)))))
        · refine P_iconst (v := 0) rfl dX3_charactersIn_36 ?_
          refine P_ireturn rfl dX3_charactersIn_37 ?_
          rw [hf, show l_cnt (n + 1) r i = 0 from (if_neg (fun hh => h17 ((lg_cmp_eq _ _).mpr hh))).trans (if_pos (b_f h33))]
          exact ⟨rfl, rfl⟩
  refine P_iconst (v := 0) rfl dX3_charactersIn_0 ?_
  refine P_is2 (Or.inl dX3_charactersIn_1) rfl rfl ?_
  refine P_lloadn (i := 0) rfl rfl dX3_charactersIn_2 ?_
  refine P_ls3 (Or.inl dX3_charactersIn_3) rfl rfl ?_
  refine P_iconst (v := 0) rfl dX3_charactersIn_4 ?_
  refine P_is5 (Or.inr dX3_charactersIn_5) rfl rfl ?_
  exact loop 8 0 (by omega) y rfl
end Cls31
