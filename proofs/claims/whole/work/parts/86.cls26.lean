/-- every state that is kept is sound -/
def ZI (M : Nat) (Z : ZW) : Prop := XI M (zX Z) ∧ (∀ i, i < zk Z → XI M (zH Z ((zf Z + i) % 6))) ∧ (∀ s, s < 2 → zV Z s = true → XI M (zS Z s))
section Cls26
variable {g : PG} {L : PL} {FI AI : Nat → Nat → Int32} {AL : Nat → Nat → Int64} {AR : Nat → Nat → Option Nat} {x : Nat} {Z : ZW} {M : Nat}
theorem s_bring7 (h : RC L FI AI AL AR x Z) (hI0 : ¬ zk Z = 0 → XI M (zH Z ((zf Z + (zk Z - 1)) % 6))) : Sp g 3 iX1_bringBack [vr (x + 1441), vr (x + 1)] (L, FI, AI, AL, AR) (0, 0) (fun r σ => (zk Z = 0 ∧ r = some (vi 0) ∧ σ = (L, FI, AI, AL, AR)) ∨ (¬ zk Z = 0 ∧ QRC L FI AI AL AR x (zH Z ((zf Z + (zk Z - 1)) % 6), zH Z, zf Z, zk Z - 1, Z.2.2.2.2) (some (vi 1)) r σ)) := by
  refine Sp.of (ls := [some (vr (x + 1441)), some (vr (x + 1))]) (by decide +kernel) rfl rfl ?_
  have hf6 := h.f6
  have hk6 := h.k6
  have hL := h.lc
  have hq : ((zf Z + (zk Z - 1)) % 6) < 6 := Nat.mod_lt _ (by decide)
  refine P_aloadn (i := 0) rfl rfl dX1_bringBack_0 ?_
  refine gX1_18 rfl (by first | exact h.lc.kh | exact h.lc.ks | exact hl.wf.kw) h.pk dX1_bringBack_1 ?_
  refine P_ifgt dX1_bringBack_4 (tgt := 9) rfl (fun h4 => ?_) (fun h4 => ?_)
  · have hk : ¬ zk Z = 0 := fun hh => by rw [hh] at h4; exact absurd h4 (by decide)
    have hI := hI0 hk
    have hp := h.pop hk
    obtain ⟨sa, hl⟩ := hp.live
    have hv0 : CV L (p_up FI 34 (x + 1441) (Int32.ofNat (zk Z - 1))) AI AL AR (x + 1443 + 720 * ((zf Z + (zk Z - 1)) % 6)) (zH Z ((zf Z + (zk Z - 1)) % 6)) := (h.h (i := zk Z - 1) (by omega)).oth (fun a h1 h2 => ⟨fun j => p_up_of (by omega), rfl, rfl, rfl⟩)
    obtain ⟨sb, hv⟩ := hv0
    refine P_aloadn (i := 0) rfl rfl dX1_bringBack_9 ?_
    refine P_dup rfl dX1_bringBack_10 ?_
    refine gX1_18 rfl (by first | exact h.lc.kh | exact h.lc.ks | exact hl.wf.kw) h.pk dX1_bringBack_11 ?_
    refine P_iconst (v := 1) rfl dX1_bringBack_14 ?_
    refine P_isub dX1_bringBack_15 ?_
    rw [n_pred (show 0 < zk Z by omega) (by omega)]
    refine uX1_18 rfl (by first | exact h.lc.kh | exact h.lc.ks | exact hl.wf.kw) dX1_bringBack_16 ?_
    refine P_aloadn (i := 1) rfl rfl dX1_bringBack_19 ?_
    refine P_aloadn (i := 0) rfl rfl dX1_bringBack_20 ?_
    refine P_aloadn (i := 0) rfl rfl dX1_bringBack_21 ?_
    refine gX1_18 rfl (by first | exact h.lc.kh | exact h.lc.ks | exact hl.wf.kw) (p_up_eq _ _ _ _) dX1_bringBack_22 ?_
    refine kX1_22 rfl (s_stateAt hL (fun i hi => h.sh hi) ((p_up_n1 _ _ _ _ (by decide)).trans h.pf) (by omega)) (by decide) (by first | exact h.lc.kh | exact h.lc.ks | exact hl.wf.kw) rfl dX1_bringBack_25 (fun r25 s25 q25 => ?_)
    obtain ⟨rfl, rfl⟩ := q25
    refine kX1_26 rfl (s_W_copy hl.wf hl.wa hv hI (by omega) (c_of_last hI)) (by decide) hl.wf.kw rfl dX1_bringBack_28 (fun r28 s28 q28 => ?_)
    obtain ⟨F2, A2, L2, rfl, rfl, hf, hc⟩ := q28
    refine P_iconst (v := 1) rfl dX1_bringBack_31 ?_
    refine P_zreturn rfl (by first | exact Or.inl rfl | exact Or.inr rfl | assumption) dX1_bringBack_32 ?_
    exact Or.inr ⟨hk, F2, A2, L2, AR, rfl, rfl, FrO.tr (FrO.rf.uF (by omega)) (FrO.fc hf (by omega)), hp.up hf ⟨sa, hc⟩⟩
  · have hk : zk Z = 0 := by
      have h9 := (n_le (a := zk Z) (b := 0) (by omega) (by omega)).mp (Int32.not_lt.mp h4)
      omega
    refine P_iconst (v := 0) rfl dX1_bringBack_7 ?_
    refine P_zreturn rfl (by first | exact Or.inl rfl | exact Or.inr rfl | assumption) dX1_bringBack_8 ?_
    exact Or.inl ⟨hk, rfl, rfl⟩
theorem g_undo (h : RC L FI AI AL AR x Z) (hZ : ZI M Z)  : Sp g 4 iX7_undo [vr x] (L, FI, AI, AL, AR) (0, 0) (QRC L FI AI AL AR x (z_undo Z).1 (some (vi (z_undo Z).2))) := by
  refine Sp.of (ls := [some (vr x)]) (by decide +kernel) rfl rfl ?_
  refine P_aloadn (i := 0) rfl rfl dX7_undo_0 ?_
  refine gX7_22 rfl (by first | exact h.lc.kx | exact h.lc.kh | exact h.lc.kt | exact h.lc.kv | assumption) h.lc.r226 dX7_undo_1 ?_
  refine P_aloadn (i := 0) rfl rfl dX7_undo_4 ?_
  refine gX7_10 rfl (by first | exact h.lc.kx | exact h.lc.kh | exact h.lc.kt | exact h.lc.kv | assumption) h.lc.r224 dX7_undo_5 ?_
  refine kX7_223 rfl (s_bring7 h (fun hk => hZ.2.1 _ (by omega))) (by decide) h.lc.kh rfl dX7_undo_8 (fun r8 s8 q8 => ?_)
  obtain q8 := q8
  rcases q8 with ⟨hk, rfl, rfl⟩ | ⟨hk, F2, A2, B2, R2, rfl, rfl, hf2, h2⟩
  · refine P_ifeq dX7_undo_11 (tgt := 24) rfl (fun h11 => ?_) (fun h11 => ?_)
    · refine P_bipush (v := (-5)) rfl dX7_undo_24 ?_
      refine P_ireturn rfl dX7_undo_26 ?_
      rw [show z_undo Z = (Z, -5) from if_pos hk]
      exact ⟨FI, AI, AL, AR, rfl, rfl, FrO.rf, h⟩
    · exact absurd rfl h11
  · refine P_ifeq dX7_undo_11 (tgt := 24) rfl (fun h11 => ?_) (fun h11 => ?_)
    · exact absurd h11 (by decide)
    · refine P_aloadn (i := 0) rfl rfl dX7_undo_14 ?_
      refine gX7_22 rfl (by first | exact h.lc.kx | exact h.lc.kh | exact h.lc.kt | exact h.lc.kv | assumption) h.lc.r226 dX7_undo_15 ?_
      refine gX7_162 rfl h.lc.kh h2.pk dX7_undo_18 ?_
      refine P_goto dX7_undo_21 (tgt := 26) rfl ?_
      refine P_ireturn rfl dX7_undo_26 ?_
      rw [show z_undo Z = ((zH Z ((zf Z + (zk Z - 1)) % 6), zH Z, zf Z, zk Z - 1, Z.2.2.2.2), Int32.ofNat (zk Z - 1)) from if_neg hk]
      exact ⟨F2, A2, B2, R2, rfl, rfl, hf2, h2⟩
theorem g_save (h : RC L FI AI AL AR x Z) (hZ : ZI M Z) {s : Int32} : Sp g 4 iX7_save [vr x, vi s] (L, FI, AI, AL, AR) (0, 0) (QRC L FI AI AL AR x (z_save Z s).1 (some (vi (z_save Z s).2))) := by
  refine Sp.of (ls := [some (vr x), some (vi s)]) (by decide +kernel) rfl rfl ?_
  refine P_iloadn (i := 1) rfl rfl dX7_save_0 ?_
  refine P_iconst (v := 0) rfl dX7_save_1 ?_
  refine P_iconst (v := 1) rfl dX7_save_2 ?_
  refine kX7_45 rfl s_X7_isWithin (by decide) rfl dX7_save_3 (fun r3 s3 q3 => ?_)
  obtain ⟨rfl, rfl⟩ := q3
  refine P_ifne dX7_save_6 (tgt := 12) rfl (fun h6 => ?_) (fun h6 => ?_)
  · have hs := in_nn (a := 0) (b := 1) (by decide) (by decide) (b_t h6)
    have hs2 : nn s < 2 := by omega
    obtain ⟨hW, sa, hA⟩ := h.ws hs2
    obtain ⟨sb, hl⟩ := h.live
    refine P_aloadn (i := 0) rfl rfl dX7_save_12 ?_
    refine gX7_26 rfl (by first | exact h.lc.kx | exact h.lc.kh | exact h.lc.kt | exact h.lc.kv | assumption) h.lc.r227 dX7_save_13 ?_
    refine P_iloadn (i := 1) rfl rfl dX7_save_16 ?_
    refine P_aaN (t := 28) (j := nn s) (by decide) (by first | exact h.lc.kx | exact h.lc.kh | exact h.lc.kt | exact h.lc.kv | assumption) hs.2.2 (by omega) (by rw [h.lc.lt]; omega) (h.ss hs2) dX7_save_17 ?_
    refine P_aloadn (i := 0) rfl rfl dX7_save_18 ?_
    refine gX7_10 rfl (by first | exact h.lc.kx | exact h.lc.kh | exact h.lc.kt | exact h.lc.kv | assumption) h.lc.r224 dX7_save_19 ?_
    refine kX7_227 rfl (s_W_copy hW hA hl hZ.1 (by omega) (c_of_last hZ.1)) (by decide) hW.kw rfl dX7_save_22 (fun r22 s22 q22 => ?_)
    obtain ⟨F2, A2, B2, rfl, rfl, hf2, hc⟩ := q22
    refine P_aloadn (i := 0) rfl rfl dX7_save_25 ?_
    refine gX7_30 rfl (by first | exact h.lc.kx | exact h.lc.kh | exact h.lc.kt | exact h.lc.kv | assumption) h.lc.r228 dX7_save_26 ?_
    refine P_iloadn (i := 1) rfl rfl dX7_save_29 ?_
    refine P_iconst (v := 1) rfl dX7_save_30 ?_
    refine P_zsN (j := nn s) (by first | exact h.lc.kx | exact h.lc.kh | exact h.lc.kt | exact h.lc.kv | assumption) hs.2.2 (by omega) (by rw [h.lc.lv]; omega) (by first | exact Or.inl rfl | exact Or.inr rfl | assumption) dX7_save_31 ?_
    have h2 := h.saved hs2 hf2 ⟨sa, hc⟩
    obtain ⟨sc, hl2⟩ := h2.live
    refine P_aloadn (i := 0) rfl rfl dX7_save_32 ?_
    refine gX7_10 rfl (by first | exact h.lc.kx | exact h.lc.kh | exact h.lc.kt | exact h.lc.kv | assumption) h.lc.r224 dX7_save_33 ?_
    refine gX7_129 rfl hl2.wf.kw hl2.g.1 dX7_save_36 ?_
    refine P_ireturn rfl dX7_save_39 ?_
    rw [show z_save Z s = ((zX Z, zH Z, zf Z, zk Z, (fun q => if q = nn s then zX Z else zS Z q), (fun q => if q = nn s then true else zV Z q), Z.2.2.2.2.2.2), xG (zX Z) 0) from if_neg (fun hh => hh (b_t h6))]
    exact ⟨_, _, B2, AR, rfl, rfl, (FrO.fc hf2 (by omega)).uA (by omega), h2⟩
  · refine P_bipush (v := (-2)) rfl dX7_save_9 ?_
    refine P_ireturn rfl dX7_save_11 ?_
    rw [show z_save Z s = (Z, -2) from if_pos (b_f h6)]
    exact ⟨FI, AI, AL, AR, rfl, rfl, FrO.rf, h⟩
theorem g_restore (h : RC L FI AI AL AR x Z) (hZ : ZI M Z) {s : Int32} : Sp g 4 iX7_restore [vr x, vi s] (L, FI, AI, AL, AR) (0, 0) (QRC L FI AI AL AR x (z_restore Z s).1 (some (vi (z_restore Z s).2))) := by
  refine Sp.of (ls := [some (vr x), some (vi s)]) (by decide +kernel) rfl rfl ?_
  refine P_iloadn (i := 1) rfl rfl dX7_restore_0 ?_
  refine P_iconst (v := 0) rfl dX7_restore_1 ?_
  refine P_iconst (v := 1) rfl dX7_restore_2 ?_
  refine kX7_45 rfl s_X7_isWithin (by decide) rfl dX7_restore_3 (fun r3 s3 q3 => ?_)
  obtain ⟨rfl, rfl⟩ := q3
  refine P_ifne dX7_restore_6 (tgt := 12) rfl (fun h6 => ?_) (fun h6 => ?_)
  · have hs := in_nn (a := 0) (b := 1) (by decide) (by decide) (b_t h6)
    have hs2 : nn s < 2 := by omega
    refine P_aloadn (i := 0) rfl rfl dX7_restore_12 ?_
    refine gX7_30 rfl (by first | exact h.lc.kx | exact h.lc.kh | exact h.lc.kt | exact h.lc.kv | assumption) h.lc.r228 dX7_restore_13 ?_
    refine P_iloadn (i := 1) rfl rfl dX7_restore_16 ?_
    refine P_zaN (j := nn s) (by first | exact h.lc.kx | exact h.lc.kh | exact h.lc.kt | exact h.lc.kv | assumption) hs.2.2 (by omega) (by rw [h.lc.lv]; omega) (h.v hs2) dX7_restore_17 ?_
    refine P_ifne dX7_restore_18 (tgt := 24) rfl (fun h18 => ?_) (fun h18 => ?_)
    · have hV : zV Z (nn s) = true := b_t h18
      have hIS := hZ.2.2 _ hs2 hV
      refine P_aloadn (i := 0) rfl rfl dX7_restore_24 ?_
      refine gX7_22 rfl (by first | exact h.lc.kx | exact h.lc.kh | exact h.lc.kt | exact h.lc.kv | assumption) h.lc.r226 dX7_restore_25 ?_
      refine P_aloadn (i := 0) rfl rfl dX7_restore_28 ?_
      refine gX7_10 rfl (by first | exact h.lc.kx | exact h.lc.kh | exact h.lc.kt | exact h.lc.kv | assumption) h.lc.r224 dX7_restore_29 ?_
      refine kX7_49 rfl (s_keep7 h hZ.1) (by decide) h.lc.kh rfl dX7_restore_32 (fun r32 s32 q32 => ?_)
      obtain ⟨F1, A1, B1, R1, rfl, rfl, hf1, h1, -⟩ := q32
      obtain ⟨sc, hl1⟩ := h1.live
      obtain ⟨sd, hv1⟩ := h1.s hs2 hV
      refine P_aloadn (i := 0) rfl rfl dX7_restore_35 ?_
      refine gX7_10 rfl (by first | exact h.lc.kx | exact h.lc.kh | exact h.lc.kt | exact h.lc.kv | assumption) h.lc.r224 dX7_restore_36 ?_
      refine P_aloadn (i := 0) rfl rfl dX7_restore_39 ?_
      refine gX7_26 rfl (by first | exact h.lc.kx | exact h.lc.kh | exact h.lc.kt | exact h.lc.kv | assumption) h.lc.r227 dX7_restore_40 ?_
      refine P_iloadn (i := 1) rfl rfl dX7_restore_43 ?_
      refine P_aaN (t := 28) (j := nn s) (by decide) (by first | exact h.lc.kx | exact h.lc.kh | exact h.lc.kt | exact h.lc.kv | assumption) hs.2.2 (by omega) (by rw [h.lc.lt]; omega) (h1.ss hs2) dX7_restore_44 ?_
      refine kX7_227 rfl (s_W_copy hl1.wf hl1.wa hv1 hIS (by omega) (c_of_last hIS)) (by decide) hl1.wf.kw rfl dX7_restore_45 (fun r45 s45 q45 => ?_)
      obtain ⟨F2, A2, B2, rfl, rfl, hf2, hc⟩ := q45
      refine P_aloadn (i := 0) rfl rfl dX7_restore_48 ?_
      refine gX7_10 rfl (by first | exact h.lc.kx | exact h.lc.kh | exact h.lc.kt | exact h.lc.kv | assumption) h.lc.r224 dX7_restore_49 ?_
      refine gX7_129 rfl hl1.wf.kw hc.g.1 dX7_restore_52 ?_
      refine P_ireturn rfl dX7_restore_55 ?_
      rw [show z_restore Z s = (z_x (z_keep Z) (zS Z (nn s)), xG (zS Z (nn s)) 0) from (if_neg (fun hh => hh (b_t h6))).trans (if_neg (by rw [hV]; exact Bool.noConfusion))]
      exact ⟨F2, A2, B2, R1, rfl, rfl, FrO.tr hf1 (FrO.fc hf2 (by omega)), h1.up hf2 ⟨sc, hc⟩⟩
    · have hV : zV Z (nn s) = false := Bool.not_eq_true _ ▸ b_f h18
      refine P_bipush (v := (-5)) rfl dX7_restore_21 ?_
      refine P_ireturn rfl dX7_restore_23 ?_
      rw [show z_restore Z s = (Z, -5) from (if_neg (fun hh => hh (b_t h6))).trans (if_pos hV)]
      exact ⟨FI, AI, AL, AR, rfl, rfl, FrO.rf, h⟩
  · refine P_bipush (v := (-2)) rfl dX7_restore_9 ?_
    refine P_ireturn rfl dX7_restore_11 ?_
    rw [show z_restore Z s = (Z, -2) from if_pos (b_f h6)]
    exact ⟨FI, AI, AL, AR, rfl, rfl, FrO.rf, h⟩
end Cls26
