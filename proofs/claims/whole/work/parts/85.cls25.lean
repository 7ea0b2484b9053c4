theorem RC.pop {L : PL} {FI AI : Nat → Nat → Int32} {AL : Nat → Nat → Int64} {AR : Nat → Nat → Option Nat} {x : Nat} {Z : ZW} (h : RC L FI AI AL AR x Z) (hk : ¬ zk Z = 0) : RC L (p_up FI 34 (x + 1441) (Int32.ofNat (zk Z - 1))) AI AL AR x (zX Z, zH Z, zf Z, zk Z - 1, Z.2.2.2.2) := by
  have hF : ∀ {w : Nat} {X : XW}, CV L FI AI AL AR w X → (x + 1442 ≤ w ∨ w + 720 ≤ x + 1441) → CV L (p_up FI 34 (x + 1441) (Int32.ofNat (zk Z - 1))) AI AL AR w X := fun hv hw => hv.oth (fun a h1 h2 => ⟨fun j => p_up_of (by omega), rfl, rfl, rfl⟩)
  have hk6 := h.k6
  exact ⟨h.lc, h.2.1, hF h.live (by omega), h.fore, fun i hi => h.wh hi, fun i hi => h.ws hi, ⟨(p_up_n1 _ _ _ _ (by decide)).trans h.pf, h.f6, p_up_eq _ _ _ _, (show zk Z - 1 ≤ 6 by omega), fun i hi => hF (h.h (i := i) (by have h9 : i < zk Z - 1 := hi; omega)) (by omega)⟩, fun s hs => ⟨h.v hs, fun hv => hF (h.s hs hv) (by omega)⟩, ⟨(p_up_of (by omega)).trans h.pn, h.n80, fun i hi => h.c hi⟩⟩
theorem RC.saved {L : PL} {FI AI F2 A2 : Nat → Nat → Int32} {AL L2 : Nat → Nat → Int64} {AR R2 : Nat → Nat → Option Nat} {x : Nat} {Z : ZW} (h : RC L FI AI AL AR x Z) {s : Nat} (hs : s < 2) (hf : FrC (x + 5768 + 720 * s) FI AI AL AR F2 A2 L2 R2) (hc : CV L F2 A2 L2 R2 (x + 5768 + 720 * s) (zX Z)) : RC L F2 (p_up A2 (x + 5764) s 1) L2 R2 x (zX Z, zH Z, zf Z, zk Z, (fun q => if q = s then zX Z else zS Z q), (fun q => if q = s then true else zV Z q), Z.2.2.2.2.2.2) := by
  obtain ⟨e1, e2, e3, e4, e5, e6, e7⟩ := c_rest.fc (x := x) hf (Or.inr (Or.inr (Or.inr ⟨_, hs, rfl⟩)))
  have hF : ∀ {w : Nat} {X : XW}, CV L F2 A2 L2 R2 w X → (x + 5765 ≤ w ∨ w + 720 ≤ x + 5764) → CV L F2 (p_up A2 (x + 5764) s 1) L2 R2 w X := fun hv hw => hv.oth (fun a h1 h2 => ⟨fun j => rfl, p_up_oth (by omega), rfl, rfl⟩)
  refine ⟨h.lc, ⟨fun i hi => ?_, fun i hi => ?_⟩, hF (h.live.far hf (by omega)) (by omega), h.fore.far hf (by omega), fun i hi => (h.wh hi).far hf (by omega), fun i hi => ?_, ⟨e1.trans h.pf, h.f6, e2.trans h.pk, h.k6, fun i hi => hF ((h.h hi).far hf (by omega)) (by omega)⟩, fun q hq => ⟨?_, fun hv => ?_⟩, ⟨e6.trans h.pn, h.n80, fun i hi => ?_⟩⟩
  · rw [e3]; exact h.sh hi
  · rw [e4]; exact h.ss hi
  · by_cases e : i = s
    · rw [e]; exact hc.wb
    · exact (h.ws hi).far hf (by omega)
  · show p_up A2 (x + 5764) s 1 (x + 5764) q = (if (if q = s then true else zV Z q) = true then 1 else 0)
    by_cases e : q = s
    · rw [if_pos e, if_pos rfl, e]
      exact p_up_eq _ _ _ _
    · rw [if_neg e, p_up_n2 _ _ _ _ e, e5]
      exact h.v hq
  · have hv2 : (if q = s then true else zV Z q) = true := hv
    show CV L F2 (p_up A2 (x + 5764) s 1) L2 R2 (x + 5768 + 720 * q) (if q = s then zX Z else zS Z q)
    by_cases e : q = s
    · rw [if_pos e, e]
      exact hF hc (by omega)
    · rw [if_neg e] at hv2 ⊢
      exact hF ((h.s hq hv2).far hf (by omega)) (by omega)
  · rw [show p_up A2 (x + 5764) s 1 (x + 5766) i = A2 (x + 5766) i from congrFun (p_up_oth (by omega)) i, e7]
    exact h.c hi
section Cls25
variable {g : PG} {L : PL} {FI AI : Nat → Nat → Int32} {AL : Nat → Nat → Int64} {AR : Nat → Nat → Option Nat} {x : Nat} {Z : ZW} {M : Nat}
theorem g_node (h : RC L FI AI AL AR x Z) (hI : XI M (zX Z)) {n way to sp : Int32} : Sp g 4 iX7_node [vr x, vi n, vi way, vi to, vi sp] (L, FI, AI, AL, AR) (0, 0) (QRC L FI AI AL AR x (z_node Z n way to sp).1 (some (vi (z_node Z n way to sp).2))) := by
  refine Sp.of (ls := [some (vr x), some (vi n), some (vi way), some (vi to), some (vi sp), none, none]) (by decide +kernel) rfl rfl ?_
  obtain ⟨sb, hl⟩ := h.live
  have hb16 := h.live.elim (fun _ q => q.b16)
  refine P_aloadn (i := 0) rfl rfl dX7_node_0 ?_
  refine gX7_10 rfl (by first | exact h.lc.kx | exact h.lc.kh | exact h.lc.kt | exact h.lc.kv | assumption) h.lc.r224 dX7_node_1 ?_
  refine P_iloadn (i := 1) rfl rfl dX7_node_4 ?_
  refine kX7_41 rfl (s_nodeAt hl) (by decide) hl.wf.kw rfl dX7_node_5 (fun r5 s5 q5 => ?_)
  obtain ⟨rfl, rfl⟩ := q5
  obtain ⟨rb, hrb⟩ : ∃ rb : Option Nat, rb = (if q_ib n 8 = true then some (x + 1 + 7 + 2 * nn n) else none) := ⟨_, rfl⟩
  rw [← hrb]
  refine P_as5 (Or.inr dX7_node_8) rfl rfl ?_
  refine P_aload (i := 5) rfl dX7_node_10 ?_
  refine P_ifnonnull dX7_node_12 (tgt := 17) rfl (fun a12 h12 => ?_) (fun h12 => ?_)
  · have hc : q_ib n 8 = true := Decidable.byContradiction fun hh => by rw [if_neg hh] at hrb; rw [hrb] at h12; cases h12
    have hae : a12 = x + 1 + 7 + 2 * nn n := by
      rw [if_pos hc] at hrb
      rw [hrb] at h12
      exact (Option.some.inj h12).symm
    subst h12
    subst hae
    have hn8 : nn n < 8 := (q_ib_iff.mp hc).nn
    have hkn := hl.wf.kN hn8
    refine P_iloadn (i := 2) rfl rfl dX7_node_17 ?_
    refine P_iconst (v := 0) rfl dX7_node_18 ?_
    refine P_iconst (v := 2) rfl dX7_node_19 ?_
    refine kX7_45 rfl s_X7_isWithin (by decide) rfl dX7_node_20 (fun r20 s20 q20 => ?_)
    obtain ⟨rfl, rfl⟩ := q20
    refine P_ifeq dX7_node_23 (tgt := 50) rfl (fun h23 => ?_) (fun h23 => ?_)
    · refine P_bipush (v := (-2)) rfl dX7_node_50 ?_
      refine P_ireturn rfl dX7_node_52 ?_
      rw [show z_node Z n way to sp = (Z, -2) from (if_neg (fun hh => hh hc)).trans (if_pos (fun hh => b_f h23 hh.1))]
      exact ⟨FI, AI, AL, AR, rfl, rfl, FrO.rf, h⟩
    · refine P_iloadn (i := 3) rfl rfl dX7_node_26 ?_
      refine P_iconst (v := 1) rfl dX7_node_27 ?_
      refine P_sipush (v := 500) rfl dX7_node_28 ?_
      refine kX7_45 rfl s_X7_isWithin (by decide) rfl dX7_node_31 (fun r31 s31 q31 => ?_)
      obtain ⟨rfl, rfl⟩ := q31
      refine P_ifeq dX7_node_34 (tgt := 50) rfl (fun h34 => ?_) (fun h34 => ?_)
      · refine P_bipush (v := (-2)) rfl dX7_node_50 ?_
        refine P_ireturn rfl dX7_node_52 ?_
        rw [show z_node Z n way to sp = (Z, -2) from (if_neg (fun hh => hh hc)).trans (if_pos (fun hh => b_f h34 hh.2.1))]
        exact ⟨FI, AI, AL, AR, rfl, rfl, FrO.rf, h⟩
      · refine P_iload (i := 4) rfl dX7_node_37 ?_
        refine P_bipush (v := 64) rfl dX7_node_39 ?_
        refine P_sipush (v := 20000) rfl dX7_node_41 ?_
        refine kX7_45 rfl s_X7_isWithin (by decide) rfl dX7_node_44 (fun r44 s44 q44 => ?_)
        obtain ⟨rfl, rfl⟩ := q44
        refine P_ifne dX7_node_47 (tgt := 53) rfl (fun h47 => ?_) (fun h47 => ?_)
        · refine P_aloadn (i := 0) rfl rfl dX7_node_53 ?_
          refine gX7_22 rfl (by first | exact h.lc.kx | exact h.lc.kh | exact h.lc.kt | exact h.lc.kv | assumption) h.lc.r226 dX7_node_54 ?_
          refine P_aloadn (i := 0) rfl rfl dX7_node_57 ?_
          refine gX7_10 rfl (by first | exact h.lc.kx | exact h.lc.kh | exact h.lc.kt | exact h.lc.kv | assumption) h.lc.r224 dX7_node_58 ?_
          refine kX7_49 rfl (s_keep7 h hI) (by decide) h.lc.kh rfl dX7_node_61 (fun r61 s61 q61 => ?_)
          obtain ⟨F1, A1, B1, R1, rfl, rfl, hf1, h1, -⟩ := q61
          obtain ⟨sc, hl1⟩ := h1.live
          have hl2 : CW L F1 A1 B1 R1 (x + 1) (zX Z) (c_of (xS (zX Z))) (xS (zX Z)).length sc := hl1
          refine P_aload (i := 5) rfl dX7_node_64 ?_
          refine gX7_53 rfl (by first | exact h.lc.kx | exact h.lc.kh | exact h.lc.kt | exact h.lc.kv | assumption) (hl2.n _ hn8).1 dX7_node_66 ?_
          refine P_is6 (Or.inr dX7_node_69) rfl rfl ?_
          refine P_aload (i := 5) rfl dX7_node_71 ?_
          refine P_iloadn (i := 2) rfl rfl dX7_node_73 ?_
          refine uX7_53 rfl (by first | exact h.lc.kx | exact h.lc.kh | exact h.lc.kt | exact h.lc.kv | assumption) dX7_node_74 ?_
          refine P_aload (i := 5) rfl dX7_node_77 ?_
          refine P_iloadn (i := 3) rfl rfl dX7_node_79 ?_
          refine uX7_59 rfl (by first | exact h.lc.kx | exact h.lc.kh | exact h.lc.kt | exact h.lc.kv | assumption) dX7_node_80 ?_
          refine P_aload (i := 5) rfl dX7_node_83 ?_
          refine P_iload (i := 4) rfl dX7_node_85 ?_
          refine uX7_62 rfl (by first | exact h.lc.kx | exact h.lc.kh | exact h.lc.kt | exact h.lc.kv | assumption) dX7_node_87 ?_
          refine P_iload (i := 6) rfl dX7_node_90 ?_
          refine P_ireturn rfl dX7_node_92 ?_
          rw [show z_node Z n way to sp = (z_x (z_keep Z) (x_n (x_n (x_n (zX Z) (nn n) 0 way) (nn n) 1 to) (nn n) 2 sp), xN (zX Z) (nn n) 0) from (if_neg (fun hh => hh hc)).trans (if_neg (fun hh => hh ⟨b_t h23, b_t h34, b_t h47⟩))]
          have hcw : CW L _ A1 B1 R1 (x + 1) (x_n (x_n (x_n (zX Z) (nn n) 0 way) (nn n) 1 to) (nn n) 2 sp) (c_of (xS (zX Z))) (xS (zX Z)).length sc := ((hl2.nod hn8 (show 0 < 3 by decide) way).nod hn8 (show 1 < 3 by decide) to).nod hn8 (show 2 < 3 by decide) sp
          have hfc : FrC (x + 1) F1 A1 B1 R1 (p_up (p_up (p_up F1 64 (x + 1 + 7 + 2 * nn n) way) 65 (x + 1 + 7 + 2 * nn n) to) 66 (x + 1 + 7 + 2 * nn n) sp) A1 B1 R1 := (((FrC.rf.uF (by omega)).uF (by omega)).uF (by omega))
          exact ⟨_, A1, B1, R1, rfl, rfl, FrO.tr hf1 (FrO.fc hfc (by omega)), h1.up hfc ⟨sc, hcw⟩⟩
        · refine P_bipush (v := (-2)) rfl dX7_node_50 ?_
          refine P_ireturn rfl dX7_node_52 ?_
          rw [show z_node Z n way to sp = (Z, -2) from (if_neg (fun hh => hh hc)).trans (if_pos (fun hh => b_f h47 hh.2.2))]
          exact ⟨FI, AI, AL, AR, rfl, rfl, FrO.rf, h⟩
  · have hc : ¬ q_ib n 8 = true := fun hh => by
      rw [if_pos hh] at hrb
      rw [hrb] at h12
      cases h12
    refine P_iconst (v := (-1)) rfl dX7_node_15 ?_
    refine P_ireturn rfl dX7_node_16 ?_
    rw [show z_node Z n way to sp = (Z, -1) from if_pos hc]
    exact ⟨FI, AI, AL, AR, rfl, rfl, FrO.rf, h⟩
theorem g_mend (h : RC L FI AI AL AR x Z) (hI : XI M (zX Z)) {b room turns : Int32} : Sp g 4 iX7_mend [vr x, vi b, vi room, vi turns] (L, FI, AI, AL, AR) (0, 0) (QRC L FI AI AL AR x (z_mend Z b room turns).1 (some (vi (z_mend Z b room turns).2))) := by
  refine Sp.of (ls := [some (vr x), some (vi b), some (vi room), some (vi turns), none, none]) (by decide +kernel) rfl rfl ?_
  obtain ⟨sb, hl⟩ := h.live
  have hb16 := h.live.elim (fun _ q => q.b16)
  refine P_aloadn (i := 0) rfl rfl dX7_mend_0 ?_
  refine gX7_10 rfl (by first | exact h.lc.kx | exact h.lc.kh | exact h.lc.kt | exact h.lc.kv | assumption) h.lc.r224 dX7_mend_1 ?_
  refine P_iloadn (i := 1) rfl rfl dX7_mend_4 ?_
  refine kX7_97 rfl (s_bridgeAt hl) (by decide) hl.wf.kw rfl dX7_mend_5 (fun r5 s5 q5 => ?_)
  obtain ⟨rfl, rfl⟩ := q5
  obtain ⟨rb, hrb⟩ : ∃ rb : Option Nat, rb = (if q_ib b (xb (zX Z)) = true then some (x + 1 + 23 + nn b) else none) := ⟨_, rfl⟩
  rw [← hrb]
  refine P_as4 (Or.inr dX7_mend_8) rfl rfl ?_
  refine P_aload (i := 4) rfl dX7_mend_10 ?_
  refine P_ifnonnull dX7_mend_12 (tgt := 17) rfl (fun a12 h12 => ?_) (fun h12 => ?_)
  · have hc : q_ib b (xb (zX Z)) = true := Decidable.byContradiction fun hh => by rw [if_neg hh] at hrb; rw [hrb] at h12; cases h12
    have hae : a12 = x + 1 + 23 + nn b := by
      rw [if_pos hc] at hrb
      rw [hrb] at h12
      exact (Option.some.inj h12).symm
    subst h12
    subst hae
    have hbx : nn b < xb (zX Z) := (q_ib_iff.mp hc).nn
    have hkb := hl.wf.kB (i := nn b) (by omega)
    refine P_iloadn (i := 2) rfl rfl dX7_mend_17 ?_
    refine kX7_69 rfl s_isRoom (by decide) rfl dX7_mend_18 (fun r18 s18 q18 => ?_)
    obtain ⟨rfl, rfl⟩ := q18
    refine P_ifeq dX7_mend_21 (tgt := 34) rfl (fun h21 => ?_) (fun h21 => ?_)
    · refine P_bipush (v := (-2)) rfl dX7_mend_34 ?_
      refine P_ireturn rfl dX7_mend_36 ?_
      rw [show z_mend Z b room turns = (Z, -2) from (if_neg (fun hh => hh hc)).trans (if_pos (fun hh => b_f h21 hh.1))]
      exact ⟨FI, AI, AL, AR, rfl, rfl, FrO.rf, h⟩
    · refine P_iloadn (i := 3) rfl rfl dX7_mend_24 ?_
      refine P_iconst (v := 0) rfl dX7_mend_25 ?_
      refine P_bipush (v := 99) rfl dX7_mend_26 ?_
      refine kX7_45 rfl s_X7_isWithin (by decide) rfl dX7_mend_28 (fun r28 s28 q28 => ?_)
      obtain ⟨rfl, rfl⟩ := q28
      refine P_ifne dX7_mend_31 (tgt := 37) rfl (fun h31 => ?_) (fun h31 => ?_)
      · refine P_aloadn (i := 0) rfl rfl dX7_mend_37 ?_
        refine gX7_22 rfl (by first | exact h.lc.kx | exact h.lc.kh | exact h.lc.kt | exact h.lc.kv | assumption) h.lc.r226 dX7_mend_38 ?_
        refine P_aloadn (i := 0) rfl rfl dX7_mend_41 ?_
        refine gX7_10 rfl (by first | exact h.lc.kx | exact h.lc.kh | exact h.lc.kt | exact h.lc.kv | assumption) h.lc.r224 dX7_mend_42 ?_
        refine kX7_49 rfl (s_keep7 h hI) (by decide) h.lc.kh rfl dX7_mend_45 (fun r45 s45 q45 => ?_)
        obtain ⟨F1, A1, B1, R1, rfl, rfl, hf1, h1, -⟩ := q45
        obtain ⟨sc, hl1⟩ := h1.live
        have hl2 : CW L F1 A1 B1 R1 (x + 1) (zX Z) (c_of (xS (zX Z))) (xS (zX Z)).length sc := hl1
        refine P_aload (i := 4) rfl dX7_mend_48 ?_
        refine gX7_88 rfl (by first | exact h.lc.kx | exact h.lc.kh | exact h.lc.kt | exact h.lc.kv | assumption) ((hl2.b _ (by omega)).1 hbx 2 (by decide)) dX7_mend_50 ?_
        refine P_is5 (Or.inr dX7_mend_53) rfl rfl ?_
        refine P_aload (i := 4) rfl dX7_mend_55 ?_
        refine P_iloadn (i := 2) rfl rfl dX7_mend_57 ?_
        refine uX7_88 rfl (by first | exact h.lc.kx | exact h.lc.kh | exact h.lc.kt | exact h.lc.kv | assumption) dX7_mend_58 ?_
        refine P_aload (i := 4) rfl dX7_mend_61 ?_
        refine P_iloadn (i := 3) rfl rfl dX7_mend_63 ?_
        refine uX7_101 rfl (by first | exact h.lc.kx | exact h.lc.kh | exact h.lc.kt | exact h.lc.kv | assumption) dX7_mend_64 ?_
        refine P_aload (i := 4) rfl dX7_mend_67 ?_
        refine P_iconst (v := 0) rfl dX7_mend_69 ?_
        refine uX7_104 rfl (by first | exact h.lc.kx | exact h.lc.kh | exact h.lc.kt | exact h.lc.kv | assumption) dX7_mend_70 ?_
        refine P_iload (i := 5) rfl dX7_mend_73 ?_
        refine P_ireturn rfl dX7_mend_75 ?_
        rw [show z_mend Z b room turns = (z_x (z_keep Z) (x_b (x_b (x_b (zX Z) (nn b) 2 room) (nn b) 5 turns) (nn b) 6 0), xB (zX Z) (nn b) 2) from (if_neg (fun hh => hh hc)).trans (if_neg (fun hh => hh ⟨b_t h21, b_t h31⟩))]
        have hcw : CW L _ A1 B1 R1 (x + 1) (x_b (x_b (x_b (zX Z) (nn b) 2 room) (nn b) 5 turns) (nn b) 6 0) (c_of (xS (zX Z))) (xS (zX Z)).length sc := ((hl2.bri hbx (show 2 < 9 by decide) room).bri hbx (show 5 < 9 by decide) turns).bri hbx (show 6 < 9 by decide) 0
        have hfc : FrC (x + 1) F1 A1 B1 R1 (p_up (p_up (p_up F1 2 (x + 1 + 23 + nn b) room) 5 (x + 1 + 23 + nn b) turns) 6 (x + 1 + 23 + nn b) 0) A1 B1 R1 := (((FrC.rf.uF (by omega)).uF (by omega)).uF (by omega))
        exact ⟨_, A1, B1, R1, rfl, rfl, FrO.tr hf1 (FrO.fc hfc (by omega)), h1.up hfc ⟨sc, hcw⟩⟩
      · refine P_bipush (v := (-2)) rfl dX7_mend_34 ?_
        refine P_ireturn rfl dX7_mend_36 ?_
        rw [show z_mend Z b room turns = (Z, -2) from (if_neg (fun hh => hh hc)).trans (if_pos (fun hh => b_f h31 hh.2))]
        exact ⟨FI, AI, AL, AR, rfl, rfl, FrO.rf, h⟩
  · have hc : ¬ q_ib b (xb (zX Z)) = true := fun hh => by
      rw [if_pos hh] at hrb
      rw [hrb] at h12
      cases h12
    refine P_iconst (v := (-1)) rfl dX7_mend_15 ?_
    refine P_ireturn rfl dX7_mend_16 ?_
    rw [show z_mend Z b room turns = (Z, -1) from if_pos hc]
    exact ⟨FI, AI, AL, AR, rfl, rfl, FrO.rf, h⟩
theorem g_route (h : RC L FI AI AL AR x Z) (hI : XI M (zX Z)) {n to b : Int32} : Sp g 4 iX7_route [vr x, vi n, vi to, vi b] (L, FI, AI, AL, AR) (0, 0) (QRC L FI AI AL AR x (z_route Z n to b).1 (some (vi (z_route Z n to b).2))) := by
  refine Sp.of (ls := [some (vr x), some (vi n), some (vi to), some (vi b), none, none, none]) (by decide +kernel) rfl rfl ?_
  obtain ⟨sb, hl⟩ := h.live
  have hb16 := h.live.elim (fun _ q => q.b16)
  refine P_aloadn (i := 0) rfl rfl dX7_route_0 ?_
  refine gX7_10 rfl (by first | exact h.lc.kx | exact h.lc.kh | exact h.lc.kt | exact h.lc.kv | assumption) h.lc.r224 dX7_route_1 ?_
  refine P_iloadn (i := 1) rfl rfl dX7_route_4 ?_
  refine kX7_41 rfl (s_nodeAt hl) (by decide) hl.wf.kw rfl dX7_route_5 (fun r5 s5 q5 => ?_)
  obtain ⟨rfl, rfl⟩ := q5
  obtain ⟨rb, hrb⟩ : ∃ rb : Option Nat, rb = (if q_ib n 8 = true then some (x + 1 + 7 + 2 * nn n) else none) := ⟨_, rfl⟩
  rw [← hrb]
  refine P_as4 (Or.inr dX7_route_8) rfl rfl ?_
  refine P_aload (i := 4) rfl dX7_route_10 ?_
  refine P_ifnull dX7_route_12 (tgt := 23) rfl (fun h12 => ?_) (fun a12 h12 => ?_)
  · have hc : ¬ q_ib n 8 = true := fun hh => by
      rw [if_pos hh] at hrb
      rw [hrb] at h12
      cases h12
    refine P_iconst (v := (-1)) rfl dX7_route_23 ?_
    refine P_ireturn rfl dX7_route_24 ?_
    rw [show z_route Z n to b = (Z, -1) from if_pos (Or.inl (fun hh => hc hh.1))]
    exact ⟨FI, AI, AL, AR, rfl, rfl, FrO.rf, h⟩
  · have hc : q_ib n 8 = true := Decidable.byContradiction fun hh => by rw [if_neg hh] at hrb; rw [hrb] at h12; cases h12
    have hae : a12 = x + 1 + 7 + 2 * nn n := by
      rw [if_pos hc] at hrb
      rw [hrb] at h12
      exact (Option.some.inj h12).symm
    subst h12
    subst hae
    have hn8 : nn n < 8 := (q_ib_iff.mp hc).nn
    have hkn := hl.wf.kN hn8
    refine P_iloadn (i := 1) rfl rfl dX7_route_15 ?_
    refine P_iloadn (i := 2) rfl rfl dX7_route_16 ?_
    refine kX7_65 rfl s_isPair (by decide) rfl dX7_route_17 (fun r17 s17 q17 => ?_)
    obtain ⟨rfl, rfl⟩ := q17
    refine P_ifne dX7_route_20 (tgt := 25) rfl (fun h20 => ?_) (fun h20 => ?_)
    · have hpr0 := b_t h20
      have hpr : ib n 8 ∧ ib to 8 := ⟨q_ib_iff.mp hpr0.1, q_ib_iff.mp hpr0.2.1⟩
      have hto8 := hpr.2.nn
      refine P_aloadn (i := 0) rfl rfl dX7_route_25 ?_
      refine gX7_10 rfl (by first | exact h.lc.kx | exact h.lc.kh | exact h.lc.kt | exact h.lc.kv | assumption) h.lc.r224 dX7_route_26 ?_
      refine P_iloadn (i := 3) rfl rfl dX7_route_29 ?_
      refine kX7_97 rfl (s_bridgeAt hl) (by decide) hl.wf.kw rfl dX7_route_30 (fun r30 s30 q30 => ?_)
      obtain ⟨rfl, rfl⟩ := q30
      obtain ⟨rd, hrd⟩ : ∃ rd : Option Nat, rd = (if q_ib b (xb (zX Z)) = true then some (x + 1 + 23 + nn b) else none) := ⟨_, rfl⟩
      rw [← hrd]
      refine P_as5 (Or.inr dX7_route_33) rfl rfl ?_
      refine P_aload (i := 5) rfl dX7_route_35 ?_
      refine P_ifnonnull dX7_route_37 (tgt := 48) rfl (fun a37 h37 => ?_) (fun h37 => ?_)
      · have hd : q_ib b (xb (zX Z)) = true := Decidable.byContradiction fun hh => by rw [if_neg hh] at hrd; rw [hrd] at h37; cases h37
        have hde : a37 = x + 1 + 23 + nn b := by
          rw [if_pos hd] at hrd
          rw [hrd] at h37
          exact (Option.some.inj h37).symm
        subst h37
        subst hde
        have hbx : nn b < xb (zX Z) := (q_ib_iff.mp hd).nn
        have hkb := hl.wf.kB (i := nn b) (by omega)
        have hb6 : ¬ b = -6 := fun hh => by rw [hh] at hd; exact absurd (q_ib_iff.mp hd).1 (by decide)
        refine P_aload (i := 5) rfl dX7_route_48 ?_
        refine P_ifnull dX7_route_50 (tgt := 65) rfl (fun h50 => by cases h50) (fun a50 h50 => ?_)
        cases h50
        refine P_aload (i := 5) rfl dX7_route_53 ?_
        refine gX7_80 rfl (by first | exact h.lc.kx | exact h.lc.kh | exact h.lc.kt | exact h.lc.kv | assumption) ((hl.b _ (by omega)).1 hbx 0 (by decide)) dX7_route_55 ?_
        refine P_iloadn (i := 1) rfl rfl dX7_route_58 ?_
        refine P_icmpeq dX7_route_59 (tgt := 65) rfl (fun h59 => ?_) (fun h59 => ?_)
        · refine P_aloadn (i := 0) rfl rfl dX7_route_65 ?_
          refine gX7_22 rfl (by first | exact h.lc.kx | exact h.lc.kh | exact h.lc.kt | exact h.lc.kv | assumption) h.lc.r226 dX7_route_66 ?_
          refine P_aloadn (i := 0) rfl rfl dX7_route_69 ?_
          refine gX7_10 rfl (by first | exact h.lc.kx | exact h.lc.kh | exact h.lc.kt | exact h.lc.kv | assumption) h.lc.r224 dX7_route_70 ?_
          refine kX7_49 rfl (s_keep7 h hI) (by decide) h.lc.kh rfl dX7_route_73 (fun r73 s73 q73 => ?_)
          obtain ⟨F1, A1, B1, R1, rfl, rfl, hf1, h1, -⟩ := q73
          obtain ⟨sc, hl1⟩ := h1.live
          have hl2 : CW L F1 A1 B1 R1 (x + 1) (zX Z) (c_of (xS (zX Z))) (xS (zX Z)).length sc := hl1
          refine P_aload (i := 4) rfl dX7_route_76 ?_
          refine gX7_107 rfl (by first | exact h.lc.kx | exact h.lc.kh | exact h.lc.kt | exact h.lc.kv | assumption) (hl.wf.rN hn8) dX7_route_78 ?_
          refine P_iloadn (i := 2) rfl rfl dX7_route_81 ?_
          refine P_iaN (j := nn to) (hl.wf.kR hn8) hpr.2.eq (by omega) (by rw [hl.wf.lR hn8]; exact hto8) ((hl2.n _ hn8).2.2.2 _ hto8) dX7_route_82 ?_
          refine P_is6 (Or.inr dX7_route_83) rfl rfl ?_
          refine P_aload (i := 4) rfl dX7_route_85 ?_
          refine gX7_107 rfl (by first | exact h.lc.kx | exact h.lc.kh | exact h.lc.kt | exact h.lc.kv | assumption) (hl.wf.rN hn8) dX7_route_87 ?_
          refine P_iloadn (i := 2) rfl rfl dX7_route_90 ?_
          refine P_iloadn (i := 3) rfl rfl dX7_route_91 ?_
          refine P_isN (j := nn to) (hl.wf.kR hn8) hpr.2.eq (by omega) (by rw [hl.wf.lR hn8]; exact hto8) dX7_route_92 ?_
          refine P_iload (i := 6) rfl dX7_route_93 ?_
          refine P_ireturn rfl dX7_route_95 ?_
          rw [show z_route Z n to b = (z_x (z_keep Z) (x_n (zX Z) (nn n) (3 + nn to) b), xN (zX Z) (nn n) (3 + nn to)) from (if_neg (fun hh => hh.elim (fun q => q (b_t h20)) (fun q => q.2 hd))).trans (if_neg (fun hh => hh.2 h59))]
          have hcw : CW L F1 _ B1 R1 (x + 1) (x_n (zX Z) (nn n) (3 + nn to) b) (c_of (xS (zX Z))) (xS (zX Z)).length sc := hl2.rou hn8 hto8 b
          have hfc : FrC (x + 1) F1 A1 B1 R1 F1 (p_up A1 (x + 1 + 8 + 2 * nn n) (nn to) b) B1 R1 := FrC.rf.uA (by omega)
          exact ⟨F1, _, B1, R1, rfl, rfl, FrO.tr hf1 (FrO.fc hfc (by omega)), h1.up hfc ⟨sc, hcw⟩⟩
        · refine P_bipush (v := (-5)) rfl dX7_route_62 ?_
          refine P_ireturn rfl dX7_route_64 ?_
          rw [show z_route Z n to b = (Z, -5) from (if_neg (fun hh => hh.elim (fun q => q (b_t h20)) (fun q => q.2 hd))).trans (if_pos ⟨hb6, h59⟩)]
          exact ⟨FI, AI, AL, AR, rfl, rfl, FrO.rf, h⟩
      · have hd : ¬ q_ib b (xb (zX Z)) = true := fun hh => by
          rw [if_pos hh] at hrd
          rw [hrd] at h37
          cases h37
        subst h37
        refine P_iloadn (i := 3) rfl rfl dX7_route_40 ?_
        refine P_bipush (v := (-6)) rfl dX7_route_41 ?_
        refine P_icmpeq dX7_route_43 (tgt := 48) rfl (fun h43 => ?_) (fun h43 => ?_)
        · refine P_aload (i := 5) rfl dX7_route_48 ?_
          refine P_ifnull dX7_route_50 (tgt := 65) rfl (fun h50 => ?_) (fun a50 h50 => by cases h50)
          refine P_aloadn (i := 0) rfl rfl dX7_route_65 ?_
          refine gX7_22 rfl (by first | exact h.lc.kx | exact h.lc.kh | exact h.lc.kt | exact h.lc.kv | assumption) h.lc.r226 dX7_route_66 ?_
          refine P_aloadn (i := 0) rfl rfl dX7_route_69 ?_
          refine gX7_10 rfl (by first | exact h.lc.kx | exact h.lc.kh | exact h.lc.kt | exact h.lc.kv | assumption) h.lc.r224 dX7_route_70 ?_
          refine kX7_49 rfl (s_keep7 h hI) (by decide) h.lc.kh rfl dX7_route_73 (fun r73 s73 q73 => ?_)
          obtain ⟨F1, A1, B1, R1, rfl, rfl, hf1, h1, -⟩ := q73
          obtain ⟨sc, hl1⟩ := h1.live
          have hl2 : CW L F1 A1 B1 R1 (x + 1) (zX Z) (c_of (xS (zX Z))) (xS (zX Z)).length sc := hl1
          refine P_aload (i := 4) rfl dX7_route_76 ?_
          refine gX7_107 rfl (by first | exact h.lc.kx | exact h.lc.kh | exact h.lc.kt | exact h.lc.kv | assumption) (hl.wf.rN hn8) dX7_route_78 ?_
          refine P_iloadn (i := 2) rfl rfl dX7_route_81 ?_
          refine P_iaN (j := nn to) (hl.wf.kR hn8) hpr.2.eq (by omega) (by rw [hl.wf.lR hn8]; exact hto8) ((hl2.n _ hn8).2.2.2 _ hto8) dX7_route_82 ?_
          refine P_is6 (Or.inr dX7_route_83) rfl rfl ?_
          refine P_aload (i := 4) rfl dX7_route_85 ?_
          refine gX7_107 rfl (by first | exact h.lc.kx | exact h.lc.kh | exact h.lc.kt | exact h.lc.kv | assumption) (hl.wf.rN hn8) dX7_route_87 ?_
          refine P_iloadn (i := 2) rfl rfl dX7_route_90 ?_
          refine P_iloadn (i := 3) rfl rfl dX7_route_91 ?_
          refine P_isN (j := nn to) (hl.wf.kR hn8) hpr.2.eq (by omega) (by rw [hl.wf.lR hn8]; exact hto8) dX7_route_92 ?_
          refine P_iload (i := 6) rfl dX7_route_93 ?_
          refine P_ireturn rfl dX7_route_95 ?_
          rw [show z_route Z n to b = (z_x (z_keep Z) (x_n (zX Z) (nn n) (3 + nn to) b), xN (zX Z) (nn n) (3 + nn to)) from (if_neg (fun hh => hh.elim (fun q => q (b_t h20)) (fun q => q.1 h43))).trans (if_neg (fun hh => hh.1 h43))]
          have hcw : CW L F1 _ B1 R1 (x + 1) (x_n (zX Z) (nn n) (3 + nn to) b) (c_of (xS (zX Z))) (xS (zX Z)).length sc := hl2.rou hn8 hto8 b
          have hfc : FrC (x + 1) F1 A1 B1 R1 F1 (p_up A1 (x + 1 + 8 + 2 * nn n) (nn to) b) B1 R1 := FrC.rf.uA (by omega)
          exact ⟨F1, _, B1, R1, rfl, rfl, FrO.tr hf1 (FrO.fc hfc (by omega)), h1.up hfc ⟨sc, hcw⟩⟩
        · refine P_iconst (v := (-1)) rfl dX7_route_46 ?_
          refine P_ireturn rfl dX7_route_47 ?_
          rw [show z_route Z n to b = (Z, -1) from if_pos (Or.inr ⟨h43, hd⟩)]
          exact ⟨FI, AI, AL, AR, rfl, rfl, FrO.rf, h⟩
    · refine P_iconst (v := (-1)) rfl dX7_route_23 ?_
      refine P_ireturn rfl dX7_route_24 ?_
      rw [show z_route Z n to b = (Z, -1) from if_pos (Or.inl (b_f h20))]
      exact ⟨FI, AI, AL, AR, rfl, rfl, FrO.rf, h⟩
theorem g_bridge (h : RC L FI AI AL AR x Z) (hI : XI M (zX Z)) {from_ to room delay pace : Int32} : Sp g 4 iX7_bridge [vr x, vi from_, vi to, vi room, vi delay, vi pace] (L, FI, AI, AL, AR) (0, 0) (QRC L FI AI AL AR x (z_bridge Z from_ to room delay pace).1 (some (vi (z_bridge Z from_ to room delay pace).2))) := by
  refine Sp.of (ls := [some (vr x), some (vi from_), some (vi to), some (vi room), some (vi delay), some (vi pace), none]) (by decide +kernel) rfl rfl ?_
  obtain ⟨sb, hl⟩ := h.live
  have hb16 := h.live.elim (fun _ q => q.b16)
  refine P_iloadn (i := 1) rfl rfl dX7_bridge_0 ?_
  refine P_iloadn (i := 2) rfl rfl dX7_bridge_1 ?_
  refine kX7_65 rfl s_isPair (by decide) rfl dX7_bridge_2 (fun r2 s2 q2 => ?_)
  obtain ⟨rfl, rfl⟩ := q2
  refine P_ifne dX7_bridge_5 (tgt := 10) rfl (fun h5 => ?_) (fun h5 => ?_)
  · refine P_iloadn (i := 3) rfl rfl dX7_bridge_10 ?_
    refine kX7_69 rfl s_isRoom (by decide) rfl dX7_bridge_11 (fun r11 s11 q11 => ?_)
    obtain ⟨rfl, rfl⟩ := q11
    refine P_ifeq dX7_bridge_14 (tgt := 40) rfl (fun h14 => ?_) (fun h14 => ?_)
    · refine P_bipush (v := (-2)) rfl dX7_bridge_40 ?_
      refine P_ireturn rfl dX7_bridge_42 ?_
      rw [show z_bridge Z from_ to room delay pace = (Z, -2) from (if_neg (fun hh => hh (b_t h5))).trans (if_pos (fun hh => b_f h14 hh.1))]
      exact ⟨FI, AI, AL, AR, rfl, rfl, FrO.rf, h⟩
    · refine P_iload (i := 4) rfl dX7_bridge_17 ?_
      refine P_iconst (v := 1) rfl dX7_bridge_19 ?_
      refine P_bipush (v := 50) rfl dX7_bridge_20 ?_
      refine kX7_45 rfl s_X7_isWithin (by decide) rfl dX7_bridge_22 (fun r22 s22 q22 => ?_)
      obtain ⟨rfl, rfl⟩ := q22
      refine P_ifeq dX7_bridge_25 (tgt := 40) rfl (fun h25 => ?_) (fun h25 => ?_)
      · refine P_bipush (v := (-2)) rfl dX7_bridge_40 ?_
        refine P_ireturn rfl dX7_bridge_42 ?_
        rw [show z_bridge Z from_ to room delay pace = (Z, -2) from (if_neg (fun hh => hh (b_t h5))).trans (if_pos (fun hh => b_f h25 hh.2.1))]
        exact ⟨FI, AI, AL, AR, rfl, rfl, FrO.rf, h⟩
      · refine P_iload (i := 5) rfl dX7_bridge_28 ?_
        refine P_iconst (v := 1) rfl dX7_bridge_30 ?_
        refine P_sipush (v := 1000) rfl dX7_bridge_31 ?_
        refine kX7_45 rfl s_X7_isWithin (by decide) rfl dX7_bridge_34 (fun r34 s34 q34 => ?_)
        obtain ⟨rfl, rfl⟩ := q34
        refine P_ifne dX7_bridge_37 (tgt := 43) rfl (fun h37 => ?_) (fun h37 => ?_)
        · refine P_aloadn (i := 0) rfl rfl dX7_bridge_43 ?_
          refine gX7_10 rfl (by first | exact h.lc.kx | exact h.lc.kh | exact h.lc.kt | exact h.lc.kv | assumption) h.lc.r224 dX7_bridge_44 ?_
          refine gX7_73 rfl hl.wf.kw hl.g.2.1 dX7_bridge_47 ?_
          refine P_bipush (v := 16) rfl dX7_bridge_50 ?_
          refine P_icmplt dX7_bridge_52 (tgt := 58) rfl (fun h52 => ?_) (fun h52 => ?_)
          · have hb := (n_lt (a := xb (zX Z)) (b := 16) (by omega) (by omega)).mp h52
            have hkb := hl.wf.kB hb
            refine P_aloadn (i := 0) rfl rfl dX7_bridge_58 ?_
            refine gX7_22 rfl (by first | exact h.lc.kx | exact h.lc.kh | exact h.lc.kt | exact h.lc.kv | assumption) h.lc.r226 dX7_bridge_59 ?_
            refine P_aloadn (i := 0) rfl rfl dX7_bridge_62 ?_
            refine gX7_10 rfl (by first | exact h.lc.kx | exact h.lc.kh | exact h.lc.kt | exact h.lc.kv | assumption) h.lc.r224 dX7_bridge_63 ?_
            refine kX7_49 rfl (s_keep7 h hI) (by decide) h.lc.kh rfl dX7_bridge_66 (fun r66 s66 q66 => ?_)
            obtain ⟨F1, A1, B1, R1, rfl, rfl, hf1, h1, -⟩ := q66
            obtain ⟨sc, hl1⟩ := h1.live
            have hl2 : CW L F1 A1 B1 R1 (x + 1) (zX Z) (c_of (xS (zX Z))) (xS (zX Z)).length sc := hl1
            refine P_aloadn (i := 0) rfl rfl dX7_bridge_69 ?_
            refine gX7_10 rfl (by first | exact h.lc.kx | exact h.lc.kh | exact h.lc.kt | exact h.lc.kv | assumption) h.lc.r224 dX7_bridge_70 ?_
            refine gX7_76 rfl hl.wf.kw hl.wf.r196 dX7_bridge_73 ?_
            refine P_aloadn (i := 0) rfl rfl dX7_bridge_76 ?_
            refine gX7_10 rfl (by first | exact h.lc.kx | exact h.lc.kh | exact h.lc.kt | exact h.lc.kv | assumption) h.lc.r224 dX7_bridge_77 ?_
            refine gX7_73 rfl hl.wf.kw hl2.g.2.1 dX7_bridge_80 ?_
            refine P_aaN (t := 25) (j := xb (zX Z)) (by decide) hl.wf.k2 rfl (by omega) (by rw [hl.wf.l2]; omega) (hl2.wa.2.1 _ hb) dX7_bridge_83 ?_
            refine P_as6 (Or.inr dX7_bridge_84) rfl rfl ?_
            refine P_aload (i := 6) rfl dX7_bridge_86 ?_
            refine P_iloadn (i := 1) rfl rfl dX7_bridge_88 ?_
            refine uX7_80 rfl (by first | exact h.lc.kx | exact h.lc.kh | exact h.lc.kt | exact h.lc.kv | assumption) dX7_bridge_89 ?_
            refine P_aload (i := 6) rfl dX7_bridge_92 ?_
            refine P_iloadn (i := 2) rfl rfl dX7_bridge_94 ?_
            refine uX7_85 rfl (by first | exact h.lc.kx | exact h.lc.kh | exact h.lc.kt | exact h.lc.kv | assumption) dX7_bridge_95 ?_
            refine P_aload (i := 6) rfl dX7_bridge_98 ?_
            refine P_iloadn (i := 3) rfl rfl dX7_bridge_100 ?_
            refine uX7_88 rfl (by first | exact h.lc.kx | exact h.lc.kh | exact h.lc.kt | exact h.lc.kv | assumption) dX7_bridge_101 ?_
            refine P_aload (i := 6) rfl dX7_bridge_104 ?_
            refine P_iload (i := 4) rfl dX7_bridge_106 ?_
            refine uX7_91 rfl (by first | exact h.lc.kx | exact h.lc.kh | exact h.lc.kt | exact h.lc.kv | assumption) dX7_bridge_108 ?_
            refine P_aload (i := 6) rfl dX7_bridge_111 ?_
            refine P_iload (i := 5) rfl dX7_bridge_113 ?_
            refine uX7_94 rfl (by first | exact h.lc.kx | exact h.lc.kh | exact h.lc.kt | exact h.lc.kv | assumption) dX7_bridge_115 ?_
            refine P_aloadn (i := 0) rfl rfl dX7_bridge_118 ?_
            refine gX7_10 rfl (by first | exact h.lc.kx | exact h.lc.kh | exact h.lc.kt | exact h.lc.kv | assumption) h.lc.r224 dX7_bridge_119 ?_
            refine P_dup rfl dX7_bridge_122 ?_
            refine gX7_73 rfl hl.wf.kw ((p_up_of (by omega)).trans ((p_up_of (by omega)).trans ((p_up_of (by omega)).trans ((p_up_of (by omega)).trans ((p_up_of (by omega)).trans hl2.g.2.1))))) dX7_bridge_123 ?_
            refine P_iconst (v := 1) rfl dX7_bridge_126 ?_
            refine P_iadd dX7_bridge_127 ?_
            rw [show Int32.ofNat (xb (zX Z)) + 1 = Int32.ofNat (xb (zX Z) + 1) from n_succ _]
            refine uX7_73 rfl hl.wf.kw dX7_bridge_128 ?_
            refine P_aloadn (i := 0) rfl rfl dX7_bridge_131 ?_
            refine gX7_10 rfl (by first | exact h.lc.kx | exact h.lc.kh | exact h.lc.kt | exact h.lc.kv | assumption) h.lc.r224 dX7_bridge_132 ?_
            refine gX7_73 rfl hl.wf.kw (p_up_eq _ _ _ _) dX7_bridge_135 ?_
            refine P_iconst (v := 1) rfl dX7_bridge_138 ?_
            refine P_isub dX7_bridge_139 ?_
            rw [n_pred (show 0 < xb (zX Z) + 1 by omega) (by omega), Nat.add_sub_cancel]
            refine P_ireturn rfl dX7_bridge_140 ?_
            have hb := (n_lt (a := xb (zX Z)) (b := 16) (by omega) (by omega)).mp h52
            rw [show z_bridge Z from_ to room delay pace = (z_x (z_keep Z) (x_addB (zX Z) (x_brow from_ to room delay pace)), Int32.ofNat (xb (zX Z))) from (if_neg (fun hh => hh (b_t h5))).trans ((if_neg (fun hh => hh ⟨b_t h14, b_t h25, b_t h37⟩)).trans (if_neg (by omega)))]
            have hcw : CW L (p_up (p_up (p_up (p_up (p_up (p_up F1 0 (x + 1 + 23 + xb (zX Z)) from_) 1 (x + 1 + 23 + xb (zX Z)) to) 2 (x + 1 + 23 + xb (zX Z)) room) 3 (x + 1 + 23 + xb (zX Z)) delay) 4 (x + 1 + 23 + xb (zX Z)) pace) 193 (x + 1) (Int32.ofNat (xb (zX Z) + 1))) A1 B1 R1 (x + 1) (x_addB (zX Z) (x_brow from_ to room delay pace)) (c_of (xS (zX Z))) (xS (zX Z)).length sc := by
              refine hl2.addBr hb (fun j a h8 h9 => ?_) (p_up_eq _ _ _ _) (fun k hk => ?_) (fun k h5 hk => ?_)
              · exact (p_up_of (by omega)).trans ((p_up_of (by omega)).trans ((p_up_of (by omega)).trans ((p_up_of (by omega)).trans ((p_up_of (by omega)).trans (p_up_of (by omega))))))
              · rcases (show k = 0 ∨ k = 1 ∨ k = 2 ∨ k = 3 ∨ k = 4 by omega) with e | e | e | e | e <;> subst e
                · exact (p_up_of (by omega)).trans ((p_up_of (by omega)).trans ((p_up_of (by omega)).trans ((p_up_of (by omega)).trans ((p_up_of (by omega)).trans (p_up_eq _ _ _ _)))))
                · exact (p_up_of (by omega)).trans ((p_up_of (by omega)).trans ((p_up_of (by omega)).trans ((p_up_of (by omega)).trans (p_up_eq _ _ _ _))))
                · exact (p_up_of (by omega)).trans ((p_up_of (by omega)).trans ((p_up_of (by omega)).trans (p_up_eq _ _ _ _)))
                · exact (p_up_of (by omega)).trans ((p_up_of (by omega)).trans (p_up_eq _ _ _ _))
                · exact (p_up_of (by omega)).trans (p_up_eq _ _ _ _)
              · rcases (show k = 5 ∨ k = 6 ∨ k = 7 ∨ k = 8 by omega) with e | e | e | e <;> subst e <;> rfl
            have hfc : FrC (x + 1) F1 A1 B1 R1 (p_up (p_up (p_up (p_up (p_up (p_up F1 0 (x + 1 + 23 + xb (zX Z)) from_) 1 (x + 1 + 23 + xb (zX Z)) to) 2 (x + 1 + 23 + xb (zX Z)) room) 3 (x + 1 + 23 + xb (zX Z)) delay) 4 (x + 1 + 23 + xb (zX Z)) pace) 193 (x + 1) (Int32.ofNat (xb (zX Z) + 1))) A1 B1 R1 := ((((((FrC.rf.uF (by omega)).uF (by omega)).uF (by omega)).uF (by omega)).uF (by omega)).uF (by omega))
            exact ⟨_, A1, B1, R1, rfl, rfl, FrO.tr hf1 (FrO.fc hfc (by omega)), h1.up hfc ⟨sc, hcw⟩⟩
          · refine P_bipush (v := (-4)) rfl dX7_bridge_55 ?_
            refine P_ireturn rfl dX7_bridge_57 ?_
            rw [show z_bridge Z from_ to room delay pace = (Z, -4) from (if_neg (fun hh => hh (b_t h5))).trans ((if_neg (fun hh => hh ⟨b_t h14, b_t h25, b_t h37⟩)).trans (if_pos (by have h9 := Decidable.byContradiction (p := 16 ≤ xb (zX Z)) (fun q => h52 ((n_lt (a := xb (zX Z)) (b := 16) (by omega) (by omega)).mpr (by omega))); omega)))]
            exact ⟨FI, AI, AL, AR, rfl, rfl, FrO.rf, h⟩
        · refine P_bipush (v := (-2)) rfl dX7_bridge_40 ?_
          refine P_ireturn rfl dX7_bridge_42 ?_
          rw [show z_bridge Z from_ to room delay pace = (Z, -2) from (if_neg (fun hh => hh (b_t h5))).trans (if_pos (fun hh => b_f h37 hh.2.2))]
          exact ⟨FI, AI, AL, AR, rfl, rfl, FrO.rf, h⟩
  · refine P_iconst (v := (-1)) rfl dX7_bridge_8 ?_
    refine P_ireturn rfl dX7_bridge_9 ?_
    rw [show z_bridge Z from_ to room delay pace = (Z, -1) from if_pos (b_f h5)]
    exact ⟨FI, AI, AL, AR, rfl, rfl, FrO.rf, h⟩
end Cls25
