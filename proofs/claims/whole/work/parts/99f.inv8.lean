/-! ===== the invariant of the whole object: ZG ===== -/
section H6
variable {M N : Nat} {X Y : XW}
theorem h_six.mono (h : h_six M X) (hM : M ≤ N) : h_six N X := fun q hq => ⟨(h q hq).1, by have := (h q hq).2; omega⟩
theorem h_six.eq (h : h_six M X) (e : xP Y = xP X) (ep : xp Y = xp X) : h_six M Y := fun q hq => by rw [e]; exact h q (by rw [ep] at hq; exact hq)
theorem h_six.send (h : h_six M X) {a b c d e : Int32} : h_six (M + 500) (x_send X a b c d e) := by
  intro q hq
  have hq2 : q < xp X + 1 := hq
  show 0 ≤ (if q = xp X then x_prow a b c d e 6 else xP X q 6).toInt ∧ (if q = xp X then x_prow a b c d e 6 else xP X q 6).toInt ≤ ((M + 500 : Nat) : Int)
  by_cases e1 : q = xp X
  · rw [if_pos e1]
    have h8 : (x_prow a b c d e 6).toInt = 1 := rfl
    rw [h8]
    omega
  · rw [if_neg e1]
    have := h q (by omega)
    omega
theorem h_six.resend (h : h_six M X) (hM : M < 80000000) {p : Nat} : h_six (M + 500) (x_resend X p) := by
  intro q hq
  have hq2 : q < xp X := hq
  have h7 := h q hq2
  show 0 ≤ (p_up (xP X) p 6 (xP X p 6 + 1) q 6).toInt ∧ (p_up (xP X) p 6 (xP X p 6 + 1) q 6).toInt ≤ ((M + 500 : Nat) : Int)
  by_cases e1 : q = p
  · subst e1
    rw [p_up_eq]
    have h8 : (1 : Int32).toInt = 1 := rfl
    rw [i_add' (by rw [h8]; omega) (by rw [h8]; omega), h8]
    omega
  · rw [p_up_n1 _ _ _ _ e1]
    omega
theorem h_six.forge (h : h_six M X) {p : Nat} {a b c d : Int32} : h_six M (x_forge X p a b c d) := h.eq rfl rfl
theorem h_six.ticks (h : h_six M X) (hI : XI M X) (hM : M < 80000000) {t : Nat} (ht : t ≤ 500) : h_six (M + 500) (x_ticks t X) := by
  intro q hq
  have e1 := (XI.ticks X t (by omega) hI).2.2.1
  rw [x_6.ticks (X := X) t q]
  have := h q (by rw [← e1]; exact hq)
  omega
end H6
def ZP (P : XW → Prop) (Z : ZW) : Prop := P (zX Z) ∧ (∀ i, i < zk Z → P (zH Z ((zf Z + i) % 6))) ∧ (∀ s, s < 2 → zV Z s = true → P (zS Z s))
section ZPp
variable {P : XW → Prop} {Z : ZW} {X : XW}
theorem ZP.imp {Q : XW → Prop} (h : ZP P Z) (hp : ∀ X, P X → Q X) : ZP Q Z := ⟨hp _ h.1, fun i hi => hp _ (h.2.1 i hi), fun s hs hv => hp _ (h.2.2 s hs hv)⟩
theorem ZP.x (h : ZP P Z) (hX : P X) : ZP P (z_x Z X) := ⟨hX, h.2.1, h.2.2⟩
theorem ZP.keep (h : ZP P Z) (hf : zf Z < 6) (hk : zk Z ≤ 6) : ZP P (z_keep Z) := by
  obtain ⟨k1, k2⟩ := z_fk Z hk
  have hf6 := z_f_lt Z hf
  refine ⟨h.1, fun i hi => ?_, h.2.2⟩
  have hi2 : i < z_k Z + 1 := hi
  show P (if (z_f Z + i) % 6 = (z_f Z + z_k Z) % 6 then zX Z else zH Z ((z_f Z + i) % 6))
  by_cases e : (z_f Z + i) % 6 = (z_f Z + z_k Z) % 6
  · rw [if_pos e]; exact h.1
  · rw [if_neg e]
    have hne : i ≠ z_k Z := fun hh => e (by rw [hh])
    by_cases e6 : zk Z = 6
    · have h8 := h.2.1 (i + 1) (by have : z_k Z = 5 := if_pos e6; omega)
      rw [show (zf Z + (i + 1)) % 6 = (z_f Z + i) % 6 from by rw [show z_f Z = (zf Z + 1) % 6 from if_pos e6]; omega] at h8
      exact h8
    · have h8 := h.2.1 i (by have : z_k Z = zk Z := if_neg e6; omega)
      rw [show zf Z = z_f Z from (if_neg e6).symm] at h8
      exact h8
theorem ZP.undo (h : ZP P Z) : ZP P (z_undo Z).1 := by
  unfold z_undo
  split
  · exact h
  · exact ⟨h.2.1 _ (by omega), fun i hi => h.2.1 i (by have h9 : i < zk Z - 1 := hi; omega), h.2.2⟩
theorem ZP.save (h : ZP P Z) {s : Int32} : ZP P (z_save Z s).1 := by
  unfold z_save
  split
  · exact h
  · refine ⟨h.1, h.2.1, fun q hq hv => ?_⟩
    have hv2 : (if q = nn s then true else zV Z q) = true := hv
    show P (if q = nn s then zX Z else zS Z q)
    by_cases e : q = nn s
    · rw [if_pos e]; exact h.1
    · rw [if_neg e] at hv2 ⊢
      exact h.2.2 q hq hv2
theorem ZP.restore (h : ZP P Z) (hf : zf Z < 6) (hk : zk Z ≤ 6) {s : Int32} : ZP P (z_restore Z s).1 := by
  unfold z_restore
  split
  · exact h
  · rename_i c
    have hs := in_nn (a := 0) (b := 1) (by decide) (by decide) (Decidable.not_not.mp c)
    split
    · exact h
    · rename_i c2
      exact (h.keep hf hk).x (h.2.2 _ (by omega) (by simpa using c2))
end ZPp
theorem z_send_six {Z : ZW} {M : Nat} (h : h_six M (zX Z)) (kp : Bool) (a b c d e : Int32) : h_six (M + 500) (zX (z_send Z kp a b c d e).1) := by
  unfold z_send
  split
  · exact h.mono (by omega)
  · split
    · exact h.mono (by omega)
    · split
      · exact h.mono (by omega)
      · exact h.send
theorem z_resend_six {Z : ZW} {M : Nat} (h : h_six M (zX Z)) (hM : M < 80000000) (kp : Bool) (a : Int32) : h_six (M + 500) (zX (z_resend Z kp a).1) := by
  unfold z_resend
  split
  · exact h.mono (by omega)
  · split
    · exact h.mono (by omega)
    · split
      · exact h.mono (by omega)
      · exact h.resend hM
theorem z_forge_six {Z : ZW} {M : Nat} (h : h_six M (zX Z)) (kp : Bool) (a b c d e : Int32) : h_six (M + 500) (zX (z_forge Z kp a b c d e).1) := by
  unfold z_forge
  split
  · exact h.mono (by omega)
  · split
    · exact h.mono (by omega)
    · split
      · exact h.mono (by omega)
      · exact h.forge.mono (by omega)
theorem z_ticks_six {Z : ZW} {M : Nat} (h : h_six M (zX Z)) (hI : XI M (zX Z)) (hM : M < 80000000) (kp : Bool) (t : Int32) : h_six (M + 500) (zX (z_ticks Z kp t).1) := by
  unfold z_ticks
  split
  · exact h.mono (by omega)
  · rename_i c
    have ht := in_nn (a := 1) (b := 500) (by decide) (by decide) (Decidable.not_not.mp c)
    exact h.ticks hI hM ht.2.1
theorem z_obey_six {Z : ZW} {M : Nat} (h : h_six M (zX Z)) (hI : XI M (zX Z)) (hM : M < 80000000) (o : TO) : h_six (M + 500) (zX (z_obey Z o).1) := by
  unfold z_obey
  split
  · exact z_send_six h _ _ _ _ _ _
  · split
    · exact z_forge_six h _ _ _ _ _ _
    · split
      · exact z_resend_six h hM _ _
      · exact z_ticks_six h hI hM _ _
theorem z_exec_six : ∀ (os : List TO) (Z : ZW) (M k : Nat), h_six M (zX Z) → XI M (zX Z) → M + 500 * os.length < 80000000 → h_six (M + 500 * os.length) (zX (z_exec Z os k).1) := by
  intro os
  induction os with
  | nil => intro Z M k h _ _; exact h
  | cons o os ih =>
    intro Z M k h hI hM
    rw [List.length_cons] at hM ⊢
    have h1 := z_obey_six h hI (by omega) o
    rw [show z_exec Z (o :: os) k = if 0 ≤ (z_obey Z o).2 then z_exec (z_obey Z o).1 os (k + 1) else ((z_obey Z o).1, k) from rfl]
    split
    · have h2 := ih (z_obey Z o).1 (M + 500) (k + 1) h1 (z_obey_I hI (by omega) o) (by omega)
      exact h2.mono (by omega)
    · exact h1.mono (by omega)
theorem q_run_len (c : Nat → Int32) (n : Nat) : ∀ (f s : Nat) (acc : List TO), (q_run c n f s acc).2.length ≤ acc.length + f := by
  intro f
  induction f with
  | zero => intro s acc; exact Nat.le_refl _
  | succ f ih =>
    intro s acc
    rw [q_run_s]
    split
    · show acc.length ≤ _
      omega
    · split
      · show (acc ++ [q_to c n s]).length ≤ _
        rw [List.length_append]
        show acc.length + 1 ≤ _
        omega
      · split
        · show (acc ++ [q_to c n s]).length ≤ _
          rw [List.length_append]
          show acc.length + 1 ≤ _
          omega
        · have h1 := ih ((q_o c n s).1 + 1) (acc ++ [q_to c n s])
          rw [List.length_append] at h1
          have h2 : ([q_to c n s] : List TO).length = 1 := rfl
          rw [h2] at h1
          omega
/-- all that every state of the object keeps -/
def ZG (M : Nat) (Z : ZW) : Prop := ZI M Z ∧ ZP (h_six M) Z ∧ zch Z ∧ zf Z < 6 ∧ zk Z ≤ 6
section ZGp
variable {M N : Nat} {Z : ZW}
theorem ZG.mono (h : ZG M Z) (hM : M ≤ N) : ZG N Z := ⟨h.1.mono hM, h.2.1.imp (fun _ hx => hx.mono hM), h.2.2.1, h.2.2.2⟩
theorem ZG.f (h : ZG M Z) : zf Z < 6 := h.2.2.2.1
theorem ZG.k (h : ZG M Z) : zk Z ≤ 6 := h.2.2.2.2
theorem ZG.six (h : ZG M Z) : ZP (h_six M) Z := h.2.1
theorem ZG.x {X : XW} (h : ZG M Z) (hI : XI N X) (h6 : h_six N X) (hM : M ≤ N) : ZG N (z_x (z_keep Z) X) := by
  have h2 := h.mono hM
  exact ⟨(h2.1.keep h.f h.k).x hI, (h2.2.1.keep h.f h.k).x h6, h.2.2.1.eq rfl, z_keep_f Z h.f h.k⟩
theorem ZG.node (h : ZG M Z) {n way to sp : Int32} : ZG M (z_node Z n way to sp).1 := by
  have h1 := h.1.node h.f h.k (n := n) (way := way) (to := to) (sp := sp)
  unfold z_node at h1 ⊢
  split
  · exact h
  · rename_i c1
    rw [if_neg c1] at h1
    split
    · exact h
    · rename_i c2
      rw [if_neg c2] at h1
      exact ⟨h1, (h.2.1.keep h.f h.k).x (h.2.1.1.eq rfl rfl), h.2.2.1.eq rfl, z_keep_f Z h.f h.k⟩
theorem ZG.bridge (h : ZG M Z) {a b room delay pace : Int32} : ZG M (z_bridge Z a b room delay pace).1 := by
  have h1 := h.1.bridge h.f h.k (from_ := a) (to := b) (room := room) (delay := delay) (pace := pace)
  unfold z_bridge at h1 ⊢
  split
  · exact h
  · rename_i c1
    rw [if_neg c1] at h1
    split
    · exact h
    · rename_i c2
      rw [if_neg c2] at h1
      split
      · exact h
      · rename_i c3
        rw [if_neg c3] at h1
        exact ⟨h1, (h.2.1.keep h.f h.k).x (h.2.1.1.eq rfl rfl), h.2.2.1.eq rfl, z_keep_f Z h.f h.k⟩
theorem ZG.mend (h : ZG M Z) {b room turns : Int32} : ZG M (z_mend Z b room turns).1 := by
  have h1 := h.1.mend h.f h.k (b := b) (room := room) (turns := turns)
  unfold z_mend at h1 ⊢
  split
  · exact h
  · rename_i c1
    rw [if_neg c1] at h1
    split
    · exact h
    · rename_i c2
      rw [if_neg c2] at h1
      exact ⟨h1, (h.2.1.keep h.f h.k).x (h.2.1.1.eq rfl rfl), h.2.2.1.eq rfl, z_keep_f Z h.f h.k⟩
theorem ZG.route (h : ZG M Z) {n to b : Int32} : ZG M (z_route Z n to b).1 := by
  have h1 := h.1.route h.f h.k (n := n) (to := to) (b := b)
  unfold z_route at h1 ⊢
  split
  · exact h
  · rename_i c1
    rw [if_neg c1] at h1
    split
    · exact h
    · rename_i c2
      rw [if_neg c2] at h1
      exact ⟨h1, (h.2.1.keep h.f h.k).x (h.2.1.1.eq rfl rfl), h.2.2.1.eq rfl, z_keep_f Z h.f h.k⟩
theorem ZG.send (h : ZG M Z) {a b c d e : Int32} : ZG (M + 500) (z_send Z true a b c d e).1 := by
  have h1 := (h.1.send h.f h.k (from_ := a) (to := b) (size := c) (seed := d) (how := e)).mono (show M ≤ M + 500 by omega)
  unfold z_send at h1 ⊢
  split
  · exact h.mono (by omega)
  · rename_i c1
    rw [if_neg c1] at h1
    split
    · exact h.mono (by omega)
    · rename_i c2
      rw [if_neg c2] at h1
      split
      · exact h.mono (by omega)
      · rename_i c3
        rw [if_neg c3] at h1
        exact ⟨h1, ((h.mono (show M ≤ M + 500 by omega)).2.1.keep h.f h.k).x h.2.1.1.send, h.2.2.1.eq rfl, z_keep_f Z h.f h.k⟩
theorem ZG.resend (h : ZG M Z) (hM : M < 80000000) {a : Int32} : ZG (M + 500) (z_resend Z true a).1 := by
  have h1 := (h.1.resend h.f h.k (p := a)).mono (show M ≤ M + 500 by omega)
  unfold z_resend at h1 ⊢
  split
  · exact h.mono (by omega)
  · rename_i c1
    rw [if_neg c1] at h1
    split
    · exact h.mono (by omega)
    · rename_i c2
      rw [if_neg c2] at h1
      split
      · exact h.mono (by omega)
      · rename_i c3
        rw [if_neg c3] at h1
        exact ⟨h1, ((h.mono (show M ≤ M + 500 by omega)).2.1.keep h.f h.k).x (h.2.1.1.resend hM), h.2.2.1.eq rfl, z_keep_f Z h.f h.k⟩
theorem ZG.forge (h : ZG M Z) {a b c d e : Int32} : ZG (M + 500) (z_forge Z true a b c d e).1 := by
  have h1 := (h.1.forge h.f h.k (p := a) (off := b) (len := c) (la := d) (seed := e)).mono (show M ≤ M + 500 by omega)
  unfold z_forge at h1 ⊢
  split
  · exact h.mono (by omega)
  · rename_i c1
    rw [if_neg c1] at h1
    split
    · exact h.mono (by omega)
    · rename_i c2
      rw [if_neg c2] at h1
      split
      · exact h.mono (by omega)
      · rename_i c3
        rw [if_neg c3] at h1
        exact ⟨h1, ((h.mono (show M ≤ M + 500 by omega)).2.1.keep h.f h.k).x (h.2.1.1.forge.mono (by omega)), h.2.2.1.eq rfl, z_keep_f Z h.f h.k⟩
theorem ZG.ticks (h : ZG M Z) (hM : M < 80000000) {t : Int32} : ZG (M + 500) (z_ticks Z true t).1 := by
  have h1 := h.1.ticks h.f h.k hM (t := t)
  have h2 := z_ticks_six h.2.1.1 h.1.1 hM true t
  unfold z_ticks at h1 h2 ⊢
  split
  · exact h.mono (by omega)
  · rename_i c1
    rw [if_neg c1] at h1 h2
    exact ⟨h1, ((h.mono (show M ≤ M + 500 by omega)).2.1.keep h.f h.k).x h2, h.2.2.1.eq rfl, z_keep_f Z h.f h.k⟩
theorem ZG.undo (h : ZG M Z) : ZG M (z_undo Z).1 := by
  refine ⟨h.1.undo, h.2.1.undo, ?_, ?_⟩
  · unfold z_undo
    split
    · exact h.2.2.1
    · exact h.2.2.1.eq rfl
  · have hk := h.k
    unfold z_undo
    split
    · exact ⟨h.f, h.k⟩
    · exact ⟨h.f, (show zk Z - 1 ≤ 6 by omega)⟩
theorem ZG.save (h : ZG M Z) {s : Int32} : ZG M (z_save Z s).1 := by
  refine ⟨h.1.save, h.2.1.save, ?_, ?_⟩
  · unfold z_save
    split
    · exact h.2.2.1
    · exact h.2.2.1.eq rfl
  · unfold z_save
    split
    · exact ⟨h.f, h.k⟩
    · exact ⟨h.f, h.k⟩
theorem ZG.restore (h : ZG M Z) {s : Int32} : ZG M (z_restore Z s).1 := by
  refine ⟨h.1.restore h.f h.k, h.2.1.restore h.f h.k, ?_, ?_⟩
  · unfold z_restore
    split
    · exact h.2.2.1
    · split
      · exact h.2.2.1
      · exact h.2.2.1.eq rfl
  · unfold z_restore
    split
    · exact ⟨h.f, h.k⟩
    · split
      · exact ⟨h.f, h.k⟩
      · exact z_keep_f Z h.f h.k
theorem ZG.put (h : ZG M Z) {y : Int64} : ZG M (z_put Z y).1 := by
  refine ⟨h.1.put, ?_, h.2.2.1.put, ?_⟩
  · unfold z_put
    split
    · exact h.2.1
    · split
      · exact h.2.1
      · exact ⟨h.2.1.1, h.2.1.2.1, h.2.1.2.2⟩
  · unfold z_put
    split
    · exact ⟨h.f, h.k⟩
    · split
      · exact ⟨h.f, h.k⟩
      · exact ⟨h.f, h.k⟩
theorem ZG.wipe (h : ZG M Z) : ZG M (z_wipe Z).1 := ⟨h.1.wipe, ⟨h.2.1.1, h.2.1.2.1, h.2.1.2.2⟩, zch.wipe Z, h.f, h.k⟩
theorem ZG.carry (h : ZG M Z) (hM : M + 40500 < 80000000) : ZG (M + 40500) (z_carry Z).1 := by
  unfold z_carry
  split
  · exact h.mono (by omega)
  · have hl := q_run_len (zC Z) (zn Z) 81 0 []
    have hl2 : (q_run (zC Z) (zn Z) 81 0 []).2.length ≤ 81 := by
      have h3 : ([] : List TO).length = 0 := rfl
      rw [h3] at hl
      omega
    have hk := h.1.keep h.f h.k
    have h6 := h.2.1.keep h.f h.k
    have e2 := z_exec_2 (q_run (zC Z) (zn Z) 81 0 []).2 (z_keep Z) 0
    have h1 := ZI.exec (q_run (zC Z) (zn Z) 81 0 []).2 (z_keep Z) M 0 hk (by omega)
    have h2 := z_exec_six (q_run (zC Z) (zn Z) 81 0 []).2 (z_keep Z) M 0 h6.1 hk.1 (by omega)
    have h1 := h1.mono (show M + 500 * (q_run (zC Z) (zn Z) 81 0 []).2.length ≤ M + 40500 by omega)
    have h2 := h2.mono (show M + 500 * (q_run (zC Z) (zn Z) 81 0 []).2.length ≤ M + 40500 by omega)
    have h7 := h6.imp (Q := h_six (M + 40500)) (fun _ hx => hx.mono (by omega))
    have h8 : ZP (h_six (M + 40500)) (z_exec (z_keep Z) (q_run (zC Z) (zn Z) 81 0 []).2 0).1 := by
      rw [show (z_exec (z_keep Z) (q_run (zC Z) (zn Z) 81 0 []).2 0).1 = z_x (z_keep Z) (zX (z_exec (z_keep Z) (q_run (zC Z) (zn Z) 81 0 []).2 0).1) from Prod.ext rfl e2]
      exact h7.x h2
    have e3 : zf (z_exec (z_keep Z) (q_run (zC Z) (zn Z) 81 0 []).2 0).1 = zf (z_keep Z) := congrArg (fun z => z.2.1) e2
    have e4 : zk (z_exec (z_keep Z) (q_run (zC Z) (zn Z) 81 0 []).2 0).1 = zk (z_keep Z) := congrArg (fun z => z.2.2.1) e2
    have h9 := z_keep_f Z h.f h.k
    refine ⟨⟨h1.1, h1.2.1, h1.2.2⟩, ⟨h8.1, h8.2.1, h8.2.2⟩, fun i hi => absurd hi (Nat.not_lt_zero _), ?_, ?_⟩
    · show zf (z_exec (z_keep Z) (q_run (zC Z) (zn Z) 81 0 []).2 0).1 < 6
      rw [e3]; exact h9.1
    · show zk (z_exec (z_keep Z) (q_run (zC Z) (zn Z) 81 0 []).2 0).1 ≤ 6
      rw [e4]; exact h9.2
end ZGp
