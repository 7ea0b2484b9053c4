/-! ===== the invariant of the whole, kept by the operations ===== -/
section ZIp
variable {M N : Nat} {Z : ZW} {X : XW}
theorem ZI.mono (h : ZI M Z) (hM : M ≤ N) : ZI N Z := ⟨h.1.mono hM, fun i hi => (h.2.1 i hi).mono hM, fun s hs hv => (h.2.2 s hs hv).mono hM⟩
theorem ZI.x (h : ZI M Z) (hX : XI M X) : ZI M (z_x Z X) := ⟨hX, h.2.1, h.2.2⟩
theorem ZI.keep (h : ZI M Z) (hf : zf Z < 6) (hk : zk Z ≤ 6) : ZI M (z_keep Z) := by
  obtain ⟨k1, k2⟩ := z_fk Z hk
  have hf6 := z_f_lt Z hf
  refine ⟨h.1, fun i hi => ?_, h.2.2⟩
  have hi2 : i < z_k Z + 1 := hi
  show XI M (if (z_f Z + i) % 6 = (z_f Z + z_k Z) % 6 then zX Z else zH Z ((z_f Z + i) % 6))
  by_cases e : (z_f Z + i) % 6 = (z_f Z + z_k Z) % 6
  · rw [if_pos e]; exact h.1
  · rw [if_neg e]
    have hne : i ≠ z_k Z := fun hh => e (by rw [hh])
    by_cases e6 : zk Z = 6
    · have h8 := h.2.1 (i + 1) (by have : z_k Z = 5 := if_pos e6; omega)
      rw [show (zf Z + (i + 1)) % 6 = (z_f Z + i) % 6 from by rw [show z_f Z = (zf Z + 1) % 6 from if_pos e6]; omega] at h8
      exact h8
    · have h8 := h.2.1 i (by have : z_k Z = zk Z := if_neg e6; omega)
      rw [show zf Z = z_f Z from (if_neg e6).symm] at h8
      exact h8
theorem z_keep_f (Z : ZW) (hf : zf Z < 6) (hk : zk Z ≤ 6) : zf (z_keep Z) < 6 ∧ zk (z_keep Z) ≤ 6 := by
  have h1 := z_f_lt Z hf
  have h2 := (z_fk Z hk).2
  exact ⟨h1, (show z_k Z + 1 ≤ 6 by omega)⟩
theorem ZI.undo (h : ZI M Z) : ZI M (z_undo Z).1 := by
  unfold z_undo
  split
  · exact h
  · exact ⟨h.2.1 _ (by omega), fun i hi => h.2.1 i (by have h9 : i < zk Z - 1 := hi; omega), h.2.2⟩
theorem ZI.save (h : ZI M Z) {s : Int32} : ZI M (z_save Z s).1 := by
  unfold z_save
  split
  · exact h
  · refine ⟨h.1, h.2.1, fun q hq hv => ?_⟩
    have hv2 : (if q = nn s then true else zV Z q) = true := hv
    show XI M (if q = nn s then zX Z else zS Z q)
    by_cases e : q = nn s
    · rw [if_pos e]; exact h.1
    · rw [if_neg e] at hv2 ⊢
      exact h.2.2 q hq hv2
theorem ZI.restore (h : ZI M Z) (hf : zf Z < 6) (hk : zk Z ≤ 6) {s : Int32} : ZI M (z_restore Z s).1 := by
  unfold z_restore
  split
  · exact h
  · rename_i c
    have hs := in_nn (a := 0) (b := 1) (by decide) (by decide) (Decidable.not_not.mp c)
    split
    · exact h
    · rename_i c2
      exact (h.keep hf hk).x (h.2.2 _ (by omega) (by simpa using c2))
theorem ZI.node (h : ZI M Z) (hf : zf Z < 6) (hk : zk Z ≤ 6) {n way to sp : Int32} : ZI M (z_node Z n way to sp).1 := by
  unfold z_node
  split
  · exact h
  · split
    · exact h
    · rename_i c
      have c := Decidable.not_not.mp c
      simp only [Int32.le_iff_toInt_le, Int32.reduceToInt] at c
      exact (h.keep hf hk).x (h.1.node ⟨c.1.1, by omega⟩ c.2.1 c.2.2)
theorem ZI.ticks (h : ZI M Z) (hf : zf Z < 6) (hk : zk Z ≤ 6) (hM : M < 80000000) {t : Int32} : ZI (M + 500) (z_ticks Z true t).1 := by
  unfold z_ticks
  split
  · exact h.mono (by omega)
  · rename_i c
    have ht := in_nn (a := 1) (b := 500) (by decide) (by decide) (Decidable.not_not.mp c)
    exact ((h.keep hf hk).mono (by omega)).x (h.1.ticks1 hM ht.2.1)
end ZIp
