section ZIq
variable {M : Nat} {Z : ZW}
theorem ZI.mend (h : ZI M Z) (hf : zf Z < 6) (hk : zk Z ≤ 6) {b room turns : Int32} : ZI M (z_mend Z b room turns).1 := by
  unfold z_mend
  split
  · exact h
  · split
    · exact h
    · rename_i c
      have c := Decidable.not_not.mp c
      simp only [Int32.le_iff_toInt_le, Int32.reduceToInt] at c
      exact (h.keep hf hk).x (h.1.mend c.1 ⟨c.2.1, by omega⟩)
theorem ZI.route (h : ZI M Z) (hf : zf Z < 6) (hk : zk Z ≤ 6) {n to b : Int32} : ZI M (z_route Z n to b).1 := by
  unfold z_route
  split
  · exact h
  · rename_i c
    split
    · exact h
    · refine (h.keep hf hk).x (h.1.route ?_)
      by_cases e : b = -6
      · exact Or.inl e
      · exact Or.inr (q_ib_iff.mp (Decidable.byContradiction fun hh => c (Or.inr ⟨e, hh⟩)))
theorem ZI.bridge (h : ZI M Z) (hf : zf Z < 6) (hk : zk Z ≤ 6) {from_ to room delay pace : Int32} : ZI M (z_bridge Z from_ to room delay pace).1 := by
  unfold z_bridge
  split
  · exact h
  · rename_i c1
    split
    · exact h
    · rename_i c
      split
      · exact h
      · rename_i c3
        have c1 := Decidable.not_not.mp c1
        have c := Decidable.not_not.mp c
        simp only [Int32.le_iff_toInt_le, Int32.reduceToInt] at c
        have h16 := h.1.2.2.2.2.2.1
        exact (h.keep hf hk).x (h.1.addB (by omega) (q_ib_iff.mp c1.1) (q_ib_iff.mp c1.2.1) c.1 c.2.1 c.2.2)
theorem ZI.send (h : ZI M Z) (hf : zf Z < 6) (hk : zk Z ≤ 6) {from_ to size seed how : Int32} : ZI M (z_send Z true from_ to size seed how).1 := by
  rw [z_send_e h.1]
  split
  · rename_i c
    obtain ⟨k1, k2, k3, k4, k5, k6⟩ := e_send_ok c
    exact (h.keep hf hk).x (h.1.send k5 (by omega) k1.1 k1.2.1 k2 k3 k4)
  · exact h
theorem ZI.resend (h : ZI M Z) (hf : zf Z < 6) (hk : zk Z ≤ 6) {p : Int32} : ZI M (z_resend Z true p).1 := by
  rw [z_resend_e h.1]
  split
  · rename_i c
    obtain ⟨k1, k2, k3⟩ := e_resend_ok c
    exact (h.keep hf hk).x (h.1.resend (by omega) k1.nn)
  · exact h
theorem ZI.forge (h : ZI M Z) (hf : zf Z < 6) (hk : zk Z ≤ 6) {p off len la seed : Int32} : ZI M (z_forge Z true p off len la seed).1 := by
  rw [z_forge_e h.1]
  split
  · rename_i c
    obtain ⟨k1, k2, k3, k4, k5, k6⟩ := e_forge_ok c
    exact (h.keep hf hk).x (h.1.forge (by omega) k1.nn k2 k3 k4 k5)
  · exact h
theorem ZI.put (h : ZI M Z) {y : Int64} : ZI M (z_put Z y).1 := by
  unfold z_put
  split
  · exact h
  · split
    · exact h
    · exact ⟨h.1, h.2.1, h.2.2⟩
theorem ZI.wipe (h : ZI M Z) : ZI M (z_wipe Z).1 := ⟨h.1, h.2.1, h.2.2⟩
end ZIq
