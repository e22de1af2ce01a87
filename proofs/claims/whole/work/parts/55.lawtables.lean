section LAWC
variable {p : Program} {l : Launch} {e : Env} {s : State} {m : MethodId} {below : List Frame} {meth : Method} {c : Code} {b L : Nat} {xs : Nat → Int32} {dC : Nat → ClassId} {dI : Nat → Nat → Nat} {cJ cI cT : ClassId} {h g ao : Nat} {H : Heap} {locs : List Loc} {cells slots : Nat} {ls : Array Slot} {I : Nat}
theorem lc_told (C0 : lw_At p s m meth c b L xs) (E0 : LE0 l s dC dI cJ cI cT) (hI : I + 8 ≤ L) (hL : L ≤ 4096) (hi : LI s dC dI cJ cI cT h g ao H locs) (hc : cells + 1 ≤ room_1.cells) (hs : slots + 6 ≤ room_1.slots) (hl : lv_has ls 7 [(0, .ref b), (1, .ref h), (2, .ref g), (3, .ref ao), (4, .int (nI I))]) (kk : LK p l e s m below meth c b dC dI cJ cI cT h g ao I cells slots) : W p l e room_1 s m #[Value.ref b] below meth c H locs cells slots (lw_Z below #[Value.ref b] s) (F0 m 884 ls []) := by
  obtain ⟨w1, v1⟩ : ∃ w : Int32, xs (nI I + 1).toNatClampNeg = w := ⟨_, rfl⟩
  by_cases h0 : w1 < 0
  · exact lc_told_o C0 E0 hI hL hi hc hs (Or.inl h0) v1 hl kk
  · by_cases h4 : 4 ≤ w1
    · exact lc_told_o C0 E0 hI hL hi hc hs (Or.inr h4) v1 hl kk
    · obtain ⟨j, hj, e9, -⟩ := t_of h0 h4
      rw [e9] at v1
      rcases (show j = 0 ∨ j = 1 ∨ j = 2 ∨ j = 3 by omega) with q | q | q | q
      · rw [q] at v1
        exact lc_told_0 C0 E0 hI hL hi hc hs v1 hl kk
      · rw [q] at v1
        exact lc_told_1 C0 E0 hI hL hi hc hs v1 hl kk
      · rw [q] at v1
        exact lc_told_2 C0 E0 hI hL hi hc hs v1 hl kk
      · rw [q] at v1
        exact lc_told_3 C0 E0 hI hL hi hc hs v1 hl kk
theorem lc_row (C0 : lw_At p s m meth c b L xs) (E0 : LE0 l s dC dI cJ cI cT) (hI : I + 8 ≤ L) (hL : L ≤ 4096) (hi : LI s dC dI cJ cI cT h g ao H locs) (hc : cells + 1 ≤ room_1.cells) (hs : slots + 6 ≤ room_1.slots) (hl : lv_has ls 7 [(0, .ref b), (1, .ref h), (2, .ref g), (3, .ref ao), (4, .int (nI I))]) (kk : LK p l e s m below meth c b dC dI cJ cI cT h g ao I cells slots) : W p l e room_1 s m #[Value.ref b] below meth c H locs cells slots (lw_Z below #[Value.ref b] s) (F0 m 512 ls []) := by
  obtain ⟨w1, v1⟩ : ∃ w : Int32, xs (nI I + 1).toNatClampNeg = w := ⟨_, rfl⟩
  by_cases h0 : w1 < 0
  · exact lc_row_o C0 E0 hI hL hi hc hs (Or.inl h0) v1 hl kk
  · by_cases h4 : 4 ≤ w1
    · exact lc_row_o C0 E0 hI hL hi hc hs (Or.inr h4) v1 hl kk
    · obtain ⟨j, hj, e9, -⟩ := t_of h0 h4
      rw [e9] at v1
      rcases (show j = 0 ∨ j = 1 ∨ j = 2 ∨ j = 3 by omega) with q | q | q | q
      · rw [q] at v1
        exact lc_row_0 C0 E0 hI hL hi hc hs v1 hl kk
      · rw [q] at v1
        exact lc_row_1 C0 E0 hI hL hi hc hs v1 hl kk
      · rw [q] at v1
        exact lc_row_2 C0 E0 hI hL hi hc hs v1 hl kk
      · rw [q] at v1
        exact lc_row_3 C0 E0 hI hL hi hc hs v1 hl kk
theorem lc_join (C0 : lw_At p s m meth c b L xs) (E0 : LE0 l s dC dI cJ cI cT) (hI : I + 8 ≤ L) (hL : L ≤ 4096) (hi : LI s dC dI cJ cI cT h g ao H locs) (hc : cells + 1 ≤ room_1.cells) (hs : slots + 6 ≤ room_1.slots) (hl : lv_has ls 7 [(0, .ref b), (1, .ref h), (2, .ref g), (3, .ref ao), (4, .int (nI I))]) (kk : LK p l e s m below meth c b dC dI cJ cI cT h g ao I cells slots) : W p l e room_1 s m #[Value.ref b] below meth c H locs cells slots (lw_Z below #[Value.ref b] s) (F0 m 673 ls []) := by
  obtain ⟨w1, v1⟩ : ∃ w : Int32, xs (nI I + 1).toNatClampNeg = w := ⟨_, rfl⟩
  by_cases h0 : w1 < 0
  · exact lc_join_o C0 E0 hI hL hi hc hs (Or.inl h0) v1 hl kk
  · by_cases h4 : 4 ≤ w1
    · exact lc_join_o C0 E0 hI hL hi hc hs (Or.inr h4) v1 hl kk
    · obtain ⟨j, hj, e9, -⟩ := t_of h0 h4
      rw [e9] at v1
      rcases (show j = 0 ∨ j = 1 ∨ j = 2 ∨ j = 3 by omega) with q | q | q | q
      · rw [q] at v1
        exact lc_join_0 C0 E0 hI hL hi hc hs v1 hl kk
      · rw [q] at v1
        exact lc_join_1 C0 E0 hI hL hi hc hs v1 hl kk
      · rw [q] at v1
        exact lc_join_2 C0 E0 hI hL hi hc hs v1 hl kk
      · rw [q] at v1
        exact lc_join_3 C0 E0 hI hL hi hc hs v1 hl kk
end LAWC
