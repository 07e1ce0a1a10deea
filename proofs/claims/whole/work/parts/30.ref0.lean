def cr_rh (σ : cr_S) (k : Nat) (lo hi : Int) : Prop := ∀ j, lo ≤ (σ k j).toInt ∧ (σ k j).toInt ≤ hi
theorem cr_rho {σ : cr_S} {k : Nat} {lo hi : Int} (h : cr_rh σ k lo hi) (j : Nat) : lo ≤ (σ k j).toInt ∧ (σ k j).toInt ≤ hi := h j
theorem cr_rh_up {σ : cr_S} {k k' j : Nat} {lo hi : Int} {x : Int32} (h : cr_rh σ k lo hi) (hx : k = k' → lo ≤ x.toInt ∧ x.toInt ≤ hi) : cr_rh (cr_up σ k' j x) k lo hi := by
  intro i
  unfold cr_up
  by_cases e : k = k'
  · rw [if_pos e]
    unfold upd
    by_cases e2 : i = j
    · rw [if_pos e2]; exact hx e
    · rw [if_neg e2, ← e]; exact h i
  · rw [if_neg e]; exact h i
def cr_RRef (σ : cr_S) : Prop := cr_rf σ 0 0 10 ∧ cr_rf σ 0 2 8 ∧ cr_rg σ 2 3 ∧ cr_rg σ 9 3 ∧ cr_rg σ 11 8 ∧ cr_rh σ 16 (-1) 8
abbrev cw_Ref (cI cZ cJ : ClassId) (a : Nat → Nat) (σ : cr_S) (lat : Int64) (ln : Nat → Int64) : va_W := [(a 0, .inr (5, [.int (σ 0 0), .ref (a 1), .ref (a 2), .ref (a 3), .ref (a 4), .int (σ 0 1), .ref (a 5), .int (σ 0 2), .ref (a 6), .ref (a 7), .ref (a 8), .long lat, .ref (a 9), .ref (a 10), .ref (a 11), .ref (a 12), .int (σ 0 3), .ref (a 13), .ref (a 14), .ref (a 15), .ref (a 16), .ref (a 17)])), (a 1, .inl (cI, 11, .inl (σ 1))), (a 2, .inl (cI, 11, .inl (σ 2))), (a 3, .inl (cI, 11, .inl (σ 3))), (a 4, .inl (cI, 11, .inl (σ 4))), (a 5, .inl (cZ, 11, .inl (σ 5))), (a 6, .inl (cJ, 99, .inr (.inl ln))), (a 7, .inl (cI, 9, .inl (σ 7))), (a 8, .inl (cI, 9, .inl (σ 8))), (a 9, .inl (cI, 9, .inl (σ 9))), (a 10, .inl (cI, 9, .inl (σ 10))), (a 11, .inl (cI, 4, .inl (σ 11))), (a 12, .inl (cI, 4, .inl (σ 12))), (a 13, .inl (cI, 11, .inl (σ 13))), (a 14, .inl (cI, 11, .inl (σ 14))), (a 15, .inl (cI, 11, .inl (σ 15))), (a 16, .inl (cI, 11, .inl (σ 16))), (a 17, .inl (cZ, 1089, .inl (σ 17)))]
