/-! locks: the relation, and the core that spins the longest -/
def ps_SO (lk rf : cr_S) : Prop := ∀ c d : Nat, 1 ≤ c → c ≤ 3 → 1 ≤ d → d ≤ 3 → lk 2 c ≠ 0 → lk 2 d ≠ 0 → ((lk 3 c).toInt < (lk 3 d).toInt ↔ (rf 12 c).toInt < (rf 12 d).toInt)
theorem ps_spin {lk rf : cr_S} (lat : Int64) (ln : Nat → Int64) (x1 x2 x : Int32) (hx : x ≠ 0) (e2 : x = -x2) (h2 : lk 2 = rf 11) (hS : ps_SO lk rf) : ∀ (d k b : Nat), 1 ≤ k → k ≤ 4 → 4 < d + k → b < k → (b = 0 ∨ (1 ≤ b ∧ lk 2 b = x)) → ∃ t, t ≤ 3 ∧ (t = 0 ∨ (1 ≤ t ∧ lk 2 t = x)) ∧ lo_Locks_longestSpinnerFor_4 lk x d (nI b) (nI k) = nI t ∧ lo_Ref_lock_146 rf lat ln x1 x2 d (nI b) (nI k) = lo_Ref_lock_146 rf lat ln x1 x2 1 (nI t) (nI 4)
  | 0, k, b, _, h, h3, _, _ => absurd h3 (by omega)
  | d + 1, k, b, h1, h4, hd, hbk, hb => by
    have k3 : (3 : Int32).toInt = 3 := by decide
    have k4 : (4 : Int32).toInt = 4 := by decide
    have k0 : (0 : Int32).toInt = 0 := by decide
    have kt := ps_nI_t (k := k) (by omega)
    have bt := ps_nI_t (k := b) (by omega)
    have t4 := ps_nI_t (k := 4) (by omega)
    have ih := fun b' (g : b' < k + 1) (g2 : b' = 0 ∨ (1 ≤ b' ∧ lk 2 b' = x)) (g3 : k ≠ 4) => ps_spin lat ln x1 x2 x hx e2 h2 hS d (k + 1) b' (by omega) (by omega) (by omega) g g2
    by_cases e : k = 4
    · subst e
      have q4 : (4 : Int32) ≤ nI 4 := by rw [pu_le]; omega
      refine ⟨b, by omega, hb, ?_, ?_⟩
      · rw [lo_Locks_longestSpinnerFor_4, if_pos (by rw [pu_lt]; omega)]
      · rw [lo_Ref_lock_146, if_pos q4, lo_Ref_lock_146, if_pos q4]
    · have c1 : lo_Locks_longestSpinnerFor_4 lk x (d + 1) (nI b) (nI k) = if lk 2 k = x ∧ (b = 0 ∨ (lk 3 k).toInt < (lk 3 b).toInt) then lo_Locks_longestSpinnerFor_4 lk x d (nI k) (nI (k + 1)) else lo_Locks_longestSpinnerFor_4 lk x d (nI b) (nI (k + 1)) := by
        rw [lo_Locks_longestSpinnerFor_4, if_neg (by rw [pu_lt]; omega), ps_nI_c (k := k) (by omega), ps_nI_c (k := b) (by omega), show nI k + 1 = nI (k + 1) from nI_1 k]
        by_cases a1 : b = 0
        · rw [if_pos (by rw [pu_eq]; omega)]
          by_cases a2 : lk 2 k = x
          · rw [if_pos a2, if_pos ⟨a2, Or.inl a1⟩]
          · rw [if_neg a2, if_neg (fun q => a2 q.1)]
        · rw [if_neg (by rw [pu_eq]; omega)]
          by_cases a3 : lk 3 b ≤ lk 3 k
          · rw [if_pos a3]
            rw [pu_le] at a3
            by_cases a2 : lk 2 k = x
            · rw [if_pos a2, if_neg (fun q => by rcases q.2 with w | w <;> omega)]
            · rw [if_neg a2, if_neg (fun q => a2 q.1)]
          · rw [if_neg a3]
            rw [pu_le] at a3
            by_cases a2 : lk 2 k = x
            · rw [if_pos a2, if_pos ⟨a2, Or.inr (by omega)⟩]
            · rw [if_neg a2, if_neg (fun q => a2 q.1)]
      have c2 : lo_Ref_lock_146 rf lat ln x1 x2 (d + 1) (nI b) (nI k) = if lk 2 k = x ∧ (b = 0 ∨ (rf 12 k).toInt < (rf 12 b).toInt) then lo_Ref_lock_146 rf lat ln x1 x2 d (nI k) (nI (k + 1)) else lo_Ref_lock_146 rf lat ln x1 x2 d (nI b) (nI (k + 1)) := by
        rw [lo_Ref_lock_146, if_neg (by rw [pu_le]; omega), ps_nI_c (k := k) (by omega), ps_nI_c (k := b) (by omega), show nI k + 1 = nI (k + 1) from nI_1 k, ← h2, ← e2]
        by_cases a2 : lk 2 k = x
        · rw [if_pos a2]
          by_cases a1 : b = 0
          · rw [if_pos (by rw [pu_eq]; omega), if_pos ⟨a2, Or.inl a1⟩]
          · rw [if_neg (by rw [pu_eq]; omega)]
            by_cases a3 : rf 12 b ≤ rf 12 k
            · rw [if_pos a3]
              rw [pu_le] at a3
              rw [if_neg (fun q => by rcases q.2 with w | w <;> omega)]
            · rw [if_neg a3]
              rw [pu_le] at a3
              rw [if_pos ⟨a2, Or.inr (by omega)⟩]
        · rw [if_neg a2, if_neg (fun q => a2 q.1)]
      have eqc : (lk 2 k = x ∧ (b = 0 ∨ (lk 3 k).toInt < (lk 3 b).toInt)) ↔ (lk 2 k = x ∧ (b = 0 ∨ (rf 12 k).toInt < (rf 12 b).toInt)) := by
        by_cases a1 : b = 0
        · simp [a1]
        · rcases hb with q | ⟨q1, q2⟩
          · exact absurd q a1
          · constructor
            · rintro ⟨z1, z2⟩
              refine ⟨z1, ?_⟩
              rcases z2 with w | w
              · exact Or.inl w
              · exact Or.inr ((hS k b h1 (by omega) q1 (by omega) (by rw [z1]; exact hx) (by rw [q2]; exact hx)).mp w)
            · rintro ⟨z1, z2⟩
              refine ⟨z1, ?_⟩
              rcases z2 with w | w
              · exact Or.inl w
              · exact Or.inr ((hS k b h1 (by omega) q1 (by omega) (by rw [z1]; exact hx) (by rw [q2]; exact hx)).mpr w)
      rw [c1, c2]
      by_cases z : lk 2 k = x ∧ (b = 0 ∨ (lk 3 k).toInt < (lk 3 b).toInt)
      · rw [if_pos z, if_pos (eqc.mp z)]
        exact ih k (by omega) (Or.inr ⟨h1, z.1⟩) e
      · rw [if_neg z, if_neg (fun q => z (eqc.mpr q))]
        exact ih b (by omega) hb e
