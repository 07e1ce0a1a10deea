theorem ps_nat {x : Int32} {a b : Nat} (h1 : (a : Int) ≤ x.toInt) (h2 : x.toInt ≤ (b : Int)) (hb : b < 100000) : ∃ k : Nat, a ≤ k ∧ k ≤ b ∧ x = nI k := by
  refine ⟨x.toInt.toNat, by omega, by omega, ?_⟩
  rw [pu_eq, ps_nI_t (by omega)]
  omega
theorem ps_lock {N : Nat} {lk rf : cr_S} (h : ps_L N lk rf) (hN : N < 512) (mn : cr_S) (lt : Int64) (pl bd tr tb : cr_S) (lat : Int64) (ln : Nat → Int64) (c x : Int32) :
    (md_Main_lock mn lt pl bd lk tr tb c x).1 = (md_Ref_lock rf lat ln c x).1 ∧ ps_L (N + 1) (md_Main_lock mn lt pl bd lk tr tb c x).2 (md_Ref_lock rf lat ln c x).2 ∧ ps_LF rf (md_Ref_lock rf lat ln c x).2 := by
  have k0 : (0 : Int32).toInt = 0 := by decide
  have k1 : (1 : Int32).toInt = 1 := by decide
  have k3 : (3 : Int32).toInt = 3 := by decide
  have k8 : (8 : Int32).toInt = 8 := by decide
  have km : (-8 : Int32).toInt = -8 := by decide
  have n1 : ¬ (1 : Int32) = 0 := by decide
  have no : ∀ v : Int32, (v, lk).1 = (v, rf).1 ∧ ps_L (N + 1) (v, lk).2 (v, rf).2 ∧ ps_LF rf (v, rf).2 := fun v => ⟨rfl, ps_L_mono h, ps_LF_rf rf⟩
  unfold md_Main_lock md_Ref_lock md_Main_isCore
  by_cases c1 : c < 1
  · rw [if_pos c1, if_pos c1, if_pos rfl]; exact no _
  · rw [if_neg c1, if_neg c1]
    by_cases c3 : 3 < c
    · rw [if_pos c3, if_pos rfl, if_neg (show ¬ c ≤ 3 by rw [pu_le]; rw [pu_lt] at c3; omega)]; exact no _
    · rw [if_neg c3, if_neg n1, if_pos (show c ≤ 3 by rw [pu_le]; rw [pu_lt] at c3; omega)]
      rw [pu_lt] at c1 c3
      obtain ⟨k, hk1, hk3, rfl⟩ := ps_nat (x := c) (a := 1) (b := 3) (by omega) (by omega) (by omega)
      rw [ps_nI_c (k := k) (by omega)]
      by_cases x0 : x = 0
      · subst x0
        rw [if_pos rfl, if_neg (show ¬ (0 : Int32) < -8 by decide), if_neg (show ¬ (8 : Int32) < 0 by decide), if_pos rfl]; exact no _
      · rw [if_neg x0]
        by_cases xl : x < -8
        · rw [if_pos xl, if_pos xl]; exact no _
        · rw [if_neg xl, if_neg xl]
          by_cases xh : 8 < x
          · rw [if_neg (show ¬ x ≤ 8 by rw [pu_le]; rw [pu_lt] at xh; omega), if_pos xh]; exact no _
          · rw [if_pos (show x ≤ 8 by rw [pu_le]; rw [pu_lt] at xh; omega), if_neg xh, if_neg x0]
            rw [pu_lt] at xl xh
            rw [pu_eq] at x0
            unfold md_Locks_spins
            rw [ps_nI_c (k := k) (by omega)]
            have rg := h.1.2.2.2.1 k
            by_cases s : lk 2 k = 0
            · rw [if_pos s, if_pos rfl, if_pos (show rf 11 k ≤ 0 by rw [← h.1.2.1, s]; decide)]
              by_cases xn : x ≤ 0
              · rw [if_pos xn, if_pos xn]
                rw [pu_le] at xn
                have nx := cr_neg (x := x) (by omega)
                obtain ⟨n, g1, g8, gn⟩ := ps_nat (x := -x) (a := 1) (b := 8) (by omega) (by omega) (by omega)
                exact ps_rel h hN lat ln gn hk1 hk3 g1 g8 _ rfl
              · rw [if_neg xn, if_neg xn]
                rw [pu_le] at xn
                obtain ⟨n, g1, g8, rfl⟩ := ps_nat (x := x) (a := 1) (b := 8) (by omega) (by omega) (by omega)
                exact ps_acq h hN lat ln hk1 hk3 g1 g8 s
            · rw [if_neg s, if_neg n1, if_neg (show ¬ rf 11 k ≤ 0 by rw [← h.1.2.1, pu_le]; rw [pu_eq] at s; omega)]
              exact no _
