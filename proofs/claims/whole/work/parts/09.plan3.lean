/-! a task's rank now -/
theorem ps_rankL {pl bd rf : cr_S} {ln : Nat → Int64} (h : ps_P pl rf ln) (hb : bd 4 = rf 7) (lat : Int64) {R : Nat} (hR : R ≤ 8) (e1 : pl 0 1 = nI R) (e2 : rf 0 2 = nI R) (x : Int32) : ∀ (d k : Nat) (v : Int32), 1 ≤ k → k ≤ R + 1 → 9 < d + k → lo_Board_rankNow_12 pl bd x d v (nI k) = lo_Ref_rankNow_9 rf lat ln x d v (nI k)
  | 0, k, v, _, a, b => absurd b (by omega)
  | d + 1, k, v, h1, hk, hd => by
    have kt := ps_nI_t (k := k) (by omega)
    have Rt := ps_nI_t (k := R) (by omega)
    rw [lo_Board_rankNow_12, lo_Ref_rankNow_9, e1, e2]
    by_cases e : k = R + 1
    · subst e
      rw [if_pos (by rw [pu_lt]; omega), if_pos (by rw [pu_lt]; omega)]
    · have hk8 : k ≤ 8 := by omega
      have nlt : ¬ nI R < nI k := by rw [pu_lt]; omega
      rw [if_neg nlt, if_neg nlt, ps_nI_c (k := k) (by omega), show nI k + 1 = nI (k + 1) from nI_1 k, hb, ps_ceilE h lat hk8]
      have ih := fun v' => ps_rankL h hb lat hR e1 e2 x d (k + 1) v' (by omega) (by omega) (by omega)
      by_cases u : rf 7 k = x
      · rw [if_pos u, if_pos u]
        by_cases g : pl 3 k ≤ v
        · rw [if_pos g, ← ih]
          unfold cr_max
          rw [if_neg (by rw [pu_lt]; rw [pu_le] at g; omega)]
        · rw [if_neg g, ← ih]
          unfold cr_max
          rw [if_pos (by rw [pu_lt]; rw [pu_le] at g; omega)]
      · rw [if_neg u, if_neg u, ih]
theorem ps_rankNow {pl bd rf : cr_S} {ln : Nat → Int64} (h : ps_P pl rf ln) (hb : bd 4 = rf 7) (lat : Int64) (x : Int32) : md_Board_rankNow pl bd x = md_Ref_rankNow rf lat ln x := by
  obtain ⟨T, R, hN, hrest⟩ := id h
  unfold md_Board_rankNow md_Ref_rankNow
  rw [hN.2.2.2.2.2.2.1]
  exact ps_rankL h hb lat hN.2.1 hN.2.2.2.2.1 hN.2.2.2.2.2.1 x 9 1 _ (by omega) (by omega) (by omega)
theorem ps_rank {pl bd rf : cr_S} {ln : Nat → Int64} (h : ps_P pl rf ln) (hb : bd 4 = rf 7) (mn : cr_S) (lt : Int64) (lk tr tb : cr_S) (lat : Int64) (x : Int32) : md_Main_rank mn lt pl bd lk tr tb x = md_Ref_rank rf lat ln x := by
  have n1 : ¬ (1 : Int32) = 0 := by decide
  obtain ⟨T, R, hN, hrest⟩ := id h
  unfold md_Main_rank md_Ref_rank
  rw [ps_rankNow h hb lat x]
  rcases ps_hasT hN lat ln x with ⟨q1, q2⟩ | ⟨q1, q2, -⟩
  · rw [q1, q2]
  · rw [q1, q2]
