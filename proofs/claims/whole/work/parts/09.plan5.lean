/-! blocking -/
theorem ps_b29n {pl rf : cr_S} {ln : Nat → Int64} (h : ps_P pl rf ln) (lat : Int64) {l t R : Nat} (hl : l ≤ 10) (ht : t ≤ 10) (hR : R ≤ 8) (e2 : rf 0 2 = nI R) (hb : ¬ ps_bel pl l t) (V : Int64) : ∀ (d k : Nat), 1 ≤ k → k ≤ R + 1 → 9 < d + k → lo_Ref_blocking_29 rf lat ln (nI t) (nI l) d V (nI k) = V
  | 0, k, _, a, b => absurd b (by omega)
  | d + 1, k, h1, hk, hd => by
    have kt := ps_nI_t (k := k) (by omega)
    have Rt := ps_nI_t (k := R) (by omega)
    rw [lo_Ref_blocking_29, e2]
    by_cases e : k = R + 1
    · subst e
      rw [if_pos (show nI R < nI (R + 1) by rw [pu_lt]; omega)]
    · have hk8 : k ≤ 8 := by omega
      rw [if_neg (show ¬ nI R < nI k by rw [pu_lt]; omega), (ps_mkR h lat hl ht hk8).2 (fun q => hb q.1), if_pos rfl, show nI k + 1 = nI (k + 1) from nI_1 k]
      exact ps_b29n h lat hl ht hR e2 hb V d (k + 1) (by omega) (by omega) (by omega)
theorem ps_ld {pl rf : cr_S} {ln : Nat → Int64} (h : ps_P pl rf ln) (lat : Int64) {l t : Nat} (hl : l ≤ 10) (ht : t ≤ 10) (v : Int32) (V : Int64) (hv : 0 ≤ v.toInt) (hV : V.toInt = v.toInt) : (lo_Ref_blocking_29 rf lat ln (nI t) (nI l) 9 V 1).toInt = (cr_max v (md_Plan_longestDelay pl (nI t) (nI l))).toInt ∧ 0 ≤ (cr_max v (md_Plan_longestDelay pl (nI t) (nI l))).toInt := by
  have k0 : (0 : Int32).toInt = 0 := by decide
  obtain ⟨T, R, hN, -⟩ := id h
  obtain ⟨a1, a2, a3, a4, a5, a6, a7, a8, a9⟩ := hN
  have mt := cr_max_t v (md_Plan_longestDelay pl (nI t) (nI l))
  have ml := ps_belM pl hl ht
  rw [show (1 : Int32) = nI 1 from rfl]
  by_cases b : ps_bel pl l t
  · have q := ps_b29 h lat hl ht a2 a5 a6 b v 9 1 0 V (by omega) (by omega) (by omega) (by omega) (by omega)
    have e : md_Plan_longestDelay pl (nI t) (nI l) = lo_Plan_longestDelay_16 pl (nI t) (nI l) 9 0 (nI 1) := by
      unfold md_Plan_longestDelay
      rw [ml.1 b, if_neg (by decide)]
      rfl
    rw [e] at mt ⊢
    omega
  · have q := ps_b29n h lat hl ht a2 a6 b V 9 1 (by omega) (by omega) (by omega)
    have e : md_Plan_longestDelay pl (nI t) (nI l) = 0 := by
      unfold md_Plan_longestDelay
      rw [ml.2 b, if_pos rfl]
    rw [e] at mt ⊢
    rw [q]
    omega
theorem ps_b17 {pl rf : cr_S} {ln : Nat → Int64} (h : ps_P pl rf ln) (mn : cr_S) (lt : Int64) (bd lk tr tb : cr_S) (lat : Int64) {t T : Nat} (ht : t ≤ 10) (hT : T ≤ 10) (e1 : pl 0 0 = nI T) (e2 : rf 0 0 = nI T) : ∀ (d k : Nat) (v : Int32) (V : Int64), 1 ≤ k → k ≤ T + 1 → 11 < d + k → 0 ≤ v.toInt → V.toInt = v.toInt → lo_Main_blocking_19 mn lt pl bd lk tr tb (nI t) d v (nI k) = lo_Ref_blocking_17 rf lat ln (nI t) d V (nI k)
  | 0, k, v, V, _, a, b, _, _ => absurd b (by omega)
  | d + 1, k, v, V, h1, hk, hd, hv, hV => by
    have kt := ps_nI_t (k := k) (by omega)
    have Tt := ps_nI_t (k := T) (by omega)
    rw [lo_Main_blocking_19, lo_Ref_blocking_17, e1, e2]
    by_cases e : k = T + 1
    · subst e
      have lt : nI T < nI (T + 1) := by rw [pu_lt]; omega
      rw [if_pos lt, if_pos lt]
      exact Int64.toInt_inj.mp (by rw [ps_i64]; exact hV.symm)
    · have nlt : ¬ nI T < nI k := by rw [pu_lt]; omega
      have q := ps_ld h lat (l := k) (t := t) (by omega) ht v V hv hV
      rw [if_neg nlt, if_neg nlt, show nI k + 1 = nI (k + 1) from nI_1 k]
      exact ps_b17 h mn lt bd lk tr tb lat ht hT e1 e2 d (k + 1) _ _ (by omega) (by omega) (by omega) q.2 q.1
theorem ps_blocking {pl rf : cr_S} {ln : Nat → Int64} (h : ps_P pl rf ln) (mn : cr_S) (lt : Int64) (bd lk tr tb : cr_S) (lat : Int64) (x : Int32) : md_Main_blocking mn lt pl bd lk tr tb x = md_Ref_blocking rf lat ln x := by
  have n1 : ¬ (1 : Int32) = 0 := by decide
  obtain ⟨T, R, hN, -⟩ := id h
  unfold md_Main_blocking md_Ref_blocking
  rcases ps_hasT hN lat ln x with ⟨q1, q2⟩ | ⟨q1, q2, k, g1, g2, rfl⟩
  · rw [q1, q2, if_pos rfl, if_pos rfl]
  · rw [q1, q2, if_neg n1, if_neg n1]
    obtain ⟨a1, a2, a3, a4, a5, a6, a7, a8, a9⟩ := hN
    exact ps_b17 h mn lt bd lk tr tb lat (by omega) a1 a3 a4 11 1 0 0 (by omega) (by omega) (by omega) (by decide) (by decide)
