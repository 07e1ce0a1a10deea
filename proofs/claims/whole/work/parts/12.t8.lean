/-! the trial: ticks that do nothing, and the loop of ticks -/
theorem ps_st0 {rf : cr_S} (lat : Int64) (ln : Nat → Int64) (x1 : Int64) (w : Int32) {T : Nat} (hT : T ≤ 10) (e0 : rf 0 0 = nI T) (ph : ∀ q, 1 ≤ q → q ≤ 10 → (x1 >>> (((3 : Int32) * (nI q - (1 : Int32))).toInt64 &&& 63)) &&& (7 : Int64) = ps_ph x1 q) (no : ∀ q, 1 ≤ q → q ≤ T → ps_ph x1 q ≠ w.toInt64) (v : Int32) : ∀ (d k : Nat), 1 ≤ k → k ≤ T + 1 → 11 < d + k → lo_Ref_plain_75 lat ln x1 w d rf v (nI k) = (rf, v)
  | 0, k, _, a, b => absurd b (by omega)
  | d + 1, k, h1, hk, hd => by
    have kt := ps_nI_t (k := k) (by omega)
    have Tt := ps_nI_t (k := T) (by omega)
    rw [lo_Ref_plain_75, e0]
    by_cases e : k = T + 1
    · rw [if_pos (show nI T < nI k by rw [pu_lt]; omega)]
    · rw [if_neg (show ¬ nI T < nI k by rw [pu_lt]; omega), ph k h1 (by omega), if_neg (show ¬ lg_cmp (ps_ph x1 k) w.toInt64 = 0 by rw [lg_cmp_eq]; exact no k h1 (by omega)), show nI k + 1 = nI (k + 1) from nI_1 k]
      exact ps_st0 lat ln x1 w hT e0 ph no v d (k + 1) (by omega) (by omega) (by omega)
theorem ps_co0 {rf : cr_S} (lat : Int64) (ln : Nat → Int64) (x1 : Int64) (w3 w4 : Int32) (no : ∀ c, md_Ref_trialRuns rf lat ln c = 0) : ∀ (d c : Nat), 1 ≤ c → c ≤ 4 → 4 < d + c → lo_Ref_plain_134 lat ln x1 w3 w4 d rf (nI c) = rf
  | 0, c, _, a, b => absurd b (by omega)
  | d + 1, c, h1, hc, hd => by
    have ct := ps_nI_t (k := c) (by omega)
    have k4 : (4 : Int32).toInt = 4 := by decide
    rw [ps_134E]
    by_cases e : c = 4
    · rw [if_pos (show (4 : Int32) ≤ nI c by rw [pu_le]; omega)]
    · rw [if_neg (show ¬ (4 : Int32) ≤ nI c by rw [pu_le]; omega), if_pos (no (nI c)), show nI c + 1 = nI (c + 1) from nI_1 c]
      exact ps_co0 lat ln x1 w3 w4 no d (c + 1) (by omega) (by omega) (by omega)
theorem ps_idle {rf : cr_S} (lat : Int64) (ln : Nat → Int64) (x1 : Int64) {T : Nat} (hT : T ≤ 10) (e0 : rf 0 0 = nI T) (ph : ∀ q, 1 ≤ q → q ≤ 10 → (x1 >>> (((3 : Int32) * (nI q - (1 : Int32))).toInt64 &&& 63)) &&& (7 : Int64) = ps_ph x1 q) (no : ∀ c, md_Ref_trialRuns rf lat ln c = 0) (v : Int32) : ∀ (d τ : Nat), τ ≤ 400 → 400 < d + τ → (∀ q, 1 ≤ q → q ≤ T → (ps_ph x1 q).toInt < τ) → lo_Ref_plain_64 lat ln x1 d rf v (nI τ) = lo_Ref_plain_344 rf lat ln x1 11 0 1
  | 0, τ, a, b, _ => absurd b (by omega)
  | d + 1, τ, hτ, hd, hp => by
    have tt := ps_nI_t (k := τ) (by omega)
    have k4 : (400 : Int32).toInt = 400 := by decide
    rw [lo_Ref_plain_64]
    by_cases e : τ = 400
    · rw [if_pos (show (400 : Int32) ≤ nI τ by rw [pu_le]; omega)]
    · have s : lo_Ref_plain_75 lat ln x1 (nI τ) 11 rf v 1 = (rf, v) := ps_st0 lat ln x1 (nI τ) hT e0 ph (fun q q1 q2 z => by
        have a := hp q q1 q2
        have b := ps_i32_64 (k := τ) (by omega)
        rw [z, b] at a
        omega) v 11 1 (by omega) (by omega) (by omega)
      have c : lo_Ref_plain_134 lat ln x1 v (nI τ) 4 rf 1 = rf := ps_co0 lat ln x1 v (nI τ) no 4 1 (by omega) (by omega) (by omega)
      rw [if_neg (show ¬ (400 : Int32) ≤ nI τ by rw [pu_le]; omega), s, show nI τ + 1 = nI (τ + 1) from nI_1 τ]
      show lo_Ref_plain_64 lat ln x1 d (lo_Ref_plain_134 lat ln x1 v (nI τ) 4 rf 1) v (nI (τ + 1)) = _
      rw [c]
      exact ps_idle lat ln x1 hT e0 ph no v d (τ + 1) (by omega) (by omega) (fun q q1 q2 => by have := hp q q1 q2; omega)
theorem ps_sum_nn {pl tr rf : cr_S} {T : Nat} (h : ps_TS pl tr rf T) : ∀ n : Nat, n ≤ T → 0 ≤ ps_sum (tr 1) n ∧ ps_sum (tr 1) n ≤ 33 * (n : Int)
  | 0, _ => ⟨Int.le_refl _, Int.le_refl _⟩
  | n + 1, hn => by
    have ih := ps_sum_nn h n (by omega)
    obtain ⟨d, d1, d2, d3, d4⟩ := h (n + 1) (by omega) hn
    have dt := ps_nI_t (k := d) (by omega)
    rw [ps_sum, d2, dt]
    omega
theorem ps_full {pl tr rf : cr_S} {ln : Nat → Int64} {T R : Nat} (hP : ps_Pl pl rf ln T R) (h : ps_TS pl tr rf T) : ∀ n : Nat, n ≤ T → 33 * (n : Int) ≤ ps_sum (tr 1) n → ∀ q, 1 ≤ q → q ≤ n → rf 13 q = 2
  | 0, _, _, q, a, b => absurd b (by omega)
  | n + 1, hn, hs, q, q1, q2 => by
    have a1 := hP.1.1
    have up := ps_sum_nn h n (by omega)
    obtain ⟨d, d1, d2, d3, d4⟩ := h (n + 1) (by omega) hn
    have dt := ps_nI_t (k := d) (by omega)
    have to := ps_to33 hP (t := n + 1) (by omega)
    rw [ps_sum, d2, dt] at hs
    by_cases w : q = n + 1
    · rw [w]
      rcases d4 with ⟨_, z⟩ | ⟨_, z⟩ | ⟨z, _⟩
      · omega
      · omega
      · exact z
    · exact ps_full hP h n (by omega) (by omega) q q1 (by omega)
theorem ps_main {pl : cr_S} {ln : Nat → Int64} {T R : Nat} (lat x1 : Int64) (ph : ∀ q, 1 ≤ q → q ≤ 10 → (x1 >>> (((3 : Int32) * (nI q - (1 : Int32))).toInt64 &&& 63)) &&& (7 : Int64) = ps_ph x1 q) (phr : ∀ q, 1 ≤ q → q ≤ 10 → 0 ≤ (ps_ph x1 q).toInt ∧ (ps_ph x1 q).toInt ≤ 7) : ∀ (d τ : Nat) (rf tr tb : cr_S) (v : Int32), ps_Pl pl rf ln T R → ps_TQ pl rf tr tb T R → ps_PH x1 τ 1 rf T → tb 0 0 = v → 0 ≤ v.toInt → v.toInt ≤ 20 * τ → τ ≤ 338 → d + τ = 339 → (τ : Int) - 8 ≤ ps_sum (tr 1) T → ∃ a rf' tr' tb', lo_Trial_mostDelays_6 pl x1 d tr tb (nI τ) = (a, tr', tb') ∧ lo_Ref_plain_64 lat ln x1 (401 - τ) rf v (nI τ) = (a, rf') ∧ ps_TQ pl rf' tr' tb' T R ∧ ps_TF rf rf'
  | 0, τ, rf, tr, tb, v, _, _, _, _, _, _, a, b, _ => absurd b (by omega)
  | d + 1, τ, rf, tr, tb, v, hP, hQ, hH, hv, v0, v1, hτ, hd, hs => by
    obtain ⟨⟨a1, a2, a3, a4, a5, a6, a7, a8, a9⟩, pL, pR, pU, pC, pO⟩ := id hP
    obtain ⟨Q1, Q2, Q3, Q4, Q5, Q6, Q7, Q8, Q9⟩ := id hQ
    have tt := ps_nI_t (k := τ) (by omega)
    have Tt := ps_nI_t (k := T) (by omega)
    have k338 : (338 : Int32).toInt = 338 := by decide
    have k400 : (400 : Int32).toInt = 400 := by decide
    have fin : (∀ q, 1 ≤ q → q ≤ T → rf 13 q = 2) → ∃ a rf' tr' tb', lo_Trial_mostDelays_81 pl tr tb x1 11 0 1 = (a, tr', tb') ∧ lo_Ref_plain_64 lat ln x1 (401 - τ) rf v (nI τ) = (a, rf') ∧ ps_TQ pl rf' tr' tb' T R ∧ ps_TF rf rf' := fun all => by
      have no : ∀ c, md_Ref_trialRuns rf lat ln c = 0 := fun c => by
        obtain ⟨g, g1, g2, g3, g4⟩ := ps_pick hP hQ lat c
        by_cases z : g = 0
        · rw [g2, z]
          rfl
        · have gr := ps_best_r g3 z
          have := (Q4 g gr.1 g4).1.mpr gr.2.2.2
          rw [all g gr.1 g4] at this
          exact absurd this (by decide)
      have idl := ps_idle lat ln x1 a1 a4 ph no v (401 - τ) τ (by omega) (by omega) (fun q q1 q2 => by
        have h2 := (hH q q1 q2).2 q1
        rw [all q q1 q2] at h2
        rcases Int.lt_or_le (ps_ph x1 q).toInt τ with w | w
        · exact w
        · exact absurd (h2.mpr w) (by decide))
      obtain ⟨a, m1, m2⟩ := ps_moL tb (ln := ln) a1 a3 a4 Q5 lat x1 11 1 0 (by omega) (by omega) (by omega)
      exact ⟨a, rf, tr, tb, m1, idl.trans m2, hQ, ps_TF_r rf⟩
    rw [lo_Trial_mostDelays_6, a3]
    by_cases e : τ = 338
    · rw [if_pos (show (338 : Int32) ≤ nI τ by rw [pu_le]; omega)]
      exact fin (ps_full hP Q3 T (Nat.le_refl _) (by omega))
    · rw [if_neg (show ¬ (338 : Int32) ≤ nI τ by rw [pu_le]; omega)]
      by_cases c : nI T ≤ tr 0 0
      · rw [if_pos c]
        refine fin (fun q q1 q2 => ps_cnt_all T ?_ q q1 q2)
        have c' := cr_le c
        have le := ps_cnt_le (rf 13) 2 T
        have ct := ps_nI_t (k := ps_cnt (rf 13) 2 T) (by omega)
        rw [Q6, ct, Tt] at c'
        omega
      · rw [if_neg c]
        obtain ⟨rf1, tb1, v', s1, s2, s3, s4, s5, s6, s7, s8⟩ := ps_stL (pl := pl) (tr := tr) (ln := ln) (T := T) (R := R) (τ := τ) lat x1 (by omega) ph 11 1 rf tb v hP hQ hH hv v0 (by omega) (by omega) (by omega) (by omega)
        have s1' : md_Trial_startThoseDue pl tr tb x1 (nI τ) = tb1 := s1
        have s2' : lo_Ref_plain_75 lat ln x1 (nI τ) 11 rf v 1 = (rf1, v') := s2
        have hP1 := ps_Pl_TF hP s4
        obtain ⟨rf2, tr2, tb2, c1, c2, c3, c4, c5, c6, c7, c8⟩ := ps_coL lat x1 (nI τ) v' (nI τ) 4 1 rf1 tr tb1 hP1 s3 (by omega) (by omega) (by omega)
        have c1' : lo_Trial_mostDelays_36 pl x1 (nI τ) 4 tr tb1 1 = (tr2, tb2) := c1
        have c2' : lo_Ref_plain_134 lat ln x1 v' (nI τ) 4 rf1 1 = rf2 := c2
        have sn := ps_sum_nn c3.2.2.1 T (Nat.le_refl _)
        have h2 : ps_PH x1 (τ + 1) 1 rf2 T := fun q q1 q2 => by
          rw [c6 q]
          exact s5 q q1 q2
        have sm : ((τ + 1 : Nat) : Int) - 8 ≤ ps_sum (tr2 1) T := by
          by_cases w : τ ≤ 7
          · omega
          · by_cases ex : ∃ q, 1 ≤ q ∧ q ≤ T ∧ rf1 13 q ≠ 2
            · obtain ⟨q, q1, q2, q3⟩ := ex
              have b1 : tb1 1 q = 1 := by
                obtain ⟨dd, _, _, _, d4⟩ := s3.2.2.1 q q1 q2
                rcases d4 with ⟨z, _⟩ | ⟨z, _⟩ | ⟨z, _⟩
                · have y := ((s5 q q1 q2).2 q1).mp z
                  have := phr q q1 (by omega)
                  omega
                · exact (s3.2.2.2.1 q q1 q2).1.mp z
                · exact absurd z q3
              have pr := pR q q1 q2
              have := c8 ⟨q, q1, q2, b1, pr.2.2.1, pr.2.2.2⟩
              omega
            · have al : ∀ q, 1 ≤ q → q ≤ T → rf1 13 q = 2 := fun q q1 q2 => Decidable.byContradiction (fun q3 => ex ⟨q, q1, q2, q3⟩)
              have cf := ps_cnt_full T al
              have q6 : tr 0 0 = nI (ps_cnt (rf1 13) 2 T) := s3.2.2.2.2.2.1
              rw [cf] at q6
              exact absurd (show nI T ≤ tr 0 0 by rw [q6, pu_le]; exact Int.le_refl _) c
        obtain ⟨a, rf', tr', tb', i1, i2, i3, i4⟩ := ps_main lat x1 ph phr d (τ + 1) rf2 tr2 tb2 v' (ps_Pl_TF hP1 c4) c3 h2 (by rw [c5]; exact s6) s7 (by omega) (by omega) (by omega) sm
        refine ⟨a, rf', tr', tb', ?_, ?_, i3, ps_TF_t s4 (ps_TF_t c4 i4)⟩
        · rw [s1', c1', show nI τ + 1 = nI (τ + 1) from nI_1 τ]
          exact i1
        · rw [show 401 - τ = (401 - (τ + 1)) + 1 by omega, lo_Ref_plain_64, if_neg (show ¬ (400 : Int32) ≤ nI τ by rw [pu_le]; omega), s2', show nI τ + 1 = nI (τ + 1) from nI_1 τ]
          show lo_Ref_plain_64 lat ln x1 (401 - (τ + 1)) (lo_Ref_plain_134 lat ln x1 v' (nI τ) 4 rf1 1) v' (nI (τ + 1)) = _
          rw [c2']
          exact i2
