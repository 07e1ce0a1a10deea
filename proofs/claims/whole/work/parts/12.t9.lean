/-! the trial: the beginning -/
theorem ps_r17L (lat : Int64) (ln : Nat → Int64) (x1 : Int64) : ∀ (d j : Nat) (rf : cr_S), j ≤ 1089 → 1089 < d + j → (∀ i, i < j → rf 17 i = 0) → ∃ rf', lo_Ref_plain_2 lat ln x1 d rf (nI j) = lo_Ref_plain_24 lat ln x1 11 rf' 1 ∧ (∀ c, c ≠ 17 → rf' c = rf c) ∧ ∀ i, i < 1089 → rf' 17 i = 0
  | 0, j, rf, a, b, _ => absurd b (by omega)
  | d + 1, j, rf, hj, hd, hz => by
    have jt := ps_nI_t (k := j) (by omega)
    have k : (1089 : Int32).toInt = 1089 := by decide
    rw [lo_Ref_plain_2]
    by_cases e : j = 1089
    · rw [if_pos (show (1089 : Int32) ≤ nI j by rw [pu_le]; omega)]
      exact ⟨rf, rfl, fun _ _ => rfl, fun i hi => hz i (by omega)⟩
    · rw [if_neg (show ¬ (1089 : Int32) ≤ nI j by rw [pu_le]; omega), ps_nI_c (k := j) (by omega), show nI j + 1 = nI (j + 1) from nI_1 j]
      obtain ⟨rf', i1, i2, i3⟩ := ps_r17L lat ln x1 d (j + 1) (cr_up rf 17 j 0) (by omega) (by omega) (fun i hi => by
        by_cases w : i = j
        · rw [w, pu_up_same]
        · rw [pu_up_place _ _ _ w]
          exact hz i (by omega))
      exact ⟨rf', i1, fun c hc => by rw [i2 c hc, pu_up_cell _ _ _ hc], i3⟩
theorem ps_r24L (lat : Int64) (ln : Nat → Int64) (x1 : Int64) {T : Nat} (hT : T ≤ 10) : ∀ (d k : Nat) (rf : cr_S), rf 0 0 = nI T → 1 ≤ k → k ≤ T + 1 → 11 < d + k → (∀ q, 1 ≤ q → q < k → rf 13 q = 0 ∧ rf 15 q = 0 ∧ rf 16 q = 0) → cr_rh rf 16 (-1) 8 → ∃ rf', lo_Ref_plain_24 lat ln x1 d rf (nI k) = lo_Ref_plain_64 lat ln x1 401 rf' 0 0 ∧ (∀ c, c ≠ 13 → c ≠ 15 → c ≠ 16 → rf' c = rf c) ∧ (∀ q, 1 ≤ q → q ≤ T → rf' 13 q = 0 ∧ rf' 15 q = 0 ∧ rf' 16 q = 0) ∧ cr_rh rf' 16 (-1) 8
  | 0, k, rf, _, _, a, b, _, _ => absurd b (by omega)
  | d + 1, k, rf, e0, h1, hk, hd, hz, hh => by
    have kt := ps_nI_t (k := k) (by omega)
    have Tt := ps_nI_t (k := T) (by omega)
    rw [lo_Ref_plain_24, e0]
    by_cases e : k = T + 1
    · rw [if_pos (show nI T < nI k by rw [pu_lt]; omega)]
      exact ⟨rf, rfl, fun _ _ _ _ => rfl, fun q q1 q2 => hz q q1 (by omega), hh⟩
    · rw [if_neg (show ¬ nI T < nI k by rw [pu_lt]; omega), ps_nI_c (k := k) (by omega), show nI k + 1 = nI (k + 1) from nI_1 k]
      have c13 : (cr_up (cr_up (cr_up rf 13 k 0) 15 k 0) 16 k 0) 13 = upd (rf 13) k 0 := by simp [cr_up]
      have c15 : (cr_up (cr_up (cr_up rf 13 k 0) 15 k 0) 16 k 0) 15 = upd (rf 15) k 0 := by simp [cr_up]
      have c16 : (cr_up (cr_up (cr_up rf 13 k 0) 15 k 0) 16 k 0) 16 = upd (rf 16) k 0 := by simp [cr_up]
      have cc : ∀ c, c ≠ 13 → c ≠ 15 → c ≠ 16 → (cr_up (cr_up (cr_up rf 13 k 0) 15 k 0) 16 k 0) c = rf c := fun c q1 q2 q3 => by rw [pu_up_cell _ _ _ q3, pu_up_cell _ _ _ q2, pu_up_cell _ _ _ q1]
      generalize cr_up (cr_up (cr_up rf 13 k 0) 15 k 0) 16 k 0 = rf1 at c13 c15 c16 cc ⊢
      obtain ⟨rf', i1, i2, i3, i4⟩ := ps_r24L lat ln x1 hT d (k + 1) rf1 (by rw [cc 0 (by decide) (by decide) (by decide)]; exact e0) (by omega) (by omega) (by omega) (fun q q1 q2 => by
        rw [c13, c15, c16]
        by_cases w : q = k
        · rw [w, ps_us_s, ps_us_s, ps_us_s]
          exact ⟨rfl, rfl, rfl⟩
        · rw [ps_us_n _ _ w, ps_us_n _ _ w, ps_us_n _ _ w]
          exact hz q q1 (by omega)) (fun j => by
        rw [c16]
        by_cases w : j = k
        · rw [w, ps_us_s]
          decide
        · rw [ps_us_n _ _ w]
          exact hh j)
      exact ⟨rf', i1, fun c q1 q2 q3 => (i2 c q1 q2 q3).trans (cc c q1 q2 q3), i3, i4⟩
theorem ps_clL {pl : cr_S} {T : Nat} (hT : T ≤ 10) (e0 : pl 0 0 = nI T) : ∀ (d k : Nat) (tr tb : cr_S), 1 ≤ k → k ≤ T + 1 → 11 < d + k → (∀ q u, 1 ≤ q → q < k → u ≤ 10 → tr (3 + q) u = 0) → ∃ tr', lo_Trial_clear_22 pl d tr tb (nI k) = (tr', tb) ∧ (∀ c, c ≤ 3 → tr' c = tr c) ∧ ∀ q u, 1 ≤ q → q ≤ T → u ≤ 10 → tr' (3 + q) u = 0
  | 0, k, tr, tb, _, a, b, _ => absurd b (by omega)
  | d + 1, k, tr, tb, h1, hk, hd, hz => by
    have kt := ps_nI_t (k := k) (by omega)
    have Tt := ps_nI_t (k := T) (by omega)
    rw [lo_Trial_clear_22, e0]
    by_cases e : k = T + 1
    · rw [if_pos (show nI T < nI k by rw [pu_lt]; omega)]
      exact ⟨tr, rfl, fun _ _ => rfl, fun q u q1 q2 q3 => hz q u q1 (by omega) q3⟩
    · rw [if_neg (show ¬ nI T < nI k by rw [pu_lt]; omega), ps_nI_c (k := k) (by omega), show nI k + 1 = nI (k + 1) from nI_1 k]
      obtain ⟨tr', i1, i2, i3⟩ := ps_clL hT e0 d (k + 1) (cr_fill tr (3 + k) 11 0) tb (by omega) (by omega) (by omega) (fun q u q1 q2 q3 => by
        unfold cr_fill
        by_cases w : q = k
        · rw [w, if_pos rfl]
          unfold cr_fl
          rw [if_pos (show u < 11 by omega)]
        · rw [if_neg (show ¬ 3 + q = 3 + k by omega)]
          exact hz q u q1 (by omega) q3)
      refine ⟨tr', i1, fun c hc => ?_, i3⟩
      rw [i2 c hc]
      unfold cr_fill
      rw [if_neg (show ¬ c = 3 + k by omega)]
theorem ps_cnt_no {f : Nat → Int32} {x : Int32} : ∀ n : Nat, (∀ j, 1 ≤ j → j ≤ n → f j ≠ x) → ps_cnt f x n = 0
  | 0, _ => rfl
  | n + 1, h => by
    rw [ps_cnt, ps_cnt_no n (fun j a b => h j a (by omega)), if_neg (h (n + 1) (by omega) (Nat.le_refl _))]
/-- the beginning of a trial -/
theorem ps_TQ0 {pl rf tr tb : cr_S} {ln : Nat → Int64} {T R : Nat} (hP : ps_Pl pl rf ln T R) (c1 : ∀ j, tb 1 j = 0) (c4 : ∀ j, tb 4 j = 0) (c5 : ∀ j, tb 5 j = 0) (c3 : ∀ j, j ≤ 10 → tb 3 j = 0) (cR : cr_RBoard tb) (t0 : tr 0 0 = 0) (t1 : ∀ j, j ≤ 10 → tr 1 j = 0) (t3 : ∀ q u, 1 ≤ q → q ≤ T → u ≤ 10 → tr (3 + q) u = 0) (r17 : ∀ i, i < 1089 → rf 17 i = 0) (rz : ∀ q, 1 ≤ q → q ≤ T → rf 13 q = 0 ∧ rf 15 q = 0 ∧ rf 16 q = 0) (rh : cr_rh rf 16 (-1) 8) : ps_TQ pl rf tr tb T R := by
  have a1 := hP.1.1
  have n01 : ¬ (0 : Int32) = 1 := by decide
  have no1 : ∀ t, tb 1 t = 1 → False := fun t q => by
    rw [c1 t] at q
    exact n01 q
  have no4 : ∀ a j, 1 ≤ a → a ≤ T → tb 4 j = nI a → False := fun a j q1 q2 q3 => by
    rw [c4 j] at q3
    exact ps_nz q1 (by omega) q3.symm
  refine ⟨⟨fun t => Or.inl (c1 t), fun t q => (no1 t q).elim, fun t u q => (no1 t q).elim, fun j => Or.inl (c4 j), fun a b j q1 q2 q3 => (no4 a j q1 q2 q3).elim, fun a b i j _ q1 q2 _ _ q3 => (no4 a i q1 q2 q3).elim⟩, fun t q1 q2 => ?_, fun t q1 q2 => ?_, fun t q1 q2 => ?_, fun k u q1 q2 q3 => ?_, ?_, c5, cR, rh⟩
  · rw [(rz t q1 q2).2.2, c3 t (by omega)]
    exact ⟨rfl, Or.inl ⟨rfl, fun j q => no4 t j q1 q2 q⟩⟩
  · refine ⟨0, by omega, ?_, ?_, Or.inl ⟨(rz t q1 q2).1, rfl⟩⟩
    · rw [t1 t (by omega)]
      rfl
    · rw [(rz t q1 q2).2.1]
      rfl
  · rw [(rz t q1 q2).1, c1 t]
    exact ⟨⟨fun q => absurd q n01, fun q => absurd q n01⟩, fun q => absurd q n01⟩
  · refine ⟨0, by omega, ?_, fun r hr => ?_, fun _ => rfl⟩
    · rw [t3 k u q1 q2 q3]
      rfl
    · rw [r17 _ (by omega), Nat.zero_testBit]
      rfl
  · unfold ps_TE
    rw [t0, ps_cnt_no T (fun j q1 q2 => by rw [(rz j q1 q2).1]; decide)]
    rfl
theorem ps_clear {pl tr tb : cr_S} {T : Nat} (hT : T ≤ 10) (e0 : pl 0 0 = nI T) (h : ps_TZ tb) : ∃ tr' tb', md_Trial_clear pl tr tb = (tr', tb') ∧ (∀ j, tb' 1 j = 0) ∧ (∀ j, tb' 4 j = 0) ∧ (∀ j, tb' 5 j = 0) ∧ (∀ j, j ≤ 10 → tb' 3 j = 0) ∧ cr_RBoard tb' ∧ tb' 0 0 = 0 ∧ tr' 0 0 = 0 ∧ (∀ j, j ≤ 10 → tr' 1 j = 0) ∧ ∀ q u, 1 ≤ q → q ≤ T → u ≤ 10 → tr' (3 + q) u = 0 := by
  obtain ⟨hR, z1, z4, z5⟩ := h
  have z : 0 ≤ (0 : Int32).toInt ∧ (0 : Int32).toInt ≤ 8 := by decide
  obtain ⟨tr', i1, i2, i3⟩ := ps_clL hT e0 11 1 (cr_fill (cr_up tr 0 0 0) 1 11 0) (md_Board_clear pl tb) (by omega) (by omega) (by omega) (fun q u q1 q2 => absurd q2 (by omega))
  refine ⟨tr', md_Board_clear pl tb, i1, fun j => ?_, fun j => ?_, fun j => ?_, fun j hj => ?_, ⟨?_, ?_⟩, ?_, ?_, fun j hj => ?_, i3⟩
  · by_cases w : j < 11
    · simp [md_Board_clear, cr_fill, cr_fl, cr_up, w]
    · simp [md_Board_clear, cr_fill, cr_fl, cr_up, w, z1 j (by omega)]
  · by_cases w : j < 9
    · simp [md_Board_clear, cr_fill, cr_fl, cr_up, w]
    · simp [md_Board_clear, cr_fill, cr_fl, cr_up, w, z4 j (by omega)]
  · by_cases w : j < 9
    · simp [md_Board_clear, cr_fill, cr_fl, cr_up, w]
    · simp [md_Board_clear, cr_fill, cr_fl, cr_up, w, z5 j (by omega)]
  · have w : j < 11 := by omega
    simp [md_Board_clear, cr_fill, cr_fl, cr_up, w]
  · exact cr_rg_fill (cr_rg_fill (cr_rg_fill (cr_rg_up (cr_rg_fill (cr_rg_fill hR.1 (fun _ => z)) (fun _ => z)) (fun _ => z)) (fun _ => z)) (fun _ => z)) (fun _ => z)
  · exact cr_rg_fill (cr_rg_fill (cr_rg_fill (cr_rg_up (cr_rg_fill (cr_rg_fill hR.2 (fun _ => z)) (fun _ => z)) (fun _ => z)) (fun _ => z)) (fun _ => z)) (fun _ => z)
  · simp [md_Board_clear, cr_fill, cr_fl, cr_up, upd]
  · rw [i2 0 (by omega)]
    simp [cr_fill, cr_up, upd]
  · rw [i2 1 (by omega)]
    have w : j < 11 := by omega
    simp [cr_fill, cr_fl, w]
