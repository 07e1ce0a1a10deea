/-! the trial: counting the delays -/
def ps_bits (m : Nat) : Nat → Nat
  | 0 => 0
  | n + 1 => ps_bits m n + (if m.testBit n then 1 else 0)
theorem ps_bc : ∀ m, m < 512 → md_Integer_bitCount (nI m) = nI (ps_bits m 9) := by decide +kernel
def ps_cc (rf : cr_S) (k : Nat) : Nat → Nat
  | 0 => 0
  | j + 1 => ps_cc rf k j + (if rf 17 (99 * k + j) = 0 then 0 else 1)
theorem ps_cc_le (rf : cr_S) (k : Nat) : ∀ j : Nat, ps_cc rf k j ≤ j
  | 0 => Nat.le_refl _
  | j + 1 => by
    have ih := ps_cc_le rf k j
    rw [ps_cc]
    by_cases c : rf 17 (99 * k + j) = 0
    · rw [if_pos c]
      omega
    · rw [if_neg c]
      omega
theorem ps_ccL (rf : cr_S) (lat : Int64) (ln : Nat → Int64) (x1 : Int64) (w4 : Int32) {k : Nat} (hk : k ≤ 10) : ∀ (d j : Nat), j ≤ 99 → 99 < d + j → lo_Ref_plain_359 rf lat ln x1 w4 (nI k) d (nI (ps_cc rf k j)) (nI j) = nI (ps_cc rf k 99)
  | 0, j, a, b => absurd b (by omega)
  | d + 1, j, hj, hd => by
    have jt := ps_nI_t (k := j) (by omega)
    have k99 : (99 : Int32).toInt = 99 := by decide
    rw [lo_Ref_plain_359]
    by_cases e : j = 99
    · rw [if_pos (show (99 : Int32) ≤ nI j by rw [pu_le]; omega), e]
    · have ix : ((99 : Int32) * nI k + nI j).toNatClampNeg = 99 * k + j := by
        rw [show (99 : Int32) = nI 99 from rfl, pk_mul, nI_add, ps_nI_c (by omega)]
      rw [if_neg (show ¬ (99 : Int32) ≤ nI j by rw [pu_le]; omega), ix, show nI j + 1 = nI (j + 1) from nI_1 j]
      have ih := ps_ccL rf lat ln x1 w4 hk d (j + 1) (by omega) (by omega)
      rw [ps_cc] at ih
      by_cases c : rf 17 (99 * k + j) = 0
      · rw [if_pos c] at ih ⊢
        exact ih
      · rw [if_neg c] at ih ⊢
        rw [show nI (ps_cc rf k j) + 1 = nI (ps_cc rf k j + 1) from nI_1 _]
        exact ih
theorem ps_cc9 {rf : cr_S} {k u m : Nat} (h : ∀ r, r ≤ 8 → rf 17 (99 * k + 9 * u + r) = if m.testBit r then 1 else 0) : ∀ n : Nat, n ≤ 9 → ps_cc rf k (9 * u + n) = ps_cc rf k (9 * u) + ps_bits m n
  | 0, _ => rfl
  | n + 1, hn => by
    have ih := ps_cc9 h n (by omega)
    have e := h n (by omega)
    rw [show 9 * u + (n + 1) = 9 * u + n + 1 from rfl, ps_cc, ps_bits, ih, show 99 * k + (9 * u + n) = 99 * k + 9 * u + n by omega, e]
    by_cases c : m.testBit n = true
    · rw [if_pos c, if_neg (show ¬ (1 : Int32) = 0 by decide), if_pos c]
      omega
    · rw [if_neg c, if_pos rfl, if_neg c]
      omega
theorem ps_b0 : ∀ n : Nat, ps_bits 0 n = 0
  | 0 => rfl
  | n + 1 => by
    rw [ps_bits, ps_b0 n, Nat.zero_testBit]
    rfl
theorem ps_ccZ {rf tr : cr_S} {T k : Nat} (h : ps_TD tr rf T) (k1 : 1 ≤ k) (k2 : k ≤ T) : ∀ i : Nat, T + 1 + i ≤ 11 → ps_cc rf k (9 * (T + 1 + i)) = ps_cc rf k (9 * (T + 1))
  | 0, _ => rfl
  | i + 1, hi => by
    have ih := ps_ccZ h k1 k2 i (by omega)
    obtain ⟨m, m1, m2, m3, m4⟩ := h k (T + 1 + i) k1 k2 (by omega)
    have z := m4 (Or.inr (by omega))
    have s := ps_cc9 m3 9 (by omega)
    rw [z, ps_b0] at s
    rw [show 9 * (T + 1 + (i + 1)) = 9 * (T + 1 + i) + 9 by omega, s, ih]
    rfl
theorem ps_cdL {pl rf tr : cr_S} (tb : cr_S) {T k : Nat} (hT : T ≤ 10) (e0 : pl 0 0 = nI T) (h : ps_TD tr rf T) (k1 : 1 ≤ k) (k2 : k ≤ T) : ∀ (d u : Nat), 1 ≤ u → u ≤ T + 1 → 11 < d + u → lo_Trial_countDelays_4 pl tr tb (nI k) d (nI (ps_cc rf k (9 * u))) (nI u) = nI (ps_cc rf k (9 * (T + 1)))
  | 0, u, _, a, b => absurd b (by omega)
  | d + 1, u, h1, hu, hd => by
    have ut := ps_nI_t (k := u) (by omega)
    have Tt := ps_nI_t (k := T) (by omega)
    rw [lo_Trial_countDelays_4, e0]
    by_cases e : u = T + 1
    · rw [if_pos (show nI T < nI u by rw [pu_lt]; omega), e]
    · obtain ⟨m, m1, m2, m3, m4⟩ := h k u k1 k2 (by omega)
      have s := ps_cc9 m3 9 (by omega)
      rw [if_neg (show ¬ nI T < nI u by rw [pu_lt]; omega), ps_nI_c (k := k) (by omega), ps_nI_c (k := u) (by omega), m2, ps_bc m m1, nI_add, ← s, show nI u + 1 = nI (u + 1) from nI_1 u, show 9 * u + 9 = 9 * (u + 1) by omega]
      exact ps_cdL tb hT e0 h k1 k2 d (u + 1) (by omega) (by omega) (by omega)
theorem ps_cd {pl rf tr : cr_S} (tb : cr_S) {T k : Nat} (hT : T ≤ 10) (e0 : pl 0 0 = nI T) (h : ps_TD tr rf T) (k1 : 1 ≤ k) (k2 : k ≤ T) (lat : Int64) (ln : Nat → Int64) (x1 : Int64) (w4 : Int32) : md_Trial_countDelays pl tr tb (nI k) = lo_Ref_plain_359 rf lat ln x1 w4 (nI k) 100 0 0 := by
  obtain ⟨m, m1, m2, m3, m4⟩ := h k 0 k1 k2 (by omega)
  have z := m4 (Or.inl rfl)
  have s := ps_cc9 m3 9 (by omega)
  rw [z, ps_b0] at s
  have s0 : ps_cc rf k (9 * 1) = 0 := s
  have a := ps_cdL tb hT e0 h k1 k2 11 1 (by omega) (by omega) (by omega)
  rw [s0] at a
  have b := ps_ccL rf lat ln x1 w4 (k := k) (by omega) 100 0 (by omega) (by omega)
  have c := ps_ccZ h k1 k2 (10 - T) (by omega)
  rw [show 9 * (T + 1 + (10 - T)) = 99 by omega] at c
  have a' : md_Trial_countDelays pl tr tb (nI k) = nI (ps_cc rf k (9 * (T + 1))) := a
  have b' : lo_Ref_plain_359 rf lat ln x1 w4 (nI k) 100 0 0 = nI (ps_cc rf k 99) := b
  rw [a', b', c]
theorem ps_moL {pl rf tr : cr_S} (tb : cr_S) {ln : Nat → Int64} {T : Nat} (hT : T ≤ 10) (e0 : pl 0 0 = nI T) (e0' : rf 0 0 = nI T) (h : ps_TD tr rf T) (lat x1 : Int64) : ∀ (d k : Nat) (v : Int32), 1 ≤ k → k ≤ T + 1 → 11 < d + k → ∃ a, lo_Trial_mostDelays_81 pl tr tb x1 d v (nI k) = (a, tr, tb) ∧ lo_Ref_plain_344 rf lat ln x1 d v (nI k) = (a, rf)
  | 0, k, v, _, a, b => absurd b (by omega)
  | d + 1, k, v, h1, hk, hd => by
    have kt := ps_nI_t (k := k) (by omega)
    have Tt := ps_nI_t (k := T) (by omega)
    rw [lo_Trial_mostDelays_81, lo_Ref_plain_344, e0, e0']
    by_cases e : k = T + 1
    · have lt : nI T < nI k := by rw [pu_lt]; omega
      rw [if_pos lt, if_pos lt]
      exact ⟨v, rfl, rfl⟩
    · have nlt : ¬ nI T < nI k := by rw [pu_lt]; omega
      rw [if_neg nlt, if_neg nlt, show nI k + 1 = nI (k + 1) from nI_1 k, ps_cd tb hT e0 h h1 (by omega) lat ln x1 v]
      have ih := fun v' => ps_moL tb (ln := ln) hT e0 e0' h lat x1 d (k + 1) v' (by omega) (by omega) (by omega)
      unfold cr_max
      by_cases c : lo_Ref_plain_359 rf lat ln x1 v (nI k) 100 0 0 ≤ v
      · have c' := cr_le c
        rw [if_pos c, if_neg (show ¬ v < lo_Ref_plain_359 rf lat ln x1 v (nI k) 100 0 0 by rw [pu_lt]; omega)]
        exact ih v
      · have c' := cr_nle c
        rw [if_neg c, if_pos (show v < lo_Ref_plain_359 rf lat ln x1 v (nI k) 100 0 0 by rw [pu_lt]; omega)]
        exact ih _
