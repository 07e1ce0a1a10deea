theorem ps_some {pl rf : cr_S} {ln : Nat → Int64} (h : ps_P pl rf ln) (lat : Int64) {l t : Nat} (x2 w3 : Int32) (hl : l ≤ 10) (ht : t ≤ 10) : (md_Plan_longestDelay pl (nI t) (nI l) ≤ 0 ∧ lo_Ref_lower_34 rf lat ln (nI t) x2 w3 (nI l) 9 0 1 = 0) ∨ (¬ md_Plan_longestDelay pl (nI t) (nI l) ≤ 0 ∧ lo_Ref_lower_34 rf lat ln (nI t) x2 w3 (nI l) 9 0 1 = 1) := by
  have k0 : (0 : Int32).toInt = 0 := by decide
  obtain ⟨T, R, hN, -⟩ := id h
  obtain ⟨a1, a2, a3, a4, a5, a6, a7, a8, a9⟩ := hN
  have o := ps_l34o h lat x2 w3 hl ht a2 a6 9 1 (by omega) (by omega) (by omega)
  have ml := ps_belM pl hl ht
  have o1 : (∃ r, 1 ≤ r ∧ r ≤ R ∧ ps_mk pl l t r) → lo_Ref_lower_34 rf lat ln (nI t) x2 w3 (nI l) 9 0 1 = 1 := o.2.1
  have o2 : (∀ r, 1 ≤ r → r ≤ R → ¬ ps_mk pl l t r) → lo_Ref_lower_34 rf lat ln (nI t) x2 w3 (nI l) 9 0 1 = 0 := o.2.2
  clear o
  unfold md_Plan_longestDelay
  by_cases b : ps_bel pl l t
  · have q := ps_l16 h hl ht a2 a5 b 9 1 0 (by omega) (by omega) (by omega) (by omega)
    rw [ml.1 b, if_neg (by decide)]
    by_cases ex : ∃ r, 1 ≤ r ∧ r ≤ R ∧ ps_mk pl l t r
    · refine Or.inr ⟨?_, o1 ex⟩
      have z := q.1 (Or.inr ex)
      rw [pu_le]
      show ¬ (lo_Plan_longestDelay_16 pl (nI t) (nI l) 9 0 (nI 1)).toInt ≤ _
      clear ex
      omega
    · have no : ∀ r, 1 ≤ r → r ≤ R → ¬ ps_mk pl l t r := fun r a b2 g => ex ⟨r, a, b2, g⟩
      refine Or.inl ⟨?_, o2 no⟩
      have z := q.2 k0 no
      rw [pu_le]
      show (lo_Plan_longestDelay_16 pl (nI t) (nI l) 9 0 (nI 1)).toInt ≤ _
      clear ex
      omega
  · rw [ml.2 b, if_pos rfl]
    exact Or.inl ⟨by decide, o2 (fun r _ _ g => b g.1)⟩
theorem ps_lowN {pl rf : cr_S} {ln : Nat → Int64} (h : ps_P pl rf ln) (mn : cr_S) (lt : Int64) (bd lk tr tb : cr_S) {t T : Nat} (ht : t ≤ 10) (hT : T ≤ 10) (e1 : pl 0 0 = nI T) (x2 : Int32) (hx : x2.toInt < 0) : ∀ (d k : Nat) (f : Int32), 1 ≤ k → k ≤ T + 1 → 11 < d + k → 0 ≤ f.toInt → f.toInt ≤ k → lo_Main_lower_18 mn lt pl bd lk tr tb (nI t) x2 d f (nI k) = 0
  | 0, k, f, _, a, b, _, _ => absurd b (by omega)
  | d + 1, k, f, h1, hk, hd, hf, hf2 => by
    have kt := ps_nI_t (k := k) (by omega)
    have Tt := ps_nI_t (k := T) (by omega)
    have k1 : (1 : Int32).toInt = 1 := by decide
    have fa := cr_add (x := f) (y := 1) (by omega)
    rw [lo_Main_lower_18, e1]
    by_cases e : k = T + 1
    · subst e
      rw [if_pos (show nI T < nI (T + 1) by rw [pu_lt]; omega)]
    · rw [if_neg (show ¬ nI T < nI k by rw [pu_lt]; omega), show nI k + 1 = nI (k + 1) from nI_1 k]
      by_cases c : md_Plan_longestDelay pl (nI t) (nI k) ≤ 0
      · rw [if_pos c]
        exact ps_lowN h mn lt bd lk tr tb ht hT e1 x2 hx d (k + 1) f (by omega) (by omega) (by omega) hf (by omega)
      · rw [if_neg c, if_neg (by rw [pu_eq]; omega)]
        exact ps_lowN h mn lt bd lk tr tb ht hT e1 x2 hx d (k + 1) (f + 1) (by omega) (by omega) (by omega) (by omega) (by omega)
