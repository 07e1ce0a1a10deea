/-! lower -/
theorem ps_l34o {pl rf : cr_S} {ln : Nat → Int64} (h : ps_P pl rf ln) (lat : Int64) {l t R : Nat} (x2 w3 : Int32) (hl : l ≤ 10) (ht : t ≤ 10) (hR : R ≤ 8) (e2 : rf 0 2 = nI R) : ∀ (d k : Nat), 1 ≤ k → k ≤ R + 1 → 9 < d + k → lo_Ref_lower_34 rf lat ln (nI t) x2 w3 (nI l) d 1 (nI k) = 1 ∧ ((∃ r, k ≤ r ∧ r ≤ R ∧ ps_mk pl l t r) → lo_Ref_lower_34 rf lat ln (nI t) x2 w3 (nI l) d 0 (nI k) = 1) ∧ ((∀ r, k ≤ r → r ≤ R → ¬ ps_mk pl l t r) → lo_Ref_lower_34 rf lat ln (nI t) x2 w3 (nI l) d 0 (nI k) = 0)
  | 0, k, _, a, b => absurd b (by omega)
  | d + 1, k, h1, hk, hd => by
    have kt := ps_nI_t (k := k) (by omega)
    have Rt := ps_nI_t (k := R) (by omega)
    have n1 : ¬ (1 : Int32) = 0 := by decide
    rw [lo_Ref_lower_34, lo_Ref_lower_34, e2]
    by_cases e : k = R + 1
    · subst e
      have lt : nI R < nI (R + 1) := by rw [pu_lt]; omega
      rw [if_pos lt, if_pos lt]
      exact ⟨rfl, fun ⟨r, a, b, _⟩ => absurd b (by omega), fun _ => rfl⟩
    · have hk8 : k ≤ 8 := by omega
      have nlt : ¬ nI R < nI k := by rw [pu_lt]; omega
      have ih := ps_l34o h lat x2 w3 hl ht hR e2 d (k + 1) (by omega) (by omega) (by omega)
      rw [if_neg nlt, if_neg nlt, if_neg n1, if_pos rfl, show nI k + 1 = nI (k + 1) from nI_1 k]
      refine ⟨ih.1, ?_⟩
      by_cases m : ps_mk pl l t k
      · rw [(ps_mkR h lat hl ht hk8).1 m, if_neg n1]
        exact ⟨fun _ => ih.1, fun q => absurd m (q k (Nat.le_refl k) (by omega))⟩
      · rw [(ps_mkR h lat hl ht hk8).2 m, if_pos rfl]
        refine ⟨fun ⟨r, a, b, g⟩ => ih.2.1 ⟨r, ?_, b, g⟩, fun q => ih.2.2 (fun r a b => q r (by omega) b)⟩
        rcases Nat.lt_or_ge k r with w | w
        · exact w
        · exact absurd (show ps_mk pl l t k by rw [show k = r by omega]; exact g) m
theorem ps_l16 {pl rf : cr_S} {ln : Nat → Int64} (h : ps_P pl rf ln) {l t R : Nat} (hl : l ≤ 10) (ht : t ≤ 10) (hR : R ≤ 8) (e1 : pl 0 1 = nI R) (hb : ps_bel pl l t) : ∀ (d k : Nat) (w : Int32), 1 ≤ k → k ≤ R + 1 → 9 < d + k → 0 ≤ w.toInt → (0 < w.toInt ∨ (∃ r, k ≤ r ∧ r ≤ R ∧ ps_mk pl l t r) → 0 < (lo_Plan_longestDelay_16 pl (nI t) (nI l) d w (nI k)).toInt) ∧ (w.toInt = 0 → (∀ r, k ≤ r → r ≤ R → ¬ ps_mk pl l t r) → (lo_Plan_longestDelay_16 pl (nI t) (nI l) d w (nI k)).toInt = 0)
  | 0, k, w, _, a, b, _ => absurd b (by omega)
  | d + 1, k, w, h1, hk, hd, hw => by
    have kt := ps_nI_t (k := k) (by omega)
    have Rt := ps_nI_t (k := R) (by omega)
    rw [lo_Plan_longestDelay_16, e1]
    by_cases e : k = R + 1
    · subst e
      rw [if_pos (show nI R < nI (R + 1) by rw [pu_lt]; omega)]
      exact ⟨fun q => q.elim id (fun ⟨r, a, b, _⟩ => absurd b (by omega)), fun q _ => q⟩
    · have hk8 : k ≤ 8 := by omega
      obtain ⟨T, R', hN, b, -⟩ := id h
      have len := b l k hl hk8
      have A : 1 ≤ k + 1 := by omega
      have B : k + 1 ≤ R + 1 := by omega
      have C : 9 < d + (k + 1) := by omega
      have hkR : k ≤ R := by omega
      rw [if_neg (show ¬ nI R < nI k by rw [pu_lt]; omega), ps_nI_c (k := k) (by omega), ps_nI_c (k := t) (by omega), ps_nI_c (k := l) (by omega), show nI k + 1 = nI (k + 1) from nI_1 k]
      have ih := fun w' (g : 0 ≤ w'.toInt) => ps_l16 h hl ht hR e1 hb d (k + 1) w' A B C g
      have mt := cr_max_t w (pl (6 + l) k)
      by_cases c : pl 3 k < pl 1 t
      · rw [if_pos c]
        rw [pu_lt] at c
        have m : ¬ ps_mk pl l t k := fun q => absurd q.2.2 (by omega)
        refine ⟨fun q => (ih w hw).1 (q.elim Or.inl (fun ⟨r, a, b2, g⟩ => Or.inr ⟨r, ?_, b2, g⟩)), fun q z => (ih w hw).2 q (fun r a b2 => z r (by omega) b2)⟩
        rcases Nat.lt_or_ge k r with w9 | w9
        · exact w9
        · exact absurd (show ps_mk pl l t k by rw [show k = r by omega]; exact g) m
      · rw [if_neg c]
        rw [pu_lt] at c
        have c0 : 0 ≤ (cr_max w (pl (6 + l) k)).toInt := by omega
        by_cases m : ps_mk pl l t k
        · have u := m.2.1
          unfold ps_us at u
          have c1 : 0 < (cr_max w (pl (6 + l) k)).toInt := by omega
          exact ⟨fun _ => (ih _ c0).1 (Or.inl c1), fun _ z => absurd m (z k (Nat.le_refl k) hkR)⟩
        · have nu : ¬ ps_us pl l k := fun u => m ⟨hb, u, by omega⟩
          unfold ps_us at nu
          have c2 : (cr_max w (pl (6 + l) k)).toInt = w.toInt := by omega
          refine ⟨fun q => (ih _ c0).1 (q.elim (fun z => Or.inl (by rw [c2]; exact z)) (fun ⟨r, a, b2, g⟩ => Or.inr ⟨r, ?_, b2, g⟩)), fun q z => (ih _ c0).2 (by rw [c2]; exact q) (fun r a b2 => z r (by omega) b2)⟩
          rcases Nat.lt_or_ge k r with w9 | w9
          · exact w9
          · exact absurd (show ps_mk pl l t k by rw [show k = r by omega]; exact g) m
