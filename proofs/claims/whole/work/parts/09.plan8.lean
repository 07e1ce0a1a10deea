/-! lower: the loops of both sides agree for an index of 0 or more -/
theorem ps_lowP {pl rf : cr_S} {ln : Nat → Int64} (h : ps_P pl rf ln) (mn : cr_S) (lt : Int64) (bd lk tr tb : cr_S) (lat : Int64) {t T : Nat} (ht : t ≤ 10) (hT : T ≤ 10) (e1 : pl 0 0 = nI T) (e2 : rf 0 0 = nI T) (x2 : Int32) (hx : ¬ x2 < 0) : ∀ (d k : Nat) (f g : Int32), 1 ≤ k → k ≤ T + 1 → 11 < d + k → 0 ≤ f.toInt → f.toInt ≤ k → g.toInt = x2.toInt - f.toInt → 0 ≤ g.toInt → lo_Main_lower_18 mn lt pl bd lk tr tb (nI t) x2 d f (nI k) = lo_Ref_lower_15 rf lat ln (nI t) x2 d g (nI k) := by
  intro d
  induction d with
  | zero => exact fun k f g _ a b => absurd b (by omega)
  | succ d ih =>
    intro k f g h1 hk hd hf hf2 hg hg0
    have kt := ps_nI_t (k := k) (by omega)
    have Tt := ps_nI_t (k := T) (by omega)
    have k0 : (0 : Int32).toInt = 0 := by decide
    have k1 : (1 : Int32).toInt = 1 := by decide
    have km : (-1 : Int32).toInt = -1 := by decide
    have n1 : ¬ (1 : Int32) = 0 := by decide
    have gl : g.toInt < 2147483648 := Int32.toInt_lt g
    have fa : (f + 1).toInt = f.toInt + 1 := cr_add (x := f) (y := 1) (by omega)
    have ga : (g + -1).toInt = g.toInt + -1 := cr_add (x := g) (y := -1) (by omega)
    rw [lo_Main_lower_18, lo_Ref_lower_15, e1, e2]
    by_cases e : k = T + 1
    · subst e
      have lt : nI T < nI (T + 1) := by rw [pu_lt]; omega
      rw [if_pos lt, if_pos lt]
    · have nlt : ¬ nI T < nI k := by rw [pu_lt]; omega
      rw [if_neg nlt, if_neg nlt, if_neg hx, show nI k + 1 = nI (k + 1) from nI_1 k]
      have hk10 : k ≤ 10 := by omega
      have a1 : 1 ≤ k + 1 := by omega
      have a2 : k + 1 ≤ T + 1 := by omega
      have a3 : 11 < d + (k + 1) := by omega
      have a4 : f.toInt ≤ ((k + 1 : Nat) : Int) := by omega
      have a5 : 0 ≤ (f + 1).toInt := by omega
      have a6 : (f + 1).toInt ≤ ((k + 1 : Nat) : Int) := by omega
      have a7 : (g + -1).toInt = x2.toInt - (f + 1).toInt := by rw [ga, fa, hg, Int.sub_eq_add_neg, Int.sub_eq_add_neg, Int.neg_add, Int.add_assoc]
      rcases ps_some h lat x2 g (l := k) (t := t) hk10 ht with ⟨q1, q2⟩ | ⟨q1, q2⟩
      · rw [if_pos q1, q2, if_pos rfl]
        exact ih (k + 1) f g a1 a2 a3 hf a4 hg hg0
      · rw [if_neg q1, q2, if_neg n1]
        by_cases c : f = x2
        · have z : g = 0 := by
            rw [pu_eq, k0, hg, c]
            exact Int.sub_self _
          rw [if_pos c, if_pos z]
        · have c' : f.toInt ≠ x2.toInt := fun q => c (pu_eq.mpr q)
          have z : ¬ g = 0 := fun q => by
            rw [q, k0] at hg
            clear gl fa ga a7 a6 a5 a4 kt Tt
            omega
          have a8 : 0 ≤ (g + -1).toInt := by
            rw [ga]
            clear gl fa ga a7 a6 a5 a4 kt Tt
            omega
          rw [if_neg c, if_neg z]
          exact ih (k + 1) (f + 1) (g + -1) a1 a2 a3 a5 a6 a7 a8
theorem ps_lower {pl rf : cr_S} {ln : Nat → Int64} (h : ps_P pl rf ln) (mn : cr_S) (lt : Int64) (bd lk tr tb : cr_S) (lat : Int64) (x i : Int32) : md_Main_lower mn lt pl bd lk tr tb x i = md_Ref_lower rf lat ln x i := by
  have n1 : ¬ (1 : Int32) = 0 := by decide
  have k0 : (0 : Int32).toInt = 0 := by decide
  obtain ⟨T, R, hN, -⟩ := id h
  unfold md_Main_lower md_Ref_lower
  rcases ps_hasT hN lat ln x with ⟨q1, q2⟩ | ⟨q1, q2, k, g1, g2, rfl⟩
  · rw [q1, q2, if_pos rfl, if_pos rfl]
  · rw [q1, q2, if_neg n1, if_neg n1]
    obtain ⟨a1, a2, a3, a4, a5, a6, a7, a8, a9⟩ := hN
    by_cases c : i < 0
    · have c' : i.toInt < 0 := by rw [pu_lt] at c; omega
      have := ps_lowN h mn lt bd lk tr tb (t := k) (T := T) (by omega) a1 a3 i c' 11 1 0 (by omega) (by omega) (by omega) (by omega) (by omega)
      rw [show (1 : Int32) = nI 1 from rfl, this, lo_Ref_lower_15]
      by_cases z : rf 0 0 < nI 1
      · rw [if_pos z]
      · rw [if_neg z, if_pos c]
    · have c' : 0 ≤ i.toInt := by rw [pu_lt] at c; omega
      exact ps_lowP h mn lt bd lk tr tb lat (t := k) (T := T) (by omega) a1 a3 a4 i c 11 1 0 i (by omega) (by omega) (by omega) (by omega) (by omega) (by omega) c'
