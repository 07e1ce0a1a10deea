/-! who runs, by the reference's loops -/
theorem ps_runL {rf : cr_S} (lat : Int64) (ln : Nat → Int64) {T : Nat} (hT : T ≤ 10) (e0 : rf 0 0 = nI T) (c : Int32) (hc : rf 11 c.toNatClampNeg = 0) (rk : Nat → Int) (hk : ∀ t, 1 ≤ t → t ≤ T → rf 3 t = 1 → (md_Ref_rankNow rf lat ln (nI t)).toInt = rk t ∧ 0 ≤ rk t ∧ rk t ≤ 20) (hd : ∀ t u : Nat, 1 ≤ t → t ≤ T → 1 ≤ u → u ≤ T → rf 3 t = 1 → rf 3 u = 1 → t ≠ u → (rf 4 t).toInt ≠ (rf 4 u).toInt) : ∀ (d k f : Nat), 1 ≤ k → k ≤ T + 1 → 11 < d + k → ps_best (fun t => rf 2 t = c ∧ rf 3 t = 1) rk (fun t => (rf 4 t).toInt) k f → ∃ g, lo_Ref_running_4 rf lat ln c d (nI f) (nI k) = nI g ∧ ps_best (fun t => rf 2 t = c ∧ rf 3 t = 1) rk (fun t => (rf 4 t).toInt) (T + 1) g
  | 0, k, f, _, a, b, _ => absurd b (by omega)
  | d + 1, k, f, h1, hkT, hdk, hb => by
    have kt := ps_nI_t (k := k) (by omega)
    have Tt := ps_nI_t (k := T) (by omega)
    have k0 : (0 : Int32).toInt = 0 := by decide
    have fk := ps_best_b hb h1
    have ft := ps_nI_t (k := f) (by omega)
    have a1 : 1 ≤ k + 1 := by omega
    have a3 : 11 < d + (k + 1) := by omega
    rw [lo_Ref_running_4, e0]
    by_cases e : k = T + 1
    · have lt : nI T < nI k := by rw [pu_lt]; omega
      rw [if_pos lt]
      exact ⟨f, rfl, by rw [← e]; exact hb⟩
    · have nlt : ¬ nI T < nI k := by rw [pu_lt]; omega
      have a2 : k + 1 ≤ T + 1 := by omega
      have kT : k ≤ T := by omega
      rw [if_neg nlt, if_pos hc, ps_nI_c (k := k) (by omega), ps_nI_c (k := f) (by omega), show nI k + 1 = nI (k + 1) from nI_1 k]
      have ih := fun f' => ps_runL lat ln hT e0 c hc rk hk hd d (k + 1) f' a1 a2 a3
      by_cases c1 : rf 2 k = c
      · rw [if_pos c1]
        by_cases c2 : rf 3 k = 1
        · rw [if_pos c2]
          have nw : (f = 0 ∨ rk f < rk k ∨ (rk f = rk k ∧ (rf 4 k).toInt < (rf 4 f).toInt)) → ∃ g, lo_Ref_running_4 rf lat ln c d (nI k) (nI (k + 1)) = nI g ∧ ps_best (fun t => rf 2 t = c ∧ rf 3 t = 1) rk (fun t => (rf 4 t).toInt) (T + 1) g := fun q => ih k (ps_best_n hb h1 ⟨c1, c2⟩ q)
          by_cases z : f = 0
          · have z' : nI f = 0 := by rw [z]; rfl
            rw [if_pos z']
            exact nw (Or.inl z)
          · have z' : ¬ nI f = 0 := by rw [pu_eq, ft, k0]; omega
            rw [if_neg z']
            have kp : (rk k < rk f ∨ (rk k = rk f ∧ (rf 4 f).toInt < (rf 4 k).toInt)) → ∃ g, lo_Ref_running_4 rf lat ln c d (nI f) (nI (k + 1)) = nI g ∧ ps_best (fun t => rf 2 t = c ∧ rf 3 t = 1) rk (fun t => (rf 4 t).toInt) (T + 1) g := fun q => ih f (ps_best_k hb z q)
            have fr := ps_best_r hb z
            have df := hd f k fr.1 (by omega) h1 kT fr.2.2.2 c2 (by omega)
            have r1 := hk k h1 kT c2
            have r2 := hk f fr.1 (by omega) fr.2.2.2
            have sb : (md_Ref_rankNow rf lat ln (nI k) - md_Ref_rankNow rf lat ln (nI f)).toInt = rk k - rk f := by
              have := cr_sub (x := md_Ref_rankNow rf lat ln (nI k)) (y := md_Ref_rankNow rf lat ln (nI f)) (by omega)
              omega
            clear ih hk hd hb fr
            by_cases c4 : 0 < md_Ref_rankNow rf lat ln (nI k) - md_Ref_rankNow rf lat ln (nI f)
            · rw [if_pos c4]
              have := cr_lt c4
              exact nw (Or.inr (Or.inl (by omega)))
            · rw [if_neg c4]
              have c4' := cr_nlt c4
              by_cases c5 : md_Ref_rankNow rf lat ln (nI k) - md_Ref_rankNow rf lat ln (nI f) = 0
              · rw [if_pos c5]
                have c5' := cr_eq c5
                by_cases c6 : rf 4 f ≤ rf 4 k
                · rw [if_pos c6]
                  have c6' := cr_le c6
                  exact kp (Or.inr ⟨by omega, by omega⟩)
                · rw [if_neg c6]
                  have c6' := cr_nle c6
                  exact nw (Or.inr (Or.inr ⟨by omega, c6'⟩))
              · rw [if_neg c5]
                have c5' := cr_ne c5
                exact kp (Or.inl (by omega))
        · rw [if_neg c2]
          exact ih f (ps_best_s hb (fun q => c2 q.2))
      · rw [if_neg c1]
        exact ih f (ps_best_s hb (fun q => c1 q.1))
theorem ps_truL {rf : cr_S} (lat : Int64) (ln : Nat → Int64) {T : Nat} (hT : T ≤ 10) (e0 : rf 0 0 = nI T) (c : Int32) (rk : Nat → Int) (hk : ∀ t, 1 ≤ t → t ≤ T → rf 13 t = 1 → (md_Ref_trialRank rf lat ln (nI t)).toInt = rk t ∧ 0 ≤ rk t ∧ rk t ≤ 20) (hd : ∀ t u : Nat, 1 ≤ t → t ≤ T → 1 ≤ u → u ≤ T → rf 13 t = 1 → rf 13 u = 1 → t ≠ u → (rf 14 t).toInt ≠ (rf 14 u).toInt) : ∀ (d k f : Nat), 1 ≤ k → k ≤ T + 1 → 11 < d + k → ps_best (fun t => rf 2 t = c ∧ rf 13 t = 1) rk (fun t => (rf 14 t).toInt) k f → ∃ g, lo_Ref_trialRuns_4 rf lat ln c d (nI f) (nI k) = nI g ∧ ps_best (fun t => rf 2 t = c ∧ rf 13 t = 1) rk (fun t => (rf 14 t).toInt) (T + 1) g
  | 0, k, f, _, a, b, _ => absurd b (by omega)
  | d + 1, k, f, h1, hkT, hdk, hb => by
    have kt := ps_nI_t (k := k) (by omega)
    have Tt := ps_nI_t (k := T) (by omega)
    have k0 : (0 : Int32).toInt = 0 := by decide
    have fk := ps_best_b hb h1
    have ft := ps_nI_t (k := f) (by omega)
    have a1 : 1 ≤ k + 1 := by omega
    have a3 : 11 < d + (k + 1) := by omega
    rw [lo_Ref_trialRuns_4, e0]
    by_cases e : k = T + 1
    · have lt : nI T < nI k := by rw [pu_lt]; omega
      rw [if_pos lt]
      exact ⟨f, rfl, by rw [← e]; exact hb⟩
    · have nlt : ¬ nI T < nI k := by rw [pu_lt]; omega
      have a2 : k + 1 ≤ T + 1 := by omega
      have kT : k ≤ T := by omega
      rw [if_neg nlt, ps_nI_c (k := k) (by omega), ps_nI_c (k := f) (by omega), show nI k + 1 = nI (k + 1) from nI_1 k]
      have ih := fun f' => ps_truL lat ln hT e0 c rk hk hd d (k + 1) f' a1 a2 a3
      by_cases c1 : rf 2 k = c
      · rw [if_pos c1]
        by_cases c2 : rf 13 k = 1
        · rw [if_pos c2]
          have nw : (f = 0 ∨ rk f < rk k ∨ (rk f = rk k ∧ (rf 14 k).toInt < (rf 14 f).toInt)) → ∃ g, lo_Ref_trialRuns_4 rf lat ln c d (nI k) (nI (k + 1)) = nI g ∧ ps_best (fun t => rf 2 t = c ∧ rf 13 t = 1) rk (fun t => (rf 14 t).toInt) (T + 1) g := fun q => ih k (ps_best_n hb h1 ⟨c1, c2⟩ q)
          by_cases z : f = 0
          · have z' : nI f = 0 := by rw [z]; rfl
            rw [if_pos z']
            exact nw (Or.inl z)
          · have z' : ¬ nI f = 0 := by rw [pu_eq, ft, k0]; omega
            rw [if_neg z']
            have kp : (rk k < rk f ∨ (rk k = rk f ∧ (rf 14 f).toInt < (rf 14 k).toInt)) → ∃ g, lo_Ref_trialRuns_4 rf lat ln c d (nI f) (nI (k + 1)) = nI g ∧ ps_best (fun t => rf 2 t = c ∧ rf 13 t = 1) rk (fun t => (rf 14 t).toInt) (T + 1) g := fun q => ih f (ps_best_k hb z q)
            have fr := ps_best_r hb z
            have df := hd f k fr.1 (by omega) h1 kT fr.2.2.2 c2 (by omega)
            have r1 := hk k h1 kT c2
            have r2 := hk f fr.1 (by omega) fr.2.2.2
            have sb : (md_Ref_trialRank rf lat ln (nI k) - md_Ref_trialRank rf lat ln (nI f)).toInt = rk k - rk f := by
              have := cr_sub (x := md_Ref_trialRank rf lat ln (nI k)) (y := md_Ref_trialRank rf lat ln (nI f)) (by omega)
              omega
            clear ih hk hd hb fr
            by_cases c4 : 0 < md_Ref_trialRank rf lat ln (nI k) - md_Ref_trialRank rf lat ln (nI f)
            · rw [if_pos c4]
              have := cr_lt c4
              exact nw (Or.inr (Or.inl (by omega)))
            · rw [if_neg c4]
              have c4' := cr_nlt c4
              by_cases c5 : md_Ref_trialRank rf lat ln (nI k) - md_Ref_trialRank rf lat ln (nI f) = 0
              · rw [if_pos c5]
                have c5' := cr_eq c5
                by_cases c6 : rf 14 f ≤ rf 14 k
                · rw [if_pos c6]
                  have c6' := cr_le c6
                  exact kp (Or.inr ⟨by omega, by omega⟩)
                · rw [if_neg c6]
                  have c6' := cr_nle c6
                  exact nw (Or.inr (Or.inr ⟨by omega, c6'⟩))
              · rw [if_neg c5]
                have c5' := cr_ne c5
                exact kp (Or.inl (by omega))
        · rw [if_neg c2]
          exact ih f (ps_best_s hb (fun q => c2 q.2))
      · rw [if_neg c1]
        exact ih f (ps_best_s hb (fun q => c1 q.1))
/-- upper bounds of ranks -/
theorem ps_ceil20 {pl : cr_S} {T : Nat} (hR : ps_PR pl T) (hC : ps_PC pl T) {r : Nat} (hr : r ≤ 8) : 0 ≤ (pl 3 r).toInt ∧ (pl 3 r).toInt ≤ 20 := by
  obtain ⟨m0, m1, m2⟩ := hC r hr
  refine ⟨m0, ?_⟩
  rcases m2 with q | ⟨t, q1, q2, q3, q4⟩
  · omega
  · have := hR t q1 (by omega)
    rw [q4] at this
    exact this.2.1
theorem ps_rn20 {pl : cr_S} {T R : Nat} (h8 : R ≤ 8) (hR : ps_PR pl T) (hC : ps_PC pl T) (f : Nat → Int32) {t : Nat} (h1 : 1 ≤ t) (h2 : t ≤ T) : 1 ≤ ps_rn pl f t R ∧ ps_rn pl f t R ≤ 20 := by
  have a := hR t h1 h2
  refine ⟨Int.le_trans a.1 (ps_rn_ge pl f t R), ps_rn_le a.2.1 R (fun r b c _ => ?_)⟩
  obtain ⟨m0, m1, m2⟩ := hC r (by omega)
  rcases m2 with q | ⟨u, q1, q2, q3, q4⟩
  · omega
  · have := hR u q1 (by omega)
    rw [q4] at this
    exact this.2.1
