/-! the trial: the starts -/
def ps_ph (x1 : Int64) (k : Nat) : Int64 := (x1.toUInt64 >>> (((3 : Int32) * (nI k - (1 : Int32))).toInt64.toUInt64 &&& Int64.toUInt64 63)).toInt64 &&& (7 : Int64)
def ps_PH (x1 : Int64) (τ k : Nat) (rf : cr_S) (T : Nat) : Prop := ∀ q : Nat, 1 ≤ q → q ≤ T → (q < k → (rf 13 q = 0 ↔ (τ : Int) + 1 ≤ (ps_ph x1 q).toInt)) ∧ (k ≤ q → (rf 13 q = 0 ↔ (τ : Int) ≤ (ps_ph x1 q).toInt))
theorem ps_i32_64 {k : Nat} (h : k < 100000) : (nI k).toInt64.toInt = k := by
  rw [ps_i64, ps_nI_t h]
theorem ps_stL {pl tr : cr_S} {ln : Nat → Int64} {T R τ : Nat} (lat x1 : Int64) (hτ : τ < 1000) (ph : ∀ q, 1 ≤ q → q ≤ 10 → (x1 >>> (((3 : Int32) * (nI q - (1 : Int32))).toInt64 &&& 63)) &&& (7 : Int64) = ps_ph x1 q) : ∀ (d k : Nat) (rf tb : cr_S) (v : Int32), ps_Pl pl rf ln T R → ps_TQ pl rf tr tb T R → ps_PH x1 τ k rf T → tb 0 0 = v → 0 ≤ v.toInt → v.toInt ≤ 80000 + k → 1 ≤ k → k ≤ T + 1 → 11 < d + k → ∃ rf' tb' v', lo_Trial_startThoseDue_3 pl tr x1 (nI τ) d tb (nI k) = tb' ∧ lo_Ref_plain_75 lat ln x1 (nI τ) d rf v (nI k) = (rf', v') ∧ ps_TQ pl rf' tr tb' T R ∧ ps_TF rf rf' ∧ ps_PH x1 (τ + 1) 1 rf' T ∧ tb' 0 0 = v' ∧ 0 ≤ v'.toInt ∧ v'.toInt ≤ v.toInt + (T + 1 - k : Nat)
  | 0, k, rf, tb, v, hP, _, _, _, _, _, _, a, b => absurd b (by have := hP.1.1; omega)
  | d + 1, k, rf, tb, v, hP, hQ, hH, hv, v0, v1, h1, hk, hd => by
    obtain ⟨a1, a2, a3, a4, -⟩ := hP.1
    have kt := ps_nI_t (k := k) (by omega)
    have Tt := ps_nI_t (k := T) (by omega)
    rw [lo_Trial_startThoseDue_3, lo_Ref_plain_75, a3, a4]
    by_cases e : k = T + 1
    · have lt : nI T < nI k := by rw [pu_lt]; omega
      rw [if_pos lt, if_pos lt]
      refine ⟨rf, tb, v, rfl, rfl, hQ, ps_TF_r rf, fun q q1 q2 => ⟨fun q3 => absurd q3 (by omega), fun _ => ?_⟩, hv, v0, by omega⟩
      have := (hH q q1 q2).1 (by omega)
      rw [this]
      omega
    · have nlt : ¬ nI T < nI k := by rw [pu_lt]; omega
      have ec : (x1.toUInt64 >>> (((3 : Int32) * (nI k - (1 : Int32))).toInt64.toUInt64 &&& Int64.toUInt64 63)).toInt64 &&& (7 : Int64) = ps_ph x1 k := rfl
      rw [if_neg nlt, if_neg nlt, ph k h1 (by omega), ec, show nI k + 1 = nI (k + 1) from nI_1 k, ps_nI_c (k := k) (by omega)]
      have b1 : 1 ≤ k + 1 := by omega
      have b2 : k + 1 ≤ T + 1 := by omega
      have b3 : 11 < d + (k + 1) := by omega
      have kT : k ≤ T := by omega
      have tt := ps_i32_64 (k := τ) (by omega)
      have hk0 := (hH k h1 kT).2 (Nat.le_refl _)
      by_cases c : lg_cmp (ps_ph x1 k) (nI τ).toInt64 = 0
      · rw [if_pos c, if_pos c]
        rw [lg_cmp_eq] at c
        have s0 : rf 13 k = 0 := hk0.mpr (by rw [c]; omega)
        obtain ⟨Q1, Q2, Q3, Q4, Q5, Q6, Q7, Q8, Q9⟩ := hQ
        have nr : tb 1 k ≠ 1 := fun q => by
          have := (Q4 k h1 kT).1.mpr q
          rw [s0] at this
          exact absurd this (by decide)
        obtain ⟨m1, m2, m3, m4, m5, m6, m7, m8⟩ := ps_mr Q1 a1 (by rw [hv]; exact v0) (by rw [hv]; omega) h1 kT nr
        rw [hv] at m2 m3 m5
        have to := ps_to33 hP (t := k) (by omega)
        have c13 : (cr_up (cr_up rf 13 k 1) 14 k (v + 1)) 13 = upd (rf 13) k 1 := by simp [cr_up]
        have c14 : (cr_up (cr_up rf 13 k 1) 14 k (v + 1)) 14 = upd (rf 14) k (v + 1) := by simp [cr_up]
        have cc : ∀ c, c ≠ 13 → c ≠ 14 → (cr_up (cr_up rf 13 k 1) 14 k (v + 1)) c = rf c := fun c q1 q2 => by rw [pu_up_cell _ _ _ q2, pu_up_cell _ _ _ q1]
        have e15 := cc 15 (by decide) (by decide)
        have e16 := cc 16 (by decide) (by decide)
        have e17 := cc 17 (by decide) (by decide)
        have tf : ps_TF rf (cr_up (cr_up rf 13 k 1) 14 k (v + 1)) := fun c q1 q2 _ _ _ => cc c q1 q2
        generalize cr_up (cr_up rf 13 k 1) 14 k (v + 1) = rf1 at c13 c14 cc e15 e16 e17 tf ⊢
        have q' : ps_TQ pl rf1 tr (md_Board_makeReady pl tb (nI k)) T R := by
          refine ⟨m1, fun u u1 u2 => ?_, fun u u1 u2 => ?_, fun u u1 u2 => ?_, fun q u q1 q2 q3 => ?_, ?_, fun j => by rw [m8]; exact Q7 j, ?_, ps_rh_F Q9 e16⟩
          · rw [e16, m6, m7]
            exact Q2 u u1 u2
          · obtain ⟨dd, d1, d2, d3, d4⟩ := Q3 u u1 u2
            refine ⟨dd, d1, d2, by rw [e15]; exact d3, ?_⟩
            by_cases w : u = k
            · subst w
              rw [c13, ps_us_s]
              rcases d4 with ⟨_, q⟩ | ⟨q, _⟩ | ⟨q, _⟩
              · exact Or.inr (Or.inl ⟨rfl, by omega⟩)
              · rw [s0] at q
                exact absurd q (by decide)
              · rw [s0] at q
                exact absurd q (by decide)
            · rw [c13, ps_us_n _ _ w]
              exact d4
          · rw [c13, c14, m4, m5]
            by_cases w : u = k
            · rw [w, ps_us_s, ps_us_s, ps_us_s, ps_us_s]
              exact ⟨Iff.rfl, fun _ => rfl⟩
            · rw [ps_us_n _ _ w, ps_us_n _ _ w, ps_us_n _ _ w, ps_us_n _ _ w]
              exact Q4 u u1 u2
          · obtain ⟨m, n1, n2, n3, n4⟩ := Q5 q u q1 q2 q3
            refine ⟨m, n1, n2, fun r hr => ?_, n4⟩
            rw [e17]
            exact n3 r hr
          · have cs : ps_cnt (upd (rf 13) k 1) 2 T = ps_cnt (rf 13) 2 T := ps_cnt_iff 2 T (fun j _ _ => by
              by_cases w : j = k
              · rw [w, ps_us_s, s0]
                exact ⟨fun z => absurd z (by decide), fun z => absurd z (by decide)⟩
              · rw [ps_us_n _ _ w])
            unfold ps_TE
            rw [c13, cs]
            exact Q6
          · unfold cr_RBoard cr_rg
            rw [m6, m8]
            exact Q8
        have h' : ps_PH x1 τ (k + 1) rf1 T := fun q q1 q2 => by
          rw [c13]
          refine ⟨fun q3 => ?_, fun q3 => ?_⟩
          · by_cases w : q = k
            · rw [w, ps_us_s, c]
              exact ⟨fun z => absurd z (by decide), fun z => absurd z (by omega)⟩
            · rw [ps_us_n _ _ w]
              exact (hH q q1 q2).1 (by omega)
          · rw [ps_us_n _ _ (show q ≠ k by omega)]
            exact (hH q q1 q2).2 (by omega)
        obtain ⟨rf', tb', v', i1, i2, i3, i4, i5, i6, i7, i8⟩ := ps_stL (R := R) lat x1 hτ ph d (k + 1) rf1 (md_Board_makeReady pl tb (nI k)) (v + 1) (ps_Pl_TF hP tf) q' h' m2 (by omega) (by omega) b1 b2 b3
        exact ⟨rf', tb', v', i1, i2, i3, ps_TF_t tf i4, i5, i6, i7, by omega⟩
      · rw [if_neg c, if_neg c]
        rw [lg_cmp_eq, ← Int64.toInt_inj, tt] at c
        have h' : ps_PH x1 τ (k + 1) rf T := fun q q1 q2 => by
          refine ⟨fun q3 => ?_, fun q3 => (hH q q1 q2).2 (by omega)⟩
          by_cases w : q = k
          · rw [w, hk0]
            omega
          · exact (hH q q1 q2).1 (by omega)
        obtain ⟨rf', tb', v', i1, i2, i3, i4, i5, i6, i7, i8⟩ := ps_stL (R := R) lat x1 hτ ph d (k + 1) rf tb v hP hQ h' hv v0 (by omega) b1 b2 b3
        exact ⟨rf', tb', v', i1, i2, i3, i4, i5, i6, i7, by omega⟩
