/-! the plan: lengths and ceilings -/
def ps_us (pl : cr_S) (t r : Nat) : Prop := 0 < (pl (6 + t) r).toInt
/-- lengths of both sides -/
def ps_PL (pl : cr_S) (ln : Nat → Int64) : Prop := ∀ t r : Nat, t ≤ 10 → r ≤ 8 → ln (9 * t + r) = (pl (6 + t) r).toInt64 ∧ 0 ≤ (pl (6 + t) r).toInt ∧ (pl (6 + t) r).toInt ≤ 1000
theorem ps_ix9 {t r : Nat} (ht : t ≤ 10) (hr : r ≤ 8) : ((9 : Int32) * nI t + nI r).toNatClampNeg = 9 * t + r := by
  rw [show (9 : Int32) = nI 9 from rfl, pk_mul, nI_add, ps_nI_c (by omega)]
theorem ps_i64 (x : Int32) : x.toInt64.toInt = x.toInt := by simp
theorem ps_len {pl : cr_S} {ln : Nat → Int64} (h : ps_PL pl ln) {t r : Nat} (ht : t ≤ 10) (hr : r ≤ 8) : (lg_cmp (ln ((9 : Int32) * nI t + nI r).toNatClampNeg) 0 ≤ 0) ↔ ¬ ps_us pl t r := by
  rw [ps_ix9 ht hr, lg_cmp_le, (h t r ht hr).1, Int64.le_iff_toInt_le, ps_i64]
  unfold ps_us
  have : (0 : Int64).toInt = 0 := by decide
  omega
def ps_mx (pl : cr_S) (T r : Nat) (m : Int32) : Prop := 0 ≤ m.toInt ∧ (∀ t, 1 ≤ t → t < T → ps_us pl t r → (pl 1 t).toInt ≤ m.toInt) ∧ (m.toInt = 0 ∨ ∃ t, 1 ≤ t ∧ t < T ∧ ps_us pl t r ∧ pl 1 t = m)
theorem ps_mx_u {pl : cr_S} {T r : Nat} {m m' : Int32} (h : ps_mx pl T r m) (g : ps_mx pl T r m') : m = m' := by
  obtain ⟨h0, h1, h2⟩ := h
  obtain ⟨g0, g1, g2⟩ := g
  rw [pu_eq]
  have a : m.toInt ≤ m'.toInt := by
    rcases h2 with q | ⟨t, q1, q2, q3, q4⟩
    · omega
    · have := g1 t q1 q2 q3
      rw [q4] at this
      exact this
  have b : m'.toInt ≤ m.toInt := by
    rcases g2 with q | ⟨t, q1, q2, q3, q4⟩
    · omega
    · have := h1 t q1 q2 q3
      rw [q4] at this
      exact this
  omega
theorem ps_ceil0 {pl rf : cr_S} {ln : Nat → Int64} (lat : Int64) (hl : ps_PL pl ln) (e1 : pl 1 = rf 1) {T r : Nat} (hT : T ≤ 10) (e0 : rf 0 0 = nI T) (hr : r ≤ 8) : ∀ (d k : Nat) (m : Int32), 1 ≤ k → k ≤ T + 1 → 11 < d + k → ps_mx pl k r m → ps_mx pl (T + 1) r (lo_Ref_ceilingOf_4 rf lat ln (nI r) d m (nI k))
  | 0, k, m, _, h, h2, _ => absurd h2 (by omega)
  | d + 1, k, m, h1, hk, hd, hm => by
    have kt := ps_nI_t (k := k) (by omega)
    have Tt := ps_nI_t (k := T) (by omega)
    rw [lo_Ref_ceilingOf_4, e0]
    by_cases e : k = T + 1
    · subst e
      rw [if_pos (by rw [pu_lt]; omega)]
      exact hm
    · rw [if_neg (by rw [pu_lt]; omega), ps_nI_c (k := k) (by omega), show nI k + 1 = nI (k + 1) from nI_1 k, ← e1]
      have hk10 : k ≤ 10 := by clear hm; omega
      have hA : 1 ≤ k + 1 := by clear hm; omega
      have hB : k + 1 ≤ T + 1 := by clear hm; omega
      have hC : 11 < d + (k + 1) := by clear hm; omega
      obtain ⟨m0, m1, m2⟩ := hm
      have up : ∀ m' : Int32, 0 ≤ m'.toInt → (∀ t, 1 ≤ t → t < k → ps_us pl t r → (pl 1 t).toInt ≤ m'.toInt) → (ps_us pl k r → (pl 1 k).toInt ≤ m'.toInt) → (m'.toInt = 0 ∨ ∃ t, 1 ≤ t ∧ t < k + 1 ∧ ps_us pl t r ∧ pl 1 t = m') → ps_mx pl (T + 1) r (lo_Ref_ceilingOf_4 rf lat ln (nI r) d m' (nI (k + 1))) := fun m' q0 q1 q2 q3 =>
        ps_ceil0 lat hl e1 hT e0 hr d (k + 1) m' hA hB hC ⟨q0, fun t a b c => by
          rcases Nat.lt_or_ge t k with w | w
          · exact q1 t a w c
          · rw [show t = k by omega] at c ⊢; exact q2 c, q3⟩
      have old : m.toInt = 0 ∨ ∃ t, 1 ≤ t ∧ t < k + 1 ∧ ps_us pl t r ∧ pl 1 t = m := by
        rcases m2 with q | ⟨t, q1, q2, q3, q4⟩
        · exact Or.inl q
        · exact Or.inr ⟨t, q1, by omega, q3, q4⟩
      by_cases u : ps_us pl k r
      · rw [if_neg (fun q => ((ps_len hl hk10 hr).mp q) u)]
        by_cases g : pl 1 k ≤ m
        · rw [if_pos g]
          rw [pu_le] at g
          exact up m m0 m1 (fun _ => g) old
        · rw [if_neg g]
          rw [pu_le] at g
          exact up (pl 1 k) (by omega) (fun t a b c => by have := m1 t a b c; omega) (fun _ => Int.le_refl _) (Or.inr ⟨k, h1, by omega, u, rfl⟩)
      · rw [if_pos ((ps_len hl hk10 hr).mpr u)]
        exact up m m0 m1 (fun q => absurd q u) old
theorem ps_ceil {pl rf : cr_S} {ln : Nat → Int64} (lat : Int64) (hl : ps_PL pl ln) (e1 : pl 1 = rf 1) {T r : Nat} (hT : T ≤ 10) (e0 : rf 0 0 = nI T) (hr : r ≤ 8) : ps_mx pl (T + 1) r (md_Ref_ceilingOf rf lat ln (nI r)) :=
  ps_ceil0 lat hl e1 hT e0 hr 11 1 0 (by omega) (by omega) (by omega) ⟨by decide, fun t a b _ => absurd b (by omega), Or.inl (by decide)⟩
