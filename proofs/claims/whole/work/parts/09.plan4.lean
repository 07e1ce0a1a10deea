/-! who may keep a task waiting -/
def ps_bel (pl : cr_S) (l t : Nat) : Prop := pl 2 l = pl 2 t ∧ (pl 1 l).toInt < (pl 1 t).toInt
theorem ps_belM (pl : cr_S) {l t : Nat} (hl : l ≤ 10) (ht : t ≤ 10) : (ps_bel pl l t → md_Plan_isBelow pl (nI l) (nI t) = 1) ∧ (¬ ps_bel pl l t → md_Plan_isBelow pl (nI l) (nI t) = 0) := by
  unfold md_Plan_isBelow ps_bel
  rw [ps_nI_c (k := l) (by omega), ps_nI_c (k := t) (by omega)]
  by_cases e : pl 2 l = pl 2 t
  · rw [if_pos e]
    by_cases g : pl 1 t ≤ pl 1 l
    · rw [if_pos g]
      rw [pu_le] at g
      exact ⟨fun q => absurd q.2 (by omega), fun _ => rfl⟩
    · rw [if_neg g]
      rw [pu_le] at g
      exact ⟨fun _ => rfl, fun q => absurd ⟨e, by omega⟩ q⟩
  · rw [if_neg e]
    exact ⟨fun q => absurd q.1 e, fun _ => rfl⟩
def ps_mk (pl : cr_S) (l t r : Nat) : Prop := ps_bel pl l t ∧ ps_us pl l r ∧ (pl 1 t).toInt ≤ (pl 3 r).toInt
theorem ps_mkR {pl rf : cr_S} {ln : Nat → Int64} (h : ps_P pl rf ln) (lat : Int64) {l t r : Nat} (hl : l ≤ 10) (ht : t ≤ 10) (hr : r ≤ 8) : (ps_mk pl l t r → md_Ref_mayKeep rf lat ln (nI l) (nI t) (nI r) = 1) ∧ (¬ ps_mk pl l t r → md_Ref_mayKeep rf lat ln (nI l) (nI t) (nI r) = 0) := by
  obtain ⟨T, R, ⟨a1, a2, a3, a4, a5, a6, a7, a8, a9⟩, b, -⟩ := id h
  unfold md_Ref_mayKeep ps_mk ps_bel
  rw [ps_nI_c (k := l) (by omega), ps_nI_c (k := t) (by omega), ← a7, ← a8, ps_ceilE h lat hr]
  by_cases e : pl 2 l = pl 2 t
  · rw [if_pos e]
    by_cases g : pl 1 t ≤ pl 1 l
    · rw [if_pos g]
      rw [pu_le] at g
      exact ⟨fun q => absurd q.1.2 (by omega), fun _ => rfl⟩
    · rw [if_neg g]
      rw [pu_le] at g
      by_cases u : ps_us pl l r
      · rw [if_neg (fun q => ((ps_len b hl hr).mp q) u)]
        by_cases w : pl 3 r < pl 1 t
        · rw [if_pos w]
          rw [pu_lt] at w
          exact ⟨fun q => absurd q.2.2 (by omega), fun _ => rfl⟩
        · rw [if_neg w]
          rw [pu_lt] at w
          exact ⟨fun _ => rfl, fun q => absurd ⟨⟨e, by omega⟩, u, by omega⟩ q⟩
      · rw [if_pos ((ps_len b hl hr).mpr u)]
        exact ⟨fun q => absurd q.2.1 u, fun _ => rfl⟩
  · rw [if_neg e]
    exact ⟨fun q => absurd q.1.1 e, fun _ => rfl⟩
theorem ps_b29 {pl rf : cr_S} {ln : Nat → Int64} (h : ps_P pl rf ln) (lat : Int64) {l t R : Nat} (hl : l ≤ 10) (ht : t ≤ 10) (hR : R ≤ 8) (e1 : pl 0 1 = nI R) (e2 : rf 0 2 = nI R) (hb : ps_bel pl l t) (v : Int32) : ∀ (d k : Nat) (w : Int32) (V : Int64), 1 ≤ k → k ≤ R + 1 → 9 < d + k → 0 ≤ w.toInt → V.toInt = max v.toInt w.toInt → (lo_Ref_blocking_29 rf lat ln (nI t) (nI l) d V (nI k)).toInt = max v.toInt (lo_Plan_longestDelay_16 pl (nI t) (nI l) d w (nI k)).toInt ∧ 0 ≤ (lo_Plan_longestDelay_16 pl (nI t) (nI l) d w (nI k)).toInt
  | 0, k, w, V, _, a, b, _, _ => absurd b (by omega)
  | d + 1, k, w, V, h1, hk, hd, hw, hV => by
    have kt := ps_nI_t (k := k) (by omega)
    have Rt := ps_nI_t (k := R) (by omega)
    rw [lo_Ref_blocking_29, lo_Plan_longestDelay_16, e1, e2]
    by_cases e : k = R + 1
    · subst e
      have lt : nI R < nI (R + 1) := by rw [pu_lt]; omega
      rw [if_pos lt, if_pos lt]
      exact ⟨hV, hw⟩
    · have hk8 : k ≤ 8 := by omega
      have nlt : ¬ nI R < nI k := by rw [pu_lt]; omega
      obtain ⟨T, R', hN, b, -⟩ := id h
      have len := b l k hl hk8
      have lt := ps_i64 (pl (6 + l) k)
      rw [← len.1] at lt
      rw [if_neg nlt, if_neg nlt, ps_ix9 hl hk8, ps_nI_c (k := k) (by omega), ps_nI_c (k := t) (by omega), ps_nI_c (k := l) (by omega), show nI k + 1 = nI (k + 1) from nI_1 k]
      have ih := fun w' V' => ps_b29 h lat hl ht hR e1 e2 hb v d (k + 1) w' V' (by omega) (by omega) (by omega)
      have mt := cr_max_t w (pl (6 + l) k)
      by_cases m : ps_mk pl l t k
      · rw [(ps_mkR h lat hl ht hk8).1 m, if_neg (by decide), if_neg (show ¬ pl 3 k < pl 1 t by rw [pu_lt]; have := m.2.2; omega)]
        by_cases c : lg_cmp (ln (9 * l + k)) V ≤ 0
        · rw [if_pos c]
          rw [lg_cmp_le, Int64.le_iff_toInt_le] at c
          exact ih _ _ (by omega) (by omega)
        · rw [if_neg c]
          rw [lg_cmp_le, Int64.le_iff_toInt_le] at c
          exact ih _ _ (by omega) (by omega)
      · rw [(ps_mkR h lat hl ht hk8).2 m, if_pos rfl]
        by_cases c : pl 3 k < pl 1 t
        · rw [if_pos c]
          exact ih _ _ hw hV
        · rw [if_neg c]
          rw [pu_lt] at c
          have nu : ¬ ps_us pl l k := fun u => m ⟨hb, u, by omega⟩
          unfold ps_us at nu
          exact ih _ _ (by omega) (by omega)
