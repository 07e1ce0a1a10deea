/-! locks: the greatest that a core holds, by both sides' loops -/
def ps_top (f : Nat → Int32) (c : Int32) (t : Nat) : Prop := (t = 0 ∧ ∀ n, 1 ≤ n → n ≤ 8 → f n ≠ c) ∨ (1 ≤ t ∧ t ≤ 8 ∧ f t = c ∧ ∀ n, t < n → n ≤ 8 → f n ≠ c)
theorem ps_top_u {f : Nat → Int32} {c : Int32} {t u : Nat} (h : ps_top f c t) (g : ps_top f c u) : t = u := by
  rcases h with ⟨h0, h1⟩ | ⟨h0, h1, h2, h3⟩ <;> rcases g with ⟨g0, g1⟩ | ⟨g0, g1, g2, g3⟩
  · omega
  · exact absurd g2 (h1 u g0 g1)
  · exact absurd h2 (g1 t h0 h1)
  · rcases Nat.lt_trichotomy t u with q | q | q
    · exact absurd g2 (h3 u q g1)
    · exact q
    · exact absurd h2 (g3 t q h1)
theorem ps_nI_t {k : Nat} (h : k < 100000) : (nI k).toInt = (k : Int) := nI_toInt (by omega)
theorem ps_nI_c {k : Nat} (h : k < 100000) : (nI k).toNatClampNeg = k := nI_clamp (by omega)
theorem ps_last (lk : cr_S) (c : Int32) : ∀ (d k : Nat), k ≤ 8 → k < d → (∀ n, k < n → n ≤ 8 → lk 1 n ≠ c) → ∃ t, t ≤ 8 ∧ lo_Locks_lastTakenBy_3 lk c d (nI k) = nI t ∧ ps_top (lk 1) c t
  | 0, k, _, h, _ => absurd h (by omega)
  | d + 1, k, h8, hd, hn => by
    have k1 : (1 : Int32).toInt = 1 := by decide
    have kt := ps_nI_t (k := k) (by omega)
    rw [lo_Locks_lastTakenBy_3, ps_nI_c (by omega)]
    by_cases e : k = 0
    · subst e
      refine ⟨0, by omega, ?_, Or.inl ⟨rfl, fun n a b => hn n (by omega) b⟩⟩
      rw [if_pos (by rw [pu_lt]; omega)]
      rfl
    · rw [if_neg (by rw [pu_lt]; omega)]
      by_cases e2 : lk 1 k = c
      · rw [if_pos e2]
        exact ⟨k, h8, rfl, Or.inr ⟨by omega, h8, e2, hn⟩⟩
      · rw [if_neg e2, show nI k + (-1) = nI (k - 1) from sb_m1 (by omega)]
        exact ps_last lk c d (k - 1) (by omega) (by omega) (fun n a b => by
          rcases Nat.lt_or_ge k n with q | q
          · exact hn n q b
          · rw [show n = k by omega]; exact e2)
theorem ps_lastM (lk : cr_S) (c : Int32) : ∃ t, t ≤ 8 ∧ md_Locks_lastTakenBy lk c = nI t ∧ ps_top (lk 1) c t :=
  ps_last lk c 9 8 (by omega) (by omega) (fun n a b => absurd b (by omega))
/-- among the locks of one core the reference's numbers rise with the lock's own -/
def ps_rise (rf : cr_S) : Prop := ∀ n m : Nat, 1 ≤ n → n < m → m ≤ 8 → rf 9 n = rf 9 m → rf 9 n ≠ 0 → (rf 10 n).toInt < (rf 10 m).toInt
theorem ps_lastR0 (rf : cr_S) (lat : Int64) (ln : Nat → Int64) {c : Int32} (hc : c ≠ 0) (hr : ps_rise rf) : ∀ (d k b : Nat), 1 ≤ k → k ≤ 9 → 9 < d + k → ((b = 0 ∧ ∀ n, 1 ≤ n → n < k → rf 9 n ≠ c) ∨ (1 ≤ b ∧ b < k ∧ rf 9 b = c ∧ ∀ n, b < n → n < k → rf 9 n ≠ c)) → ∃ t, t ≤ 8 ∧ lo_Ref_lastLock_4 rf lat ln c d (nI b) (nI k) = nI t ∧ ps_top (rf 9) c t
  | 0, k, b, _, h, h2, _ => absurd h2 (by omega)
  | d + 1, k, b, h1, h9, hd, hb => by
    have k9 : (9 : Int32).toInt = 9 := by decide
    have k0 : (0 : Int32).toInt = 0 := by decide
    have kt := ps_nI_t (k := k) (by omega)
    have bl : b ≤ 8 := by rcases hb with q | q <;> omega
    have bt := ps_nI_t (k := b) (by omega)
    rw [lo_Ref_lastLock_4, ps_nI_c (k := k) (by omega), ps_nI_c (k := b) (by omega)]
    by_cases e : k = 9
    · rw [if_pos (by rw [pu_le]; omega)]
      refine ⟨b, bl, rfl, ?_⟩
      rcases hb with ⟨q1, q2⟩ | ⟨q1, q2, q3, q4⟩
      · exact Or.inl ⟨q1, fun n a z => q2 n a (by omega)⟩
      · exact Or.inr ⟨q1, bl, q3, fun n a z => q4 n a (by omega)⟩
    · rw [if_neg (by rw [pu_le]; omega), show nI k + 1 = nI (k + 1) from nI_1 k]
      by_cases e2 : rf 9 k = c
      · have new : ∃ t, t ≤ 8 ∧ lo_Ref_lastLock_4 rf lat ln c d (nI k) (nI (k + 1)) = nI t ∧ ps_top (rf 9) c t := ps_lastR0 rf lat ln hc hr d (k + 1) k (by omega) (by omega) (by omega) (Or.inr ⟨h1, by omega, e2, fun n a z => absurd z (by omega)⟩)
        rw [if_pos e2]
        rcases hb with ⟨q1, q2⟩ | ⟨q1, q2, q3, q4⟩
        · rw [if_pos (by rw [pu_eq]; omega)]
          exact new
        · rw [if_neg (by rw [pu_eq]; omega), if_neg]
          · exact new
          · have := hr b k q1 q2 (by omega) (by rw [q3, e2]) (by rw [q3]; exact hc)
            rw [pu_le]; omega
      · rw [if_neg e2]
        refine ps_lastR0 rf lat ln hc hr d (k + 1) b (by omega) (by omega) (by omega) ?_
        rcases hb with ⟨q1, q2⟩ | ⟨q1, q2, q3, q4⟩
        · refine Or.inl ⟨q1, fun n a z => ?_⟩
          rcases Nat.lt_or_ge n k with w | w
          · exact q2 n a w
          · rw [show n = k by omega]; exact e2
        · refine Or.inr ⟨q1, by omega, q3, fun n a z => ?_⟩
          rcases Nat.lt_or_ge n k with w | w
          · exact q4 n a w
          · rw [show n = k by omega]; exact e2
theorem ps_lastR (rf : cr_S) (lat : Int64) (ln : Nat → Int64) {c : Int32} (hc : c ≠ 0) (hr : ps_rise rf) : ∃ t, t ≤ 8 ∧ md_Ref_lastLock rf lat ln c = nI t ∧ ps_top (rf 9) c t :=
  ps_lastR0 rf lat ln hc hr 9 1 0 (by omega) (by omega) (by omega) (Or.inl ⟨rfl, fun n a z => absurd z (by omega)⟩)
theorem ps_lastE {lk rf : cr_S} (h : lk 1 = rf 9) (lat : Int64) (ln : Nat → Int64) {c : Int32} (hc : c ≠ 0) (hr : ps_rise rf) : md_Locks_lastTakenBy lk c = md_Ref_lastLock rf lat ln c := by
  obtain ⟨t, _, e, ht⟩ := ps_lastM lk c
  obtain ⟨u, _, e', hu⟩ := ps_lastR rf lat ln hc hr
  rw [h] at ht
  rw [e, e', ps_top_u ht hu]
/-- the reference's search from n upwards -/
theorem ps_l49 (rf : cr_S) (lat : Int64) (ln : Nat → Int64) (c : Int32) (x : Int32) : ∀ (d k : Nat), 1 ≤ k → k ≤ 9 → 9 < d + k → ((∃ m, k ≤ m ∧ m ≤ 8 ∧ rf 9 m = c) → lo_Ref_lock_49 rf lat ln c x d (nI k) = (-16, rf)) ∧ ((∀ m, k ≤ m → m ≤ 8 → rf 9 m ≠ c) → lo_Ref_lock_49 rf lat ln c x d (nI k) = lo_Ref_lock_49 rf lat ln c x 1 (nI 9))
  | 0, k, _, h, h2 => absurd h2 (by omega)
  | d + 1, k, h1, h9, hd => by
    have k9 : (9 : Int32).toInt = 9 := by decide
    have kt := ps_nI_t (k := k) (by omega)
    have t9 := ps_nI_t (k := 9) (by omega)
    by_cases e : k = 9
    · subst e
      refine ⟨fun ⟨m, a, b, _⟩ => absurd b (by omega), fun _ => ?_⟩
      have q9 : (9 : Int32) ≤ nI 9 := by rw [pu_le]; omega
      rw [lo_Ref_lock_49, if_pos q9, lo_Ref_lock_49, if_pos q9]
    · have st : lo_Ref_lock_49 rf lat ln c x (d + 1) (nI k) = if rf 9 k = c then (-16, rf) else lo_Ref_lock_49 rf lat ln c x d (nI (k + 1)) := by
        rw [lo_Ref_lock_49, if_neg (by rw [pu_le]; omega), ps_nI_c (k := k) (by omega), show nI k + 1 = nI (k + 1) from nI_1 k]
      rw [st]
      have ih := ps_l49 rf lat ln c x d (k + 1) (by omega) (by omega) (by omega)
      by_cases e2 : rf 9 k = c
      · rw [if_pos e2]
        exact ⟨fun _ => rfl, fun q => absurd e2 (q k (Nat.le_refl k) (by omega))⟩
      · rw [if_neg e2]
        refine ⟨fun ⟨m, a, b, g⟩ => ih.1 ⟨m, ?_, b, g⟩, fun q => ih.2 (fun m a b => q m (by omega) b)⟩
        rcases Nat.lt_or_ge k m with w | w
        · omega
        · exact absurd (show rf 9 k = c by rw [show k = m by omega]; exact g) e2
