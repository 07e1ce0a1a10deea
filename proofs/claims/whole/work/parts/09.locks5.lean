/-! locks: the call -/
def ps_LF (rf rf' : cr_S) : Prop := (∀ k, k ≠ 0 → k ≠ 9 → k ≠ 10 → k ≠ 11 → k ≠ 12 → rf' k = rf k) ∧ ∀ j, j ≠ 3 → rf' 0 j = rf 0 j
theorem ps_LF_rf (rf : cr_S) : ps_LF rf rf := ⟨fun _ _ _ _ _ _ => rfl, fun _ _ => rfl⟩
theorem ps_acq {N : Nat} {lk rf : cr_S} (h : ps_L N lk rf) (hN : N < 512) (lat : Int64) (ln : Nat → Int64) {c x : Nat} (hc1 : 1 ≤ c) (hc3 : c ≤ 3) (hx1 : 1 ≤ x) (hx8 : x ≤ 8) (hs : lk 2 c = 0) :
    (md_Locks_acquire lk (nI c) (nI x)).1 = (lo_Ref_lock_49 rf lat ln (nI c) (nI x) 9 (nI x)).1 ∧ ps_L (N + 1) (md_Locks_acquire lk (nI c) (nI x)).2 (lo_Ref_lock_49 rf lat ln (nI c) (nI x) 9 (nI x)).2 ∧ ps_LF rf (lo_Ref_lock_49 rf lat ln (nI c) (nI x) 9 (nI x)).2 := by
  obtain ⟨t, ht8, et, htop⟩ := ps_lastM lk (nI c)
  have k0 : (0 : Int32).toInt = 0 := by decide
  have k9 : (9 : Int32).toInt = 9 := by decide
  have xt := ps_nI_t (k := x) (by omega)
  have tt := ps_nI_t (k := t) (by omega)
  have t9 := ps_nI_t (k := 9) (by omega)
  have a1 := h.1.1
  have rg := h.1.2.2.1 x
  unfold md_Locks_acquire
  rw [et, ps_nI_c (k := x) (by omega), ps_nI_c (k := c) (by omega)]
  by_cases e : t < x
  · have no : ∀ m, x ≤ m → m ≤ 8 → rf 9 m ≠ nI c := by
      intro m g1 g2
      rw [← a1]
      rcases htop with ⟨q1, q2⟩ | ⟨q1, q2, q3, q4⟩
      · exact q2 m (by omega) g2
      · exact q4 m (by omega) g2
    rw [if_pos (by rw [pu_lt]; omega), (ps_l49 rf lat ln (nI c) (nI x) 9 x hx1 (by omega) (by omega)).2 no, lo_Ref_lock_49, if_pos (show (9 : Int32) ≤ nI 9 by rw [pu_le]; omega), ps_nI_c (k := x) (by omega), ps_nI_c (k := c) (by omega)]
    by_cases f : lk 1 x = 0
    · rw [if_pos f, if_pos (show rf 9 x ≤ 0 by rw [← a1, f]; decide)]
      refine ⟨rfl, ps_have h hN lat ln hc1 hc3 hx1 hx8 hs (fun m g1 g2 => no m (by omega) g2), fun k g0 g9 g10 g11 g12 => ?_, fun j g => ?_⟩
      · simp [md_Ref_have, cr_up, g0, g9, g10]
      · simp [md_Ref_have, cr_up, upd, g]
    · rw [if_neg f, if_neg (show ¬ rf 9 x ≤ 0 by rw [← a1, pu_le]; rw [pu_eq] at f; omega)]
      refine ⟨rfl, ps_begin h hN hc1 hc3 hx1 hx8 no ?_ ?_ ?_ ?_ ?_ ?_ ?_ ?_ ?_, fun k g0 g9 g10 g11 g12 => ?_, fun j g => ?_⟩
      · simp [cr_up]
      · simp [cr_up]
      · simp [cr_up, upd]
      · simp [cr_up, upd]
      · simp [cr_up]
      · simp [cr_up]
      · simp [cr_up]
      · simp [cr_up, upd]
      · simp [cr_up, upd]
      · simp [cr_up, g0, g11, g12]
      · simp [cr_up, upd, g]
  · have he : ∃ m, x ≤ m ∧ m ≤ 8 ∧ rf 9 m = nI c := by
      rcases htop with ⟨q1, q2⟩ | ⟨q1, q2, q3, q4⟩
      · omega
      · exact ⟨t, by omega, ht8, by rw [← a1]; exact q3⟩
    rw [if_neg (by rw [pu_lt]; omega), (ps_l49 rf lat ln (nI c) (nI x) 9 x hx1 (by omega) (by omega)).1 he]
    exact ⟨rfl, ps_L_mono h, ps_LF_rf rf⟩
theorem ps_rel {N : Nat} {lk rf : cr_S} (h : ps_L N lk rf) (hN : N < 512) (lat : Int64) (ln : Nat → Int64) {c n : Nat} {x2 : Int32} (e2 : -x2 = nI n) (hc1 : 1 ≤ c) (hc3 : c ≤ 3) (hn1 : 1 ≤ n) (hn8 : n ≤ 8) :
    ∀ R, R = (if (md_Ref_lastLock rf lat ln (nI c)) = (-x2) then (lo_Ref_lock_146 (cr_up rf 9 (-x2).toNatClampNeg (0 : Int32)) lat ln (nI c) x2 4 (0 : Int32) (1 : Int32)) else ((-17 : Int32), rf)) →
    (md_Locks_release lk (nI c) (-x2)).1 = R.1 ∧ ps_L (N + 1) (md_Locks_release lk (nI c) (-x2)).2 R.2 ∧ ps_LF rf R.2 := by
  intro R hR
  have k0 : (0 : Int32).toInt = 0 := by decide
  have k4 : (4 : Int32).toInt = 4 := by decide
  have ct := ps_nI_t (k := c) (by omega)
  have nt := ps_nI_t (k := n) (by omega)
  have t4 := ps_nI_t (k := 4) (by omega)
  have hc0 : nI c ≠ 0 := ps_ne0 (by omega)
  have hn0 : nI n ≠ 0 := ps_ne0 (by omega)
  unfold md_Locks_release
  rw [e2, ps_nI_c (k := n) (by omega)] at hR ⊢
  rw [ps_lastE h.1.1 lat ln hc0 h.2.1]
  by_cases e : md_Ref_lastLock rf lat ln (nI c) = nI n
  · rw [if_pos e] at hR
    rw [if_pos e.symm]
    have hA := ps_free h n
    have eA : nI n = -x2 := e2.symm
    have l2 : cr_up lk 1 n 0 2 = lk 2 := pu_up_cell _ _ _ (by decide)
    obtain ⟨t, t3, htt, tc, tr⟩ := ps_spin (lk := lk) (rf := cr_up rf 9 n 0) lat ln (nI c) x2 (nI n) hn0 eA (by rw [← l2]; exact hA.1.2.1) (fun c1 c2 g1 g2 g3 g4 g5 g6 => by rw [pu_up_cell _ _ _ (by decide)]; exact h.2.2.1 c1 c2 g1 g2 g3 g4 g5 g6) 4 1 0 (by omega) (by omega) (by omega) (by omega) (Or.inl rfl)
    have tc' : md_Locks_longestSpinnerFor lk (nI n) = nI t := tc
    have tn := ps_nI_t (k := t) (by omega)
    rw [show (0 : Int32) = nI 0 from rfl, show (1 : Int32) = nI 1 from rfl] at hR
    rw [show nI 0 = (0 : Int32) from rfl] at tr
    rw [show (nI 0 : Int32) = 0 from rfl] at hR
    rw [tr, lo_Ref_lock_146, if_pos (by rw [pu_le]; omega)] at hR
    rw [tc', ps_nI_c (k := t) (by omega)]
    by_cases t0 : t = 0
    · subst t0
      rw [if_pos (by rw [pu_le]; omega)] at hR
      subst hR
      have eq : cr_up (cr_up lk 1 n (nI 0)) 2 0 0 = cr_up lk 1 n 0 := by
        funext k j
        have a5 := h.1.2.2.2.2
        by_cases ek : k = 2
        · subst ek
          by_cases ej : j = 0
          · subst ej; simp [cr_up, upd, a5]
          · simp [cr_up, upd, ej]
        · simp [cr_up, ek]; rfl
      refine ⟨rfl, ?_, fun k g0 g9 g10 g11 g12 => ?_, fun j g => ?_⟩
      · show ps_L (N + 1) (cr_up (cr_up lk 1 n (nI 0)) 2 0 0) _
        rw [eq]; exact ps_L_mono hA
      · simp [cr_up, g9]
      · simp [cr_up]
    · rw [if_neg (by rw [pu_le]; omega), ps_nI_c (k := t) (by omega), e2] at hR
      subst hR
      rcases htt with q | ⟨q1, q2⟩
      · exact absurd q t0
      · have hB := ps_stop hA (t := t) q1
        have hH := ps_have hB hN lat ln (c := t) (x := n) q1 t3 hn1 hn8 (by rw [pu_up_same]) (fun m g1 g2 => by
          rw [pu_up_cell _ _ _ (by decide), pu_up_fn]
          simp only [upd, if_neg (show m ≠ n by omega)]
          intro g3
          rw [← h.1.1, pu_eq] at g3
          have := h.2.2.2.2.2.2 t m q1 t3 (by omega) g2 (by rw [q2]; exact hn0) (by omega)
          rw [q2] at this
          omega)
        have eq : cr_up (cr_up lk 1 n (nI t)) 2 t 0 = cr_up (cr_up (cr_up lk 1 n 0) 2 t 0) 1 n (nI t) := by
          funext k j
          by_cases ek : k = 1
          · subst ek
            by_cases ej : j = n
            · subst ej; simp [cr_up, upd]
            · simp [cr_up, upd, ej]
          · by_cases ek2 : k = 2
            · subst ek2; simp [cr_up, upd]
            · simp [cr_up, ek, ek2]
        refine ⟨rfl, ?_, fun k g0 g9 g10 g11 g12 => ?_, fun j g => ?_⟩
        · show ps_L (N + 1) (cr_up (cr_up lk 1 n (nI t)) 2 t 0) _
          rw [eq]
          exact hH
        · simp [md_Ref_have, cr_up, g0, g9, g10, g11]
        · simp [md_Ref_have, cr_up, upd, g]
  · rw [if_neg e] at hR
    subst hR
    rw [if_neg (fun q => e q.symm)]
    exact ⟨rfl, ps_L_mono h, ps_LF_rf rf⟩
