/-! uses -/
theorem ps_asL {pl bd : cr_S} {T : Nat} (hT : T ≤ 10) (e0 : pl 0 0 = nI T) (c : Int32) : ∀ (d k : Nat), 1 ≤ k → k ≤ T + 1 → 11 < d + k → ((∀ u, k ≤ u → u ≤ T → pl 2 u = c → bd 1 u = 0) → lo_Board_allSleepOn_2 pl bd c d (nI k) = 1) ∧ ((∃ u, k ≤ u ∧ u ≤ T ∧ pl 2 u = c ∧ bd 1 u ≠ 0) → lo_Board_allSleepOn_2 pl bd c d (nI k) = 0)
  | 0, k, _, a, b => absurd b (by omega)
  | d + 1, k, h1, hk, hd => by
    have kt := ps_nI_t (k := k) (by omega)
    have Tt := ps_nI_t (k := T) (by omega)
    rw [lo_Board_allSleepOn_2, e0]
    by_cases e : k = T + 1
    · have lt : nI T < nI k := by rw [pu_lt]; omega
      rw [if_pos lt]
      exact ⟨fun _ => rfl, fun ⟨u, a, b, _⟩ => absurd b (by omega)⟩
    · have nlt : ¬ nI T < nI k := by rw [pu_lt]; omega
      have ih := ps_asL (bd := bd) hT e0 c d (k + 1) (by omega) (by omega) (by omega)
      rw [if_neg nlt, ps_nI_c (k := k) (by omega), show nI k + 1 = nI (k + 1) from nI_1 k]
      have go : (pl 2 k = c → bd 1 k = 0) → ((∀ u, k ≤ u → u ≤ T → pl 2 u = c → bd 1 u = 0) → lo_Board_allSleepOn_2 pl bd c d (nI (k + 1)) = 1) ∧ ((∃ u, k ≤ u ∧ u ≤ T ∧ pl 2 u = c ∧ bd 1 u ≠ 0) → lo_Board_allSleepOn_2 pl bd c d (nI (k + 1)) = 0) := fun q => by
        refine ⟨fun w => ih.1 (fun u a b => w u (by omega) b), fun ⟨u, a, b, g, z⟩ => ih.2 ⟨u, ?_, b, g, z⟩⟩
        rcases Nat.lt_or_ge k u with y | y
        · exact y
        · have : u = k := by omega
          rw [this] at g z
          exact absurd (q g) z
      by_cases c1 : pl 2 k = c
      · rw [if_pos c1]
        by_cases c2 : bd 1 k = 0
        · rw [if_pos c2]
          exact go (fun _ => c2)
        · rw [if_neg c2]
          exact ⟨fun w => absurd (w k (Nat.le_refl _) (by omega) c1) c2, fun _ => rfl⟩
      · rw [if_neg c1]
        exact go (fun q => absurd q c1)
theorem ps_usL {pl bd rf : cr_S} {ln : Nat → Int64} {T R : Nat} (hP : ps_Pl pl rf ln T R) (e1 : bd 1 = rf 3) (lat : Int64) {t r : Nat} (t2 : t ≤ T) (r2 : r ≤ R) (x3 : Int64) : ∀ (d k : Nat), 1 ≤ k → k ≤ T + 1 → 11 < d + k → ((∀ u, k ≤ u → u ≤ T → (pl 2 u = pl 2 t → bd 1 u = 0) ∧ (pl 2 u ≠ pl 2 t → ¬ ps_us pl u r)) → lo_Ref_uses_38 rf lat ln (nI t) (nI r) x3 d (nI k) = ((if md_Plan_isUsedBy pl (nI t) (nI r) = 0 then 1 else 0), vp_updL ln (9 * t + r) x3)) ∧ ((∃ u, k ≤ u ∧ u ≤ T ∧ ((pl 2 u = pl 2 t ∧ bd 1 u ≠ 0) ∨ (pl 2 u ≠ pl 2 t ∧ ps_us pl u r))) → lo_Ref_uses_38 rf lat ln (nI t) (nI r) x3 d (nI k) = (-3, ln))
  | 0, k, _, a, b => absurd b (by have := hP.1.1; omega)
  | d + 1, k, h1, hk, hd => by
    obtain ⟨⟨a1, a2, a3, a4, a5, a6, a7, a8, a9⟩, pL, pR, pU, pC, pO⟩ := id hP
    have kt := ps_nI_t (k := k) (by omega)
    have Tt := ps_nI_t (k := T) (by omega)
    have n1 : ¬ (1 : Int32) = 0 := by decide
    rw [lo_Ref_uses_38, a4]
    by_cases e : k = T + 1
    · have lt : nI T < nI k := by rw [pu_lt]; omega
      have us := ps_us0 pL (t := t) (r := r) (by omega) (by omega)
      have le := ps_len pL (t := t) (r := r) (by omega) (by omega)
      rw [if_pos lt]
      refine ⟨fun _ => ?_, fun ⟨u, a, b, _⟩ => absurd b (by omega)⟩
      by_cases u : ps_us pl t r
      · rw [if_neg (show ¬ lg_cmp (ln ((9 : Int32) * nI t + nI r).toNatClampNeg) 0 ≤ 0 from fun q => le.mp q u), (us.1 u).1, if_neg n1, ps_ix9 (by omega) (by omega)]
      · rw [if_pos (show lg_cmp (ln ((9 : Int32) * nI t + nI r).toNatClampNeg) 0 ≤ 0 from le.mpr u), (us.2 u).1, if_pos rfl, ps_ix9 (by omega) (by omega)]
    · have nlt : ¬ nI T < nI k := by rw [pu_lt]; omega
      have ih := ps_usL hP e1 lat t2 r2 x3 d (k + 1) (by omega) (by omega) (by omega)
      have le := ps_len pL (t := k) (r := r) (by omega) (by omega)
      have k1 : k ≤ T := by omega
      rw [if_neg nlt, ps_nI_c (k := k) (by omega), ps_nI_c (k := t) (by omega), show nI k + 1 = nI (k + 1) from nI_1 k, ← a8, ← e1]
      have go : (pl 2 k = pl 2 t → bd 1 k = 0) → (pl 2 k ≠ pl 2 t → ¬ ps_us pl k r) → ((∀ u, k ≤ u → u ≤ T → (pl 2 u = pl 2 t → bd 1 u = 0) ∧ (pl 2 u ≠ pl 2 t → ¬ ps_us pl u r)) → lo_Ref_uses_38 rf lat ln (nI t) (nI r) x3 d (nI (k + 1)) = ((if md_Plan_isUsedBy pl (nI t) (nI r) = 0 then 1 else 0), vp_updL ln (9 * t + r) x3)) ∧ ((∃ u, k ≤ u ∧ u ≤ T ∧ ((pl 2 u = pl 2 t ∧ bd 1 u ≠ 0) ∨ (pl 2 u ≠ pl 2 t ∧ ps_us pl u r))) → lo_Ref_uses_38 rf lat ln (nI t) (nI r) x3 d (nI (k + 1)) = (-3, ln)) := fun q q' => by
        refine ⟨fun w => ih.1 (fun u a b => w u (by omega) b), fun ⟨u, a, b, g⟩ => ih.2 ⟨u, ?_, b, g⟩⟩
        rcases Nat.lt_or_ge k u with y | y
        · exact y
        · have : u = k := by omega
          rw [this] at g
          rcases g with ⟨g, z⟩ | ⟨g, z⟩
          · exact absurd (q g) z
          · exact absurd z (q' g)
      by_cases c1 : pl 2 k = pl 2 t
      · rw [if_pos c1]
        by_cases c2 : bd 1 k = 0
        · rw [if_pos c2, if_pos c1]
          exact go (fun _ => c2) (fun q => absurd c1 q)
        · rw [if_neg c2]
          exact ⟨fun w => absurd ((w k (Nat.le_refl _) k1).1 c1) c2, fun _ => rfl⟩
      · rw [if_neg c1, if_neg c1]
        by_cases u : ps_us pl k r
        · rw [if_neg (show ¬ lg_cmp (ln ((9 : Int32) * nI k + nI r).toNatClampNeg) 0 ≤ 0 from fun q => le.mp q u)]
          exact ⟨fun w => absurd u ((w k (Nat.le_refl _) k1).2 c1), fun _ => rfl⟩
        · rw [if_pos (show lg_cmp (ln ((9 : Int32) * nI k + nI r).toNatClampNeg) 0 ≤ 0 from le.mpr u)]
          exact go (fun q => absurd q c1) (fun _ => u)
theorem ps_suE (pl : cr_S) {t r : Nat} (ht : t ≤ 10) (hr : r ≤ 8) (x : Int32) : md_Plan_setUse pl (nI t) (nI r) x = cr_up (cr_up (cr_up pl (6 + t) r x) 4 r (pl 2 t)) 3 r (cr_max (pl 3 r) (pl 1 t)) := by
  unfold md_Plan_setUse
  rw [ps_nI_c (k := t) (by omega), ps_nI_c (k := r) (by omega), pu_up_cell pl r x (show 2 ≠ 6 + t by omega), pu_up_cell (cr_up pl (6 + t) r x) r (pl 2 t) (show 3 ≠ 4 by decide), pu_up_cell pl r x (show 3 ≠ 6 + t by omega), pu_up_cell (cr_up pl (6 + t) r x) r (pl 2 t) (show 1 ≠ 4 by decide), pu_up_cell pl r x (show 1 ≠ 6 + t by omega)]
theorem ps_Pl_use {pl rf : cr_S} {ln : Nat → Int64} {T R t r : Nat} (h : ps_Pl pl rf ln T R) (t1 : 1 ≤ t) (t2 : t ≤ T) (r1 : 1 ≤ r) (r2 : r ≤ R) (x3 : Int64) (x1 : 1 ≤ x3.toInt) (x2 : x3.toInt ≤ 1000) (ho : pl 4 r = 0 ∨ pl 4 r = pl 2 t) : ps_Pl (cr_up (cr_up (cr_up pl (6 + t) r x3.toInt32) 4 r (pl 2 t)) 3 r (cr_max (pl 3 r) (pl 1 t))) rf (vp_updL ln (9 * t + r) x3) T R := by
  obtain ⟨⟨a1, a2, a3, a4, a5, a6, a7, a8, a9⟩, pL, pR, pU, pC, pO⟩ := h
  have xi : x3.toInt32.toInt = x3.toInt := by
    rw [Int64.toInt_toInt32]
    exact cr_bmod ⟨by omega, by omega⟩
  have xl : x3 = x3.toInt32.toInt64 := by
    rw [← Int64.toInt_inj, ps_i64, xi]
  have cL : ∀ t' r', (cr_up (cr_up (cr_up pl (6 + t) r x3.toInt32) 4 r (pl 2 t)) 3 r (cr_max (pl 3 r) (pl 1 t))) (6 + t') r' = if t' = t ∧ r' = r then x3.toInt32 else pl (6 + t') r' := fun t' r' => by
    rw [pu_up_cell _ _ _ (show 6 + t' ≠ 3 by omega), pu_up_cell _ _ _ (show 6 + t' ≠ 4 by omega)]
    by_cases w : t' = t
    · subst w
      rw [pu_up_fn]
      by_cases z : r' = r
      · subst z
        rw [ps_us_s, if_pos (show t' = t' ∧ r' = r' from ⟨rfl, rfl⟩)]
      · rw [ps_us_n _ _ z, if_neg (show ¬ (t' = t' ∧ r' = r) from fun q => z q.2)]
    · rw [pu_up_cell _ _ _ (show 6 + t' ≠ 6 + t by omega), if_neg (show ¬ (t' = t ∧ r' = r) from fun q => w q.1)]
  have cl : ∀ k, k ≤ 2 → (cr_up (cr_up (cr_up pl (6 + t) r x3.toInt32) 4 r (pl 2 t)) 3 r (cr_max (pl 3 r) (pl 1 t))) k = pl k := fun k hk => by
    rw [pu_up_cell _ _ _ (show k ≠ 3 by omega), pu_up_cell _ _ _ (show k ≠ 4 by omega), pu_up_cell _ _ _ (show k ≠ 6 + t by omega)]
  have c3 : (cr_up (cr_up (cr_up pl (6 + t) r x3.toInt32) 4 r (pl 2 t)) 3 r (cr_max (pl 3 r) (pl 1 t))) 3 = upd (pl 3) r (cr_max (pl 3 r) (pl 1 t)) := by
    rw [pu_up_fn, pu_up_cell _ _ _ (show (3 : Nat) ≠ 4 by decide), pu_up_cell _ _ _ (show 3 ≠ 6 + t by omega)]
  have c4 : (cr_up (cr_up (cr_up pl (6 + t) r x3.toInt32) 4 r (pl 2 t)) 3 r (cr_max (pl 3 r) (pl 1 t))) 4 = upd (pl 4) r (pl 2 t) := by
    rw [pu_up_cell _ _ _ (show (4 : Nat) ≠ 3 by decide), pu_up_fn, pu_up_cell _ _ _ (show 4 ≠ 6 + t by omega)]
  generalize cr_up (cr_up (cr_up pl (6 + t) r x3.toInt32) 4 r (pl 2 t)) 3 r (cr_max (pl 3 r) (pl 1 t)) = p at cL cl c3 c4 ⊢
  have e0 := cl 0 (by omega)
  have e1 := cl 1 (by omega)
  have e2 := cl 2 (by omega)
  have usT : ps_us p t r := by
    unfold ps_us
    rw [cL t r, if_pos (show t = t ∧ r = r from ⟨rfl, rfl⟩)]
    omega
  have usO : ∀ t' r', ¬ (t' = t ∧ r' = r) → (ps_us p t' r' ↔ ps_us pl t' r') := fun t' r' q => by
    unfold ps_us
    rw [cL t' r', if_neg q]
  have usM : ∀ t' r', ps_us pl t' r' → ps_us p t' r' := fun t' r' q => by
    by_cases w : t' = t ∧ r' = r
    · rw [w.1, w.2]
      exact usT
    · exact (usO t' r' w).mpr q
  have rt := pR t t1 t2
  refine ⟨⟨a1, a2, by rw [e0]; exact a3, a4, by rw [e0]; exact a5, a6, e1.trans a7, e2.trans a8, ?_⟩, fun t' r' ht hr => ?_, fun t' q1 q2 => ?_, fun t' r' ht hr u => ?_, fun r' hr => ?_, fun r' hr => ?_⟩
  · intro j
    rw [e2]
    exact a9 j
  · rw [cL t' r']
    unfold vp_updL
    by_cases w : t' = t ∧ r' = r
    · rw [if_pos w, if_pos (show 9 * t' + r' = 9 * t + r by omega), xi]
      exact ⟨xl, by omega, x2⟩
    · rw [if_neg w, if_neg (show ¬ 9 * t' + r' = 9 * t + r by omega)]
      exact pL t' r' ht hr
  · rw [e1, e2]
    exact pR t' q1 q2
  · by_cases w : t' = t ∧ r' = r
    · omega
    · exact pU t' r' ht hr ((usO t' r' w).mp u)
  · rw [c3]
    obtain ⟨m0, m1, m2⟩ := pC r' hr
    by_cases z : r' = r
    · subst z
      rw [ps_us_s]
      have mt := cr_max_t (pl 3 r') (pl 1 t)
      refine ⟨by omega, fun k k1 k2 u => ?_, ?_⟩
      · rw [e1]
        by_cases w : k = t
        · rw [w]
          omega
        · have := m1 k k1 k2 ((usO k r' (fun q => w q.1)).mp u)
          omega
      · by_cases y : pl 3 r' < pl 1 t
        · refine Or.inr ⟨t, t1, by omega, usT, ?_⟩
          rw [e1]
          unfold cr_max
          rw [if_pos y]
        · have y' : cr_max (pl 3 r') (pl 1 t) = pl 3 r' := by
            unfold cr_max
            rw [if_neg y]
          have y2 := cr_nlt y
          rw [y']
          rcases m2 with q | ⟨k, q1, q2, q3, q4⟩
          · exact Or.inl q
          · exact Or.inr ⟨k, q1, q2, usM k r' q3, by rw [e1]; exact q4⟩
    · rw [ps_us_n _ _ z]
      refine ⟨m0, fun k k1 k2 u => ?_, ?_⟩
      · rw [e1]
        exact m1 k k1 k2 ((usO k r' (fun q => z q.2)).mp u)
      · rcases m2 with q | ⟨k, q1, q2, q3, q4⟩
        · exact Or.inl q
        · exact Or.inr ⟨k, q1, q2, usM k r' q3, by rw [e1]; exact q4⟩
  · rw [c4, e2]
    by_cases z : r' = r
    · subst z
      rw [ps_us_s]
      refine Or.inr ⟨fun q => ?_, ⟨t, by omega, usT⟩, fun k hk u => ?_⟩
      · have := rt.2.2.1
        rw [q] at this
        exact absurd this (by decide)
      · by_cases w : k = t
        · rw [w]
        · have u' := (usO k r' (fun q => w q.1)).mp u
          rcases pO r' hr with ⟨_, y⟩ | ⟨y, _, y'⟩
          · exact absurd u' (y k hk)
          · rcases ho with o | o
            · exact absurd o y
            · rw [y' k hk u', o]
    · rw [ps_us_n _ _ z]
      rcases pO r' hr with ⟨y, w⟩ | ⟨y, ⟨k, w1, w2⟩, w⟩
      · exact Or.inl ⟨y, fun k hk u => w k hk ((usO k r' (fun q => z q.2)).mp u)⟩
      · exact Or.inr ⟨y, ⟨k, w1, usM k r' w2⟩, fun k hk u => w k hk ((usO k r' (fun q => z q.2)).mp u)⟩
theorem ps_uses (N : Nat) (mn : cr_S) (lt : Int64) (pl bd lk tr tb rf : cr_S) (lat : Int64) (ln : Nat → Int64) (y0 y1 : Int32) (y2 : Int64) (hN : N < 512) (h : ps_Sim N mn lt pl bd lk tr tb rf lat ln) : (md_Main_uses mn lt pl bd lk tr tb y0 y1 y2).1 = (md_Ref_uses rf lat ln y0 y1 y2).1 ∧ ps_Sim (N + 1) mn lt (md_Main_uses mn lt pl bd lk tr tb y0 y1 y2).2 bd lk tr tb rf lat (md_Ref_uses rf lat ln y0 y1 y2).2 := by
  have hs := ps_skip _ _ _ _ _ _ _ _ _ _ _ h
  obtain ⟨T, R, hP, hW, hL, hm, hl, h0, hb, hh⟩ := h
  obtain ⟨⟨a1, a2, a3, a4, a5, a6, a7, a8, a9⟩, pL, pR, pU, pC, pO⟩ := id hP
  have n1 : ¬ (1 : Int32) = 0 := by decide
  unfold md_Main_uses md_Ref_uses
  rcases ps_hasT hP.1 lat ln y0 with ⟨q1, q2⟩ | ⟨q1, q2, t, t1, t2, rfl⟩
  · rw [q1, q2, if_pos rfl, if_pos rfl]
    exact ⟨rfl, hs⟩
  · rw [q1, q2, if_neg n1, if_neg n1]
    rcases ps_hasR hP.1 lat ln y1 with ⟨p1, p2⟩ | ⟨p1, p2, r, r1, r2, rfl⟩
    · rw [p1, p2, if_pos rfl, if_pos rfl]
      exact ⟨rfl, hs⟩
    · rw [p1, p2, if_neg n1, if_neg n1]
      by_cases c1 : lg_cmp y2 1 < 0
      · rw [if_pos c1, if_pos c1]
        exact ⟨rfl, hs⟩
      · rw [if_neg c1, if_neg c1]
        by_cases c2 : lg_cmp y2 1000 ≤ 0
        · rw [if_pos c2, if_pos c2, ps_nI_c (k := t) (by omega)]
          have j1 : (1 : Int64).toInt = 1 := by decide
          have j2 : (1000 : Int64).toInt = 1000 := by decide
          have y1' : 1 ≤ y2.toInt := by
            rw [lg_cmp_lt, Int64.lt_iff_toInt_lt] at c1
            omega
          have y2' : y2.toInt ≤ 1000 := by
            rw [lg_cmp_le, Int64.le_iff_toInt_le] at c2
            omega
          have as := ps_asL (pl := pl) (bd := bd) a1 a3 (pl 2 t) 11 1 (by omega) (by omega) (by omega)
          have as1 : (∀ u, 1 ≤ u → u ≤ T → pl 2 u = pl 2 t → bd 1 u = 0) → md_Board_allSleepOn pl bd (pl 2 t) = 1 := as.1
          have as2 : (∃ u, 1 ≤ u ∧ u ≤ T ∧ pl 2 u = pl 2 t ∧ bd 1 u ≠ 0) → md_Board_allSleepOn pl bd (pl 2 t) = 0 := as.2
          have ur := ps_usL hP hW.1 lat t2 r2 y2 11 1 (by omega) (by omega) (by omega)
          have ur1 : (∀ u, 1 ≤ u → u ≤ T → (pl 2 u = pl 2 t → bd 1 u = 0) ∧ (pl 2 u ≠ pl 2 t → ¬ ps_us pl u r)) → lo_Ref_uses_38 rf lat ln (nI t) (nI r) y2 11 1 = ((if md_Plan_isUsedBy pl (nI t) (nI r) = 0 then 1 else 0), vp_updL ln (9 * t + r) y2) := ur.1
          have ur2 : (∃ u, 1 ≤ u ∧ u ≤ T ∧ ((pl 2 u = pl 2 t ∧ bd 1 u ≠ 0) ∨ (pl 2 u ≠ pl 2 t ∧ ps_us pl u r))) → lo_Ref_uses_38 rf lat ln (nI t) (nI r) y2 11 1 = (-3, ln) := ur.2
          clear as ur
          by_cases A : ∃ u, 1 ≤ u ∧ u ≤ T ∧ pl 2 u = pl 2 t ∧ bd 1 u ≠ 0
          · rw [as2 A, if_pos rfl]
            obtain ⟨u, u1, u2, u3, u4⟩ := A
            rw [ur2 ⟨u, u1, u2, Or.inl ⟨u3, u4⟩⟩]
            exact ⟨rfl, hs⟩
          · have A' : ∀ u, 1 ≤ u → u ≤ T → pl 2 u = pl 2 t → bd 1 u = 0 := fun u u1 u2 u3 => Decidable.byContradiction (fun u4 => A ⟨u, u1, u2, u3, u4⟩)
            rw [as1 A', if_neg n1]
            by_cases C : ∃ u, 1 ≤ u ∧ u ≤ T ∧ pl 2 u ≠ pl 2 t ∧ ps_us pl u r
            · obtain ⟨u, u1, u2, u3, u4⟩ := C
              have z : md_Plan_isUsedByAnotherCore pl (nI r) (pl 2 t) = 1 := by
                unfold md_Plan_isUsedByAnotherCore
                rw [ps_nI_c (k := r) (by omega)]
                rcases pO r (by omega) with ⟨_, y⟩ | ⟨y, _, y'⟩
                · exact absurd u4 (y u (by omega))
                · rw [if_neg y, if_neg (show ¬ pl 4 r = pl 2 t from fun q => u3 ((y' u (by omega) u4).trans q))]
              rw [z, if_neg n1, ur2 ⟨u, u1, u2, Or.inr ⟨u3, u4⟩⟩]
              exact ⟨rfl, hs⟩
            · have C' : ∀ u, 1 ≤ u → u ≤ T → pl 2 u ≠ pl 2 t → ¬ ps_us pl u r := fun u u1 u2 u3 u4 => C ⟨u, u1, u2, u3, u4⟩
              have ho : pl 4 r = 0 ∨ pl 4 r = pl 2 t := by
                rcases pO r (by omega) with ⟨y, _⟩ | ⟨y, ⟨u, w1, w2⟩, y'⟩
                · exact Or.inl y
                · have v := pU u r w1 (by omega) w2
                  refine Or.inr (Decidable.byContradiction (fun q => C' u v.1 v.2.1 (fun g => q ?_) w2))
                  rw [← y' u w1 w2, g]
              have z : md_Plan_isUsedByAnotherCore pl (nI r) (pl 2 t) = 0 := by
                unfold md_Plan_isUsedByAnotherCore
                rw [ps_nI_c (k := r) (by omega)]
                by_cases y : pl 4 r = 0
                · rw [if_pos y]
                · rw [if_neg y, if_pos (show pl 4 r = pl 2 t from ho.resolve_left y)]
              rw [z, if_pos rfl, ur1 (fun u u1 u2 => ⟨A' u u1 u2, C' u u1 u2⟩), ps_suE pl (by omega) (by omega)]
              have p' := ps_Pl_use hP t1 t2 r1 r2 y2 y1' y2' ho
              have bdp : ps_Bd (cr_up (cr_up (cr_up pl (6 + t) r y2.toInt32) 4 r (pl 2 t)) 3 r (cr_max (pl 3 r) (pl 1 t))) bd T R := by
                refine ps_Bd_plan hW.2.2.2.2.2.2.1 (Nat.le_refl _) a1 (Nat.le_refl _) (fun u hu => ⟨?_, ?_⟩) (fun u j u1 u2 hu hj us => ?_)
                · rw [pu_up_cell _ _ _ (show (1 : Nat) ≠ 3 by decide), pu_up_cell _ _ _ (show (1 : Nat) ≠ 4 by decide), pu_up_cell _ _ _ (show 1 ≠ 6 + t by omega)]
                · rw [pu_up_cell _ _ _ (show (2 : Nat) ≠ 3 by decide), pu_up_cell _ _ _ (show (2 : Nat) ≠ 4 by decide), pu_up_cell _ _ _ (show 2 ≠ 6 + t by omega)]
                · have bh := ps_B4h hW.2.2.2.2.2.2.1.2.2.2.1 a1 u1 (by omega) hj
                  have jr : j ≠ r := fun q => by
                    rw [q] at us
                    by_cases w : pl 2 u = pl 2 t
                    · have := A' u u1 u2 w
                      rw [this] at hu
                      exact absurd hu (by decide)
                    · exact C' u u1 u2 w us
                  constructor
                  · unfold ps_us at us ⊢
                    rw [pu_up_cell _ _ _ (show 6 + u ≠ 3 by omega), pu_up_cell _ _ _ (show 6 + u ≠ 4 by omega)]
                    by_cases w : u = t
                    · rw [w] at us ⊢
                      rw [pu_up_fn, ps_us_n _ _ jr]
                      exact us
                    · rw [pu_up_cell _ _ _ (show 6 + u ≠ 6 + t by omega)]
                      exact us
                  · rw [pu_up_fn, ps_us_n _ _ jr, pu_up_cell _ _ _ (show (3 : Nat) ≠ 4 by decide), pu_up_cell _ _ _ (show 3 ≠ 6 + t by omega)]
              have fin : ps_Sim (N + 1) mn lt (cr_up (cr_up (cr_up pl (6 + t) r y2.toInt32) 4 r (pl 2 t)) 3 r (cr_max (pl 3 r) (pl 1 t))) bd lk tr tb rf lat (vp_updL ln (9 * t + r) y2) := ⟨T, R, p', ps_W_plan (ps_W_mono hW) bdp, ps_L_mono hL, hm, hl, h0, hb, hh⟩
              by_cases w : md_Plan_isUsedBy pl (nI t) (nI r) = 0
              · rw [if_pos w, if_pos w]
                exact ⟨rfl, fin⟩
              · rw [if_neg w, if_neg w]
                exact ⟨rfl, fin⟩
        · rw [if_neg c2, if_neg c2]
          exact ⟨rfl, hs⟩
