/-! the trial: the relation of both sides -/
def ps_TH (pl tr tb rf : cr_S) (T : Nat) : Prop := ∀ t : Nat, 1 ≤ t → t ≤ T → rf 16 t = tb 3 t ∧ ((tb 3 t = 0 ∧ ∀ j, tb 4 j ≠ nI t) ∨ ∃ r, 1 ≤ r ∧ r ≤ 8 ∧ tb 3 t = nI r ∧ (∀ j, tb 4 j = nI t ↔ j = r) ∧ ps_ra pl (nI t) (tr 1 t) = nI r)
def ps_TS (pl tr rf : cr_S) (T : Nat) : Prop := ∀ t : Nat, 1 ≤ t → t ≤ T → ∃ d : Nat, d ≤ 33 ∧ tr 1 t = nI d ∧ rf 15 t = nI d ∧ ((rf 13 t = 0 ∧ d = 0) ∨ (rf 13 t = 1 ∧ (d : Int) < (ps_to pl (nI t)).toInt) ∨ (rf 13 t = 2 ∧ (d : Int) = (ps_to pl (nI t)).toInt))
def ps_TR (tb rf : cr_S) (T : Nat) : Prop := ∀ t : Nat, 1 ≤ t → t ≤ T → (rf 13 t = 1 ↔ tb 1 t = 1) ∧ (tb 1 t = 1 → tb 2 t = rf 14 t)
def ps_TD (tr rf : cr_S) (T : Nat) : Prop := ∀ k u : Nat, 1 ≤ k → k ≤ T → u ≤ 10 → ∃ m : Nat, m < 512 ∧ tr (3 + k) u = nI m ∧ (∀ r, r ≤ 8 → rf 17 (99 * k + 9 * u + r) = if m.testBit r then 1 else 0) ∧ (u = 0 ∨ T < u → m = 0)
def ps_TE (tr rf : cr_S) (T : Nat) : Prop := tr 0 0 = nI (ps_cnt (rf 13) 2 T)
def ps_TQ (pl rf tr tb : cr_S) (T R : Nat) : Prop := ps_Bd pl tb T R ∧ ps_TH pl tr tb rf T ∧ ps_TS pl tr rf T ∧ ps_TR tb rf T ∧ ps_TD tr rf T ∧ ps_TE tr rf T ∧ (∀ j, tb 5 j = 0) ∧ cr_RBoard tb ∧ cr_rh rf 16 (-1) 8
def ps_TF (rf rf' : cr_S) : Prop := ∀ k, k ≠ 13 → k ≠ 14 → k ≠ 15 → k ≠ 16 → k ≠ 17 → rf' k = rf k
theorem ps_TF_t {a b c : cr_S} (h : ps_TF a b) (g : ps_TF b c) : ps_TF a c := fun k h1 h2 h3 h4 h5 => (g k h1 h2 h3 h4 h5).trans (h k h1 h2 h3 h4 h5)
theorem ps_TF_r (a : cr_S) : ps_TF a a := fun _ _ _ _ _ _ => rfl
theorem ps_Pl_TF {pl rf rf' : cr_S} {ln : Nat → Int64} {T R : Nat} (h : ps_Pl pl rf ln T R) (f : ps_TF rf rf') : ps_Pl pl rf' ln T R :=
  ps_Pl_F h (by rw [f 0 (by decide) (by decide) (by decide) (by decide) (by decide)]) (by rw [f 0 (by decide) (by decide) (by decide) (by decide) (by decide)]) (f 1 (by decide) (by decide) (by decide) (by decide) (by decide)) (f 2 (by decide) (by decide) (by decide) (by decide) (by decide))
theorem ps_or : ∀ m, m < 512 → ∀ r, r < 9 → nI m ||| ((1 : Int32) <<< (nI r &&& 31)) = nI (m ||| 2 ^ r) := by decide +kernel
/-- the class's notes: a bit for each task that is kept waiting -/
theorem ps_ndL {pl tb : cr_S} {T t r : Nat} (hT : T ≤ 10) (e0 : pl 0 0 = nI T) (ht : t ≤ 10) : ∀ (d k : Nat) (tr : cr_S), 1 ≤ k → k ≤ T + 1 → 11 < d + k → (∀ c, c ≤ 3 → lo_Trial_noteDelays_2 pl tb (nI t) (nI r) d tr (nI k) c = tr c) ∧ (∀ q u, k ≤ q → q ≤ T → u = t → tb 1 q = 1 → ps_bel pl t q → lo_Trial_noteDelays_2 pl tb (nI t) (nI r) d tr (nI k) (3 + q) u = tr (3 + q) u ||| ((1 : Int32) <<< (nI r &&& 31))) ∧ (∀ q u, ¬ (k ≤ q ∧ q ≤ T ∧ u = t ∧ tb 1 q = 1 ∧ ps_bel pl t q) → lo_Trial_noteDelays_2 pl tb (nI t) (nI r) d tr (nI k) (3 + q) u = tr (3 + q) u)
  | 0, k, tr, _, a, b => absurd b (by omega)
  | d + 1, k, tr, h1, hk, hd => by
    have kt := ps_nI_t (k := k) (by omega)
    have Tt := ps_nI_t (k := T) (by omega)
    have n1 : ¬ (1 : Int32) = 0 := by decide
    rw [lo_Trial_noteDelays_2, e0]
    by_cases e : k = T + 1
    · have lt : nI T < nI k := by rw [pu_lt]; omega
      rw [if_pos lt]
      exact ⟨fun _ _ => rfl, fun q u a b => absurd b (by omega), fun _ _ _ => rfl⟩
    · have nlt : ¬ nI T < nI k := by rw [pu_lt]; omega
      rw [if_neg nlt, ps_nI_c (k := k) (by omega), ps_nI_c (k := t) (by omega), show nI k + 1 = nI (k + 1) from nI_1 k]
      have a1 : 1 ≤ k + 1 := by omega
      have a2 : k + 1 ≤ T + 1 := by omega
      have a3 : 11 < d + (k + 1) := by omega
      have ih := fun tr' => ps_ndL (tb := tb) (r := r) hT e0 ht d (k + 1) tr' a1 a2 a3
      have no : ¬ (tb 1 k = 1 ∧ ps_bel pl t k) → (∀ c, c ≤ 3 → lo_Trial_noteDelays_2 pl tb (nI t) (nI r) d tr (nI (k + 1)) c = tr c) ∧ (∀ q u, k ≤ q → q ≤ T → u = t → tb 1 q = 1 → ps_bel pl t q → lo_Trial_noteDelays_2 pl tb (nI t) (nI r) d tr (nI (k + 1)) (3 + q) u = tr (3 + q) u ||| ((1 : Int32) <<< (nI r &&& 31))) ∧ (∀ q u, ¬ (k ≤ q ∧ q ≤ T ∧ u = t ∧ tb 1 q = 1 ∧ ps_bel pl t q) → lo_Trial_noteDelays_2 pl tb (nI t) (nI r) d tr (nI (k + 1)) (3 + q) u = tr (3 + q) u) := fun z => by
        obtain ⟨i1, i2, i3⟩ := ih tr
        refine ⟨i1, fun q u b1 b2 b3 b4 b5 => ?_, fun q u b => i3 q u (fun w => b ⟨by omega, w.2⟩)⟩
        have qk : q ≠ k := fun w => by
          rw [w] at b4 b5
          exact z ⟨b4, b5⟩
        exact i2 q u (by omega) b2 b3 b4 b5
      have bl := ps_belM pl (l := t) (t := k) ht (by omega)
      by_cases c1 : tb 1 k = 1
      · rw [if_pos c1]
        by_cases c2 : ps_bel pl t k
        · rw [bl.1 c2, if_neg n1]
          obtain ⟨i1, i2, i3⟩ := ih (cr_up tr (3 + k) t (tr (3 + k) t ||| ((1 : Int32) <<< (nI r &&& 31))))
          refine ⟨fun c hc => ?_, fun q u b1 b2 b3 b4 b5 => ?_, fun q u b => ?_⟩
          · rw [i1 c hc, pu_up_cell _ _ _ (show c ≠ 3 + k by omega)]
          · by_cases qk : q = k
            · subst qk
              rw [i3 q u (fun w => absurd w.1 (by omega)), b3, pu_up_same]
            · rw [i2 q u (by omega) b2 b3 b4 b5, pu_up_cell _ _ _ (show 3 + q ≠ 3 + k by omega)]
          · rw [i3 q u (fun w => b ⟨by omega, w.2⟩)]
            by_cases qk : q = k
            · subst qk
              have ut : u ≠ t := fun w => b ⟨Nat.le_refl _, by omega, w, c1, c2⟩
              rw [pu_up_place _ _ _ ut]
            · rw [pu_up_cell _ _ _ (show 3 + q ≠ 3 + k by omega)]
        · rw [bl.2 c2, if_pos rfl]
          exact no (fun w => c2 w.2)
      · rw [if_neg c1]
        exact no (fun w => c1 w.1)
/-- the reference's marks -/
theorem ps_mkL {pl : cr_S} (lat : Int64) (ln : Nat → Int64) (x1 : Int64) (w3 w4 : Int32) {T t r : Nat} (hT : T ≤ 10) (ht : t ≤ 10) (r1 : 1 ≤ r) (r2 : r ≤ 8) : ∀ (d k : Nat) (rf : cr_S), rf 0 0 = nI T → pl 1 = rf 1 → pl 2 = rf 2 → 1 ≤ k → k ≤ T + 1 → 11 < d + k → (∀ c, c ≠ 17 → lo_Ref_plain_183 lat ln x1 w3 w4 (pl 2 t) (nI t) (nI r) d rf (nI k) c = rf c) ∧ (∀ q, k ≤ q → q ≤ T → rf 13 q = 1 → ps_bel pl t q → lo_Ref_plain_183 lat ln x1 w3 w4 (pl 2 t) (nI t) (nI r) d rf (nI k) 17 (99 * q + 9 * t + r) = 1) ∧ (∀ i, (∀ q, k ≤ q → q ≤ T → rf 13 q = 1 → ps_bel pl t q → i ≠ 99 * q + 9 * t + r) → lo_Ref_plain_183 lat ln x1 w3 w4 (pl 2 t) (nI t) (nI r) d rf (nI k) 17 i = rf 17 i)
  | 0, k, rf, _, _, _, _, a, b => absurd b (by omega)
  | d + 1, k, rf, e0, e1, e2, h1, hk, hd => by
    have kt := ps_nI_t (k := k) (by omega)
    have Tt := ps_nI_t (k := T) (by omega)
    have rt := ps_nI_t (k := r) (by omega)
    have k0 : (0 : Int32).toInt = 0 := by decide
    rw [lo_Ref_plain_183, e0]
    by_cases e : k = T + 1
    · have lt : nI T < nI k := by rw [pu_lt]; omega
      rw [if_pos lt]
      exact ⟨fun _ _ => rfl, fun q a b => absurd b (by omega), fun _ _ => rfl⟩
    · have nlt : ¬ nI T < nI k := by rw [pu_lt]; omega
      rw [if_neg nlt, if_neg (show ¬ nI r ≤ 0 by rw [pu_le]; omega), ps_nI_c (k := k) (by omega), ps_nI_c (k := t) (by omega), show nI k + 1 = nI (k + 1) from nI_1 k, ← e1, ← e2]
      have ix : ((99 : Int32) * nI k + (9 : Int32) * nI t + nI r).toNatClampNeg = 99 * k + 9 * t + r := by
        rw [show (99 : Int32) = nI 99 from rfl, show (9 : Int32) = nI 9 from rfl, pk_mul, pk_mul, nI_add, nI_add, ps_nI_c (by omega)]
      rw [ix]
      have a1 : 1 ≤ k + 1 := by omega
      have a2 : k + 1 ≤ T + 1 := by omega
      have a3 : 11 < d + (k + 1) := by omega
      have no : ¬ (rf 13 k = 1 ∧ ps_bel pl t k) → (∀ c, c ≠ 17 → lo_Ref_plain_183 lat ln x1 w3 w4 (pl 2 t) (nI t) (nI r) d rf (nI (k + 1)) c = rf c) ∧ (∀ q, k ≤ q → q ≤ T → rf 13 q = 1 → ps_bel pl t q → lo_Ref_plain_183 lat ln x1 w3 w4 (pl 2 t) (nI t) (nI r) d rf (nI (k + 1)) 17 (99 * q + 9 * t + r) = 1) ∧ (∀ i, (∀ q, k ≤ q → q ≤ T → rf 13 q = 1 → ps_bel pl t q → i ≠ 99 * q + 9 * t + r) → lo_Ref_plain_183 lat ln x1 w3 w4 (pl 2 t) (nI t) (nI r) d rf (nI (k + 1)) 17 i = rf 17 i) := fun z => by
        obtain ⟨i1, i2, i3⟩ := ps_mkL (pl := pl) lat ln x1 w3 w4 hT ht r1 r2 d (k + 1) rf e0 e1 e2 a1 a2 a3
        refine ⟨i1, fun q b1 b2 b3 b4 => ?_, fun i b => i3 i (fun q b1 => b q (by omega))⟩
        have qk : q ≠ k := fun w => by
          rw [w] at b3 b4
          exact z ⟨b3, b4⟩
        exact i2 q (by omega) b2 b3 b4
      by_cases c1 : pl 2 k = pl 2 t
      · rw [if_pos c1]
        by_cases c2 : pl 1 k ≤ pl 1 t
        · rw [if_pos c2]
          refine no (fun w => ?_)
          have := w.2.2
          have := cr_le c2
          omega
        · rw [if_neg c2]
          have c2' := cr_nle c2
          by_cases c3 : rf 13 k = 1
          · rw [if_pos c3]
            obtain ⟨i1, i2, i3⟩ := ps_mkL (pl := pl) lat ln x1 w3 w4 hT ht r1 r2 d (k + 1) (cr_up rf 17 (99 * k + 9 * t + r) 1) (by rw [← e0]; simp [cr_up]) (by rw [e1]; simp [cr_up]) (by rw [e2]; simp [cr_up]) a1 a2 a3
            have e13 : (cr_up rf 17 (99 * k + 9 * t + r) 1) 13 = rf 13 := by simp [cr_up]
            rw [e13] at i2 i3
            refine ⟨fun c hc => ?_, fun q b1 b2 b3 b4 => ?_, fun i b => ?_⟩
            · rw [i1 c hc, pu_up_cell _ _ _ hc]
            · by_cases qk : q = k
              · subst qk
                rw [i3 _ (fun q' b1' b2' _ _ => by omega), pu_up_same]
              · exact i2 q (by omega) b2 b3 b4
            · rw [i3 i (fun q b1 => b q (by omega)), pu_up_place _ _ _ (b k (Nat.le_refl _) (by omega) c3 ⟨c1.symm, c2'⟩)]
          · rw [if_neg c3]
            exact no (fun w => c3 w.1)
      · rw [if_neg c1]
        exact no (fun w => c1 w.2.1.symm)
/-- the notes of both sides, one tick with a resource -/
theorem ps_TD_mark {pl tr rf tr' rf' : cr_S} {T t r : Nat} (h : ps_TD tr rf T) (t1 : 1 ≤ t) (t2 : t ≤ T) (hT : T ≤ 10) (r1 : 1 ≤ r) (r2 : r ≤ 8) (A : Nat → Prop)
    (c1 : ∀ q u, 1 ≤ q → q ≤ T → u = t → A q → tr' (3 + q) u = tr (3 + q) u ||| ((1 : Int32) <<< (nI r &&& 31))) (c2 : ∀ q u, ¬ (1 ≤ q ∧ q ≤ T ∧ u = t ∧ A q) → tr' (3 + q) u = tr (3 + q) u)
    (d1 : ∀ q, 1 ≤ q → q ≤ T → A q → rf' 17 (99 * q + 9 * t + r) = 1) (d2 : ∀ i, (∀ q, 1 ≤ q → q ≤ T → A q → i ≠ 99 * q + 9 * t + r) → rf' 17 i = rf 17 i) : ps_TD tr' rf' T := by
  intro k u k1 k2 hu
  obtain ⟨m, m1, m2, m3, m4⟩ := h k u k1 k2 hu
  by_cases ut : u = t
  · subst ut
    by_cases a : A k
    · refine ⟨m ||| 2 ^ r, ?_, ?_, fun r' hr' => ?_, fun q => absurd q (by omega)⟩
      · exact Nat.or_lt_two_pow (n := 9) m1 (Nat.pow_lt_pow_right (by omega) (by omega))
      · rw [c1 k u k1 k2 rfl a, m2, ps_or m m1 r (by omega)]
      · rw [Nat.testBit_or, Nat.testBit_two_pow]
        by_cases rr : r = r'
        · subst rr
          rw [d1 k k1 k2 a]
          simp
        · rw [d2 _ (fun q q1 q2 _ => by omega), m3 r' hr']
          simp [rr]
    · refine ⟨m, m1, ?_, fun r' hr' => ?_, m4⟩
      · rw [c2 k u (fun w => a w.2.2.2), m2]
      · rw [d2 _ (fun q q1 q2 a' e => ?_), m3 r' hr']
        have : q = k := by omega
        rw [this] at a'
        exact a a'
  · refine ⟨m, m1, ?_, fun r' hr' => ?_, m4⟩
    · rw [c2 k u (fun w => ut w.2.2.1), m2]
    · rw [d2 _ (fun q q1 q2 _ => by omega), m3 r' hr']
