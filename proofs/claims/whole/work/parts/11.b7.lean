/-! a step's deed -/
theorem ps_W_end {N : Nat} {pl bd rf : cr_S} {ln : Nat → Int64} {T R t : Nat} (h : ps_W N pl bd rf T R) (hP : ps_Pl pl rf ln T R) (t1 : 1 ≤ t) (t2 : t ≤ T) (lat : Int64) (x2 x3 w4 : Int32) : (lo_Ref_acts_241 lat ln (nI t) x2 x3 w4 9 (cr_up (cr_up rf 3 t 0) 5 t 0) 1).1 = (if w4 ≤ 0 then 1 else -14) ∧ ps_W (N + 1) pl (md_Board_putToSleep pl bd (nI t)) (lo_Ref_acts_241 lat ln (nI t) x2 x3 w4 9 (cr_up (cr_up rf 3 t 0) 5 t 0) 1).2 T R ∧ ps_RF rf (lo_Ref_acts_241 lat ln (nI t) x2 x3 w4 9 (cr_up (cr_up rf 3 t 0) 5 t 0) 1).2 ∧ (lo_Ref_acts_241 lat ln (nI t) x2 x3 w4 9 (cr_up (cr_up rf 3 t 0) 5 t 0) 1).2 5 = upd (rf 5) t 0 := by
  obtain ⟨w1, w2, w3, w4', w5, w6, w7, w8, w9⟩ := h
  obtain ⟨a1, a2, a3, a4, a5, a6, -⟩ := hP.1
  have e02 : (cr_up (cr_up rf 3 t 0) 5 t 0) 0 2 = nI R := by rw [← a6]; simp [cr_up]
  obtain ⟨s1, s2, s3⟩ := ps_swL lat ln (t := t) a2 x2 x3 w4 9 1 (cr_up (cr_up rf 3 t 0) 5 t 0) e02 (by omega) (by omega) (by omega)
  have s1' : (lo_Ref_acts_241 lat ln (nI t) x2 x3 w4 9 (cr_up (cr_up rf 3 t 0) 5 t 0) 1).1 = (if w4 ≤ 0 then 1 else -14) := s1
  have s2' : ∀ c, c ≠ 7 → (lo_Ref_acts_241 lat ln (nI t) x2 x3 w4 9 (cr_up (cr_up rf 3 t 0) 5 t 0) 1).2 c = (cr_up (cr_up rf 3 t 0) 5 t 0) c := s2
  have s3' : ∀ j, (lo_Ref_acts_241 lat ln (nI t) x2 x3 w4 9 (cr_up (cr_up rf 3 t 0) 5 t 0) 1).2 7 j = if 1 ≤ j ∧ j ≤ R ∧ (cr_up (cr_up rf 3 t 0) 5 t 0) 7 j = nI t then 0 else (cr_up (cr_up rf 3 t 0) 5 t 0) 7 j := s3
  clear s1 s2 s3
  generalize lo_Ref_acts_241 lat ln (nI t) x2 x3 w4 9 (cr_up (cr_up rf 3 t 0) 5 t 0) 1 = z at s1' s2' s3' ⊢
  have e7 : (cr_up (cr_up rf 3 t 0) 5 t 0) 7 = rf 7 := by simp [cr_up]
  rw [e7] at s3'
  obtain ⟨⟨p0, p1, p2, p4⟩, pc, pb⟩ := ps_sl pl t1 (by omega) w8 w9 (fun j hj => by
    have := ps_B4h w7.2.2.2.1 a1 t1 (by omega) hj
    omega)
  have nb : ps_Bd pl (md_Board_putToSleep pl bd (nI t)) T R := by
    refine ps_Bd_drop w7 a1 (by rw [p0]) p2 (fun j => ?_) (fun u => ?_)
    · rw [p4 j]
      by_cases c : bd 4 j = nI t
      · rw [if_pos c]
        exact Or.inr rfl
      · rw [if_neg c]
        exact Or.inl rfl
    · rw [p1]
      by_cases c : u = t
      · rw [c, ps_us_s]
        refine Or.inr ⟨Or.inl rfl, fun j => ?_⟩
        rw [p4 j]
        by_cases c : bd 4 j = nI t
        · rw [if_pos c]
          exact fun q => ps_nz t1 (by omega) q.symm
        · rw [if_neg c]
          exact c
      · rw [ps_us_n _ _ c]
        exact Or.inl rfl
  refine ⟨s1', ⟨?_, ?_, ?_, ?_, ?_, ?_, nb, ?_, pb⟩, ⟨fun k k0 k3 k4 k5 k7 k8 => ?_, fun j hj => ?_⟩, ?_⟩
  · rw [p1, w1, s2' 3 (by decide)]
    simp [cr_up]
  · rw [p2, w2, s2' 4 (by decide)]
    simp [cr_up]
  · rw [p0, w3, s2' 0 (by decide)]
    simp [cr_up]
  · funext j
    rw [p4 j, s3' j, ← w4']
    by_cases c : bd 4 j = nI t
    · have := ps_B4h w7.2.2.2.1 a1 t1 (by omega) c
      rw [if_pos c, if_pos (show 1 ≤ j ∧ j ≤ R ∧ bd 4 j = nI t from ⟨this.2.2.1, this.2.2.2.1, c⟩)]
    · rw [if_neg c, if_neg (show ¬ (1 ≤ j ∧ j ≤ R ∧ bd 4 j = nI t) from fun q => c q.2.2)]
  · rw [p0]
    exact w5
  · rw [p0]
    omega
  · rw [s2' 8 (by decide)]
    have e8 : (cr_up (cr_up rf 3 t 0) 5 t 0) 8 = rf 8 := by simp [cr_up]
    rw [e8]
    exact ps_Ch_mono pc
  · rw [s2' k k7]
    simp [cr_up, k3, k5]
  · rw [s2' 0 (by decide)]
    simp [cr_up]
  · rw [s2' 5 (by decide)]
    simp [cr_up]
/-- both sides of a deed: the answers, the boards, the events -/
def ps_D (N : Nat) (pl rf : cr_S) (T R : Nat) (lt : Int64) (A : Int32 × cr_S × Int64 × cr_S) (B : Int32 × cr_S) : Prop := A.1 = B.1 ∧ ps_W (N + 1) pl A.2.2.2 B.2 T R ∧ A.2.1 1 = B.2 5 ∧ ps_RF rf B.2 ∧ A.2.2.1 = lt
theorem ps_D_same {N : Nat} {pl bd rf mn : cr_S} {T R : Nat} (h : ps_W N pl bd rf T R) (hm : mn 1 = rf 5) (lt : Int64) (x : Int32) : ps_D N pl rf T R lt (x, mn, lt, bd) (x, rf) :=
  ⟨rfl, ps_W_mono h, hm, ps_RF_r rf, rfl⟩
theorem ps_W_wait {N : Nat} {pl bd rf : cr_S} {T R t : Nat} (h : ps_W N pl bd rf T R) (hT : T ≤ 10) (t1 : 1 ≤ t) (t2 : t ≤ T) (h0 : bd 3 t = 0) : ps_W (N + 1) pl (cr_up bd 1 t 2) (cr_up rf 3 t 2) T R ∧ ps_RF rf (cr_up rf 3 t 2) ∧ (cr_up rf 3 t 2) 5 = rf 5 := by
  obtain ⟨w1, w2, w3, w4, w5, w6, w7, w8, w9⟩ := h
  have no : ∀ j, bd 4 j ≠ nI t := by
    rcases w8.2.1 t t1 (by omega) with ⟨z, w⟩ | ⟨r0, b1, b2, b3, b4, b5⟩
    · exact w
    · rw [b3] at h0
      exact absurd h0 (ps_nz b1 (by omega))
  have c1 : (cr_up bd 1 t 2) 1 = upd (bd 1) t 2 := by simp [cr_up]
  have c4 : (cr_up bd 1 t 2) 4 = bd 4 := by simp [cr_up]
  have nb : ps_Bd pl (cr_up bd 1 t 2) T R := by
    refine ps_Bd_drop w7 hT (by simp [cr_up]) (by simp [cr_up]) (fun j => Or.inl (by rw [c4])) (fun u => ?_)
    rw [c1, c4]
    by_cases c : u = t
    · rw [c, ps_us_s]
      exact Or.inr ⟨Or.inr ⟨rfl, t1, t2⟩, no⟩
    · rw [ps_us_n _ _ c]
      exact Or.inl rfl
  have c8 : (cr_up rf 3 t 2) 8 = rf 8 := by simp [cr_up]
  refine ⟨⟨?_, ?_, ?_, ?_, ?_, ?_, nb, ?_, ?_⟩, ⟨fun k k0 k3 k4 k5 k7 k8 => ?_, fun j hj => ?_⟩, by simp [cr_up]⟩
  · rw [c1, w1]
    simp [cr_up]
  · rw [pu_up_cell bd t 2 (show (2 : Nat) ≠ 1 by decide), w2]
    simp [cr_up]
  · rw [pu_up_cell bd t 2 (show (0 : Nat) ≠ 1 by decide), w3]
    simp [cr_up]
  · rw [c4, w4]
    simp [cr_up]
  · rw [pu_up_cell bd t 2 (show (0 : Nat) ≠ 1 by decide)]
    exact w5
  · rw [pu_up_cell bd t 2 (show (0 : Nat) ≠ 1 by decide)]
    omega
  · rw [c8]
    exact ps_Ch_mono (ps_Ch_cells w8 (by simp [cr_up]) c4 (by simp [cr_up]))
  · exact ⟨cr_rg_up w9.1 (fun q => absurd q (by decide)), cr_rg_up w9.2 (fun q => absurd q (by decide))⟩
  · simp [cr_up, k3]
  · simp [cr_up]
/-- only the events change -/
theorem ps_W_ev {N : Nat} {pl bd rf : cr_S} {T R : Nat} (h : ps_W N pl bd rf T R) (t : Nat) (x : Int32) : ps_W (N + 1) pl bd (cr_up rf 5 t x) T R ∧ ps_RF rf (cr_up rf 5 t x) := by
  obtain ⟨w1, w2, w3, w4, w5, w6, w7, w8, w9⟩ := h
  have c8 : (cr_up rf 5 t x) 8 = rf 8 := by simp [cr_up]
  refine ⟨⟨?_, ?_, ?_, ?_, w5, by omega, w7, by rw [c8]; exact ps_Ch_mono w8, w9⟩, ⟨fun k k0 k3 k4 k5 k7 k8 => ?_, fun j hj => ?_⟩⟩
  · rw [w1]
    simp [cr_up]
  · rw [w2]
    simp [cr_up]
  · rw [w3]
    simp [cr_up]
  · rw [w4]
    simp [cr_up]
  · simp [cr_up, k5]
  · simp [cr_up]
theorem ps_Pl_F {pl rf rf' : cr_S} {ln : Nat → Int64} {T R : Nat} (h : ps_Pl pl rf ln T R) (e0 : rf' 0 0 = rf 0 0) (e2 : rf' 0 2 = rf 0 2) (c1 : rf' 1 = rf 1) (c2 : rf' 2 = rf 2) : ps_Pl pl rf' ln T R := by
  obtain ⟨⟨a1, a2, a3, a4, a5, a6, a7, a8, a9⟩, hrest⟩ := h
  exact ⟨⟨a1, a2, a3, e0.trans a4, a5, e2.trans a6, a7.trans c1.symm, a8.trans c2.symm, a9⟩, hrest⟩
theorem ps_Pl_RF {pl rf rf' : cr_S} {ln : Nat → Int64} {T R : Nat} (h : ps_Pl pl rf ln T R) (f : ps_RF rf rf') : ps_Pl pl rf' ln T R :=
  ps_Pl_F h (f.2 0 (by decide)) (f.2 2 (by decide)) (f.1 1 (by decide) (by decide) (by decide) (by decide) (by decide) (by decide)) (f.1 2 (by decide) (by decide) (by decide) (by decide) (by decide) (by decide))
theorem ps_L0_RF {lk rf rf' : cr_S} (h : ps_L0 lk rf) (f : ps_RF rf rf') : ps_L0 lk rf' := by
  obtain ⟨h1, h2, hrest⟩ := h
  refine ⟨?_, ?_, hrest⟩
  · rw [f.1 9 (by decide) (by decide) (by decide) (by decide) (by decide) (by decide)]
    exact h1
  · rw [f.1 11 (by decide) (by decide) (by decide) (by decide) (by decide) (by decide)]
    exact h2
theorem ps_us0 {pl : cr_S} {ln : Nat → Int64} (h : ps_PL pl ln) {t r : Nat} (ht : t ≤ 10) (hr : r ≤ 8) : (ps_us pl t r → md_Plan_isUsedBy pl (nI t) (nI r) = 1 ∧ ¬ lg_cmp (ln ((9 : Int32) * nI t + nI r).toNatClampNeg) 0 = 0) ∧ (¬ ps_us pl t r → md_Plan_isUsedBy pl (nI t) (nI r) = 0 ∧ lg_cmp (ln ((9 : Int32) * nI t + nI r).toNatClampNeg) 0 = 0) := by
  have k0 : (0 : Int32).toInt = 0 := by decide
  have l := h t r ht hr
  have i := ps_i64 (pl (6 + t) r)
  have j0 : (0 : Int64).toInt = 0 := by decide
  rw [ps_ix9 ht hr, lg_cmp_eq, l.1]
  unfold md_Plan_isUsedBy ps_us
  rw [ps_nI_c (k := t) (by omega), ps_nI_c (k := r) (by omega)]
  refine ⟨fun u => ⟨if_neg (fun q => ?_), fun q => ?_⟩, fun u => ⟨if_pos ?_, ?_⟩⟩
  · have := cr_le q
    omega
  · rw [q] at i
    omega
  · rw [pu_le]
    omega
  · rw [← Int64.toInt_inj, i]
    omega
theorem ps_deed {N : Nat} {mn pl bd lk rf : cr_S} {ln : Nat → Int64} {T R t : Nat} (hW : ps_W N pl bd rf T R) (hP : ps_Pl pl rf ln T R) (hL : ps_L0 lk rf) (hm : mn 1 = rf 5) (hN : N < 512) (t1 : 1 ≤ t) (t2 : t ≤ T) (lt lat : Int64) (tr tb : cr_S) (x2 x3 : Int32) (h3 : x2 = 1 ∨ x2 = 2 → ∃ r, 1 ≤ r ∧ r ≤ R ∧ x3 = nI r) : ps_D N pl rf T R lt (md_Main_perform mn lt pl bd lk tr tb (nI t) x2 x3) (md_Ref_acts rf lat ln (nI t) x2 x3) := by
  obtain ⟨w1, w2, w3, w4, w5, w6, w7, w8, w9⟩ := id hW
  obtain ⟨⟨a1, a2, a3, a4, a5, a6, a7, a8, a9⟩, pL, pR, pU, pC, pO⟩ := id hP
  have n1 : ¬ (1 : Int32) = 0 := by decide
  have ci := ps_nI_c (k := t) (by omega)
  have st := w7.1 t
  -- becoming ready
  have rdy : bd 1 t ≠ 1 → ps_D N pl rf T R lt (if md_Main_runs mn lt pl (md_Board_makeReady pl bd (nI t)) lk tr tb (nI t) = 0 then ((0 : Int32), mn, lt, md_Board_makeReady pl bd (nI t)) else ((1 : Int32), mn, lt, md_Board_makeReady pl bd (nI t))) (if md_Ref_runs (md_Ref_ready rf lat ln (nI t)) lat ln (nI t) = 0 then ((0 : Int32), md_Ref_ready rf lat ln (nI t)) else ((1 : Int32), md_Ref_ready rf lat ln (nI t))) := fun hx => by
    obtain ⟨r1, r2, r3⟩ := ps_W_ready hW a1 hN t1 t2 hx lat ln
    have ru := ps_runs (ps_Pl_RF hP r2) (ps_L0_RF hL r2) r1.1 r1.2.1 r1.2.2.2.1 r1.2.2.2.2.2.2.1.2.2.1 t1 t2 mn lt tr tb lat
    have e5 : mn 1 = md_Ref_ready rf lat ln (nI t) 5 := hm.trans r3.symm
    rcases ru with ⟨q1, q2⟩ | ⟨q1, q2, _⟩
    · rw [if_pos q1, if_pos q2]
      exact ⟨rfl, r1, e5, r2, rfl⟩
    · rw [q1, q2, if_neg n1, if_neg n1]
      exact ⟨rfl, r1, e5, r2, rfl⟩
  unfold md_Main_perform md_Ref_acts
  by_cases c0 : x2 = 0
  · rw [if_pos c0, if_pos c0]
    unfold md_Main_startTask
    rw [ci, ← w1]
    by_cases s : bd 1 t = 0
    · rw [if_pos s, if_pos s]
      have := rdy (by rw [s]; decide)
      by_cases q : md_Main_runs mn lt pl (md_Board_makeReady pl bd (nI t)) lk tr tb (nI t) = 0
      · rw [if_pos q] at this ⊢
        exact this
      · rw [if_neg q] at this ⊢
        exact this
    · rw [if_neg s, if_neg s]
      exact ps_D_same hW hm lt (-3)
  · rw [if_neg c0, if_neg c0]
    by_cases c5 : x2 = 5
    · rw [if_pos c5, if_pos c5]
      unfold md_Main_sendEvent
      rw [ci, ← w1]
      by_cases s : bd 1 t = 0
      · rw [if_pos s, if_pos s]
        exact ps_D_same hW hm lt (-3)
      · rw [if_neg s, if_neg s]
        by_cases s2 : bd 1 t = 2
        · rw [if_pos s2, if_pos s2]
          have := rdy (by rw [s2]; decide)
          by_cases q : md_Main_runs mn lt pl (md_Board_makeReady pl bd (nI t)) lk tr tb (nI t) = 0
          · rw [if_pos q] at this ⊢
            exact this
          · rw [if_neg q] at this ⊢
            exact this
        · rw [if_neg s2, if_neg s2]
          obtain ⟨v1, v2⟩ := ps_W_ev hW t 1
          have ru := ps_runs (ps_Pl_RF hP v2) (ps_L0_RF hL v2) v1.1 v1.2.1 v1.2.2.2.1 w7.2.2.1 t1 t2 (cr_up mn 1 t 1) lt tr tb lat
          have e5 : (cr_up mn 1 t 1) 1 = (cr_up rf 5 t 1) 5 := by
            rw [pu_up_fn, pu_up_fn, hm]
          rcases ru with ⟨q1, q2⟩ | ⟨q1, q2, _⟩
          · rw [if_pos q1, if_pos q2]
            exact ⟨rfl, v1, e5, v2, rfl⟩
          · rw [q1, q2, if_neg n1, if_neg n1]
            exact ⟨rfl, v1, e5, v2, rfl⟩
    · rw [if_neg c5, if_neg c5, ci, ← w1]
      by_cases s1 : bd 1 t = 1
      · rw [if_pos s1, if_neg (show ¬ bd 1 t = 0 by rw [s1]; decide), if_neg (show ¬ bd 1 t = 2 by rw [s1]; decide)]
        have ru := ps_runs hP hL w1 w2 w4 w7.2.2.1 t1 t2 mn lt tr tb lat
        rcases ru with ⟨q1, q2⟩ | ⟨q1, q2, hf⟩
        · rw [if_pos q1, if_pos q2]
          exact ps_D_same hW hm lt 0
        · rw [q1, q2, if_neg n1, if_neg n1]
          have la := ps_lst lat ln a1 a2 a6 w4 w7.2.2.2.1 w8 t1 (by omega)
          by_cases k1 : x2 = 1
          · rw [if_pos k1, if_pos k1]
            obtain ⟨r, r1, r2, rfl⟩ := h3 (Or.inl k1)
            have us := ps_us0 pL (t := t) (r := r) (by omega) (by omega)
            have cr := ps_nI_c (k := r) (by omega)
            unfold md_Main_takeResource
            by_cases u : ps_us pl t r
            · rw [(us.1 u).1, if_neg n1, if_neg (us.1 u).2, cr, ← w4]
              by_cases hh : bd 4 r = nI t
              · rw [if_pos hh, if_pos hh]
                exact ps_D_same hW hm lt (-12)
              · rw [if_neg hh, if_neg hh, la]
                have h0 : bd 4 r = 0 := (ps_freeR w7 a1 a2 pC pO hf t1 (by omega) u).resolve_right hh
                by_cases z : bd 3 t = 0
                · rw [if_pos z]
                  obtain ⟨k1, k2, k3⟩ := ps_W_take hW hP hN hf t1 t2 r1 r2 u h0 1 (Or.inl ⟨z, rfl⟩)
                  exact ⟨rfl, k1, hm.trans k3.symm, k2, rfl⟩
                · rw [if_neg z, pu_up_cell rf r (nI t) (show (8 : Nat) ≠ 7 by decide)]
                  obtain ⟨k1, k2, k3⟩ := ps_W_take hW hP hN hf t1 t2 r1 r2 u h0 _ (Or.inr ⟨z, rfl⟩)
                  exact ⟨rfl, k1, hm.trans k3.symm, k2, rfl⟩
            · rw [(us.2 u).1, if_pos rfl, if_pos (us.2 u).2]
              exact ps_D_same hW hm lt (-11)
          · rw [if_neg k1, if_neg k1]
            by_cases k2 : x2 = 2
            · rw [if_pos k2, if_pos k2]
              obtain ⟨r, r1, r2, rfl⟩ := h3 (Or.inr k2)
              have cr := ps_nI_c (k := r) (by omega)
              unfold md_Main_giveBackResource
              rw [ci, la, cr]
              by_cases z : bd 3 t = nI r
              · rw [if_pos z, if_neg (show ¬ bd 3 t = 0 by rw [z]; exact ps_nz r1 (by omega)), if_pos z]
                obtain ⟨k1, k2, k3⟩ := ps_W_give hW hP t1 t2 r1 (by omega) z
                exact ⟨rfl, k1, hm.trans k3.symm, k2, rfl⟩
              · rw [if_neg z]
                by_cases y : bd 3 t = 0
                · rw [if_pos y]
                  exact ps_D_same hW hm lt (-13)
                · rw [if_neg y, if_neg z]
                  exact ps_D_same hW hm lt (-13)
            · rw [if_neg k2, if_neg k2]
              have lr := w9.1 t
              have k0 : (0 : Int32).toInt = 0 := by decide
              have ha : (bd 3 t = 0 ∧ md_Board_holdsAny pl bd (nI t) = 0 ∧ bd 3 t ≤ 0) ∨ (bd 3 t ≠ 0 ∧ md_Board_holdsAny pl bd (nI t) = 1 ∧ ¬ bd 3 t ≤ 0) := by
                unfold md_Board_holdsAny
                rw [ci]
                by_cases z : bd 3 t = 0
                · exact Or.inl ⟨z, if_pos z, by rw [z]; decide⟩
                · refine Or.inr ⟨z, if_neg z, fun q => z ?_⟩
                  have := cr_le q
                  rw [pu_eq]
                  omega
              by_cases k3 : x2 = 3
              · rw [if_pos k3, if_pos k3]
                unfold md_Main_endTask
                rw [ci, la]
                obtain ⟨s1, s2, s3, s4⟩ := ps_W_end hW hP t1 t2 lat x2 x3 (bd 3 t)
                have e5 : (cr_up mn 1 t 0) 1 = upd (rf 5) t 0 := by rw [pu_up_fn, hm]
                rcases ha with ⟨z1, z2, z3⟩ | ⟨z1, z2, z3⟩
                · rw [if_pos z2]
                  rw [if_pos z3] at s1
                  exact ⟨s1.symm, s2, e5.trans s4.symm, s3, rfl⟩
                · rw [z2, if_neg n1]
                  rw [if_neg z3] at s1
                  exact ⟨s1.symm, s2, e5.trans s4.symm, s3, rfl⟩
              · rw [if_neg k3, if_neg k3]
                unfold md_Main_waitForEvent
                rw [ci, la, ← hm]
                rcases ha with ⟨z1, z2, z3⟩ | ⟨z1, z2, z3⟩
                · rw [if_pos z2, if_pos z3]
                  by_cases y : mn 1 t = 0
                  · rw [if_pos y, if_pos y]
                    obtain ⟨k1, k2, k3⟩ := ps_W_wait hW a1 t1 t2 z1
                    exact ⟨rfl, k1, hm.trans k3.symm, k2, rfl⟩
                  · rw [if_neg y, if_neg y]
                    obtain ⟨k1, k2⟩ := ps_W_ev hW t 0
                    have e5 : (cr_up mn 1 t 0) 1 = (cr_up rf 5 t 0) 5 := by rw [pu_up_fn, pu_up_fn, hm]
                    exact ⟨rfl, k1, e5, k2, rfl⟩
                · rw [z2, if_neg n1, if_neg z3]
                  exact ps_D_same hW hm lt (-15)
      · rw [if_neg s1]
        by_cases s0 : bd 1 t = 0
        · rw [if_pos s0]
          exact ps_D_same hW hm lt (-3)
        · have s2 : bd 1 t = 2 := by
            rcases st with q | ⟨_, _, q | q⟩
            · exact absurd q s0
            · exact absurd q s1
            · exact q
          rw [if_neg s0, if_pos s2]
          exact ps_D_same hW hm lt (-3)
