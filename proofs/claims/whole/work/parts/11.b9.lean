/-! a new task, a new resource -/
theorem ps_atE {pl : cr_S} {T : Nat} (hT : T < 10) (h : pl 0 0 = nI T) (x y : Int32) : md_Plan_addTask pl x y = (nI (T + 1), cr_up (cr_up (cr_up pl 0 0 (nI (T + 1))) 1 (T + 1) x) 2 (T + 1) y) := by
  have z0 : pl 0 0 + 1 = nI (T + 1) := by rw [h]; exact nI_1 T
  unfold md_Plan_addTask
  rw [z0]
  have z1 : (cr_up pl 0 0 (nI (T + 1))) 0 0 = nI (T + 1) := pu_up_same _ _ _ _
  rw [z1, ps_nI_c (k := T + 1) (by omega)]
  have z2 : (cr_up (cr_up pl 0 0 (nI (T + 1))) 1 (T + 1) x) 0 0 = nI (T + 1) := by rw [pu_up_cell _ _ _ (show (0 : Nat) ≠ 1 by decide), z1]
  rw [z2, ps_nI_c (k := T + 1) (by omega)]
  have z3 : (cr_up (cr_up (cr_up pl 0 0 (nI (T + 1))) 1 (T + 1) x) 2 (T + 1) y) 0 0 = nI (T + 1) := by rw [pu_up_cell _ _ _ (show (0 : Nat) ≠ 2 by decide), z2]
  rw [z3]
theorem ps_rtE {rf : cr_S} {T : Nat} (hT : T < 10) (h : rf 0 0 = nI T) (x y : Int32) : (((cr_up (cr_up (cr_up rf 0 0 ((rf 0 0) + (1 : Int32))) 1 ((cr_up rf 0 0 ((rf 0 0) + (1 : Int32))) 0 0).toNatClampNeg x) 2 ((cr_up (cr_up rf 0 0 ((rf 0 0) + (1 : Int32))) 1 ((cr_up rf 0 0 ((rf 0 0) + (1 : Int32))) 0 0).toNatClampNeg x) 0 0).toNatClampNeg y) 0 0), (cr_up (cr_up (cr_up rf 0 0 ((rf 0 0) + (1 : Int32))) 1 ((cr_up rf 0 0 ((rf 0 0) + (1 : Int32))) 0 0).toNatClampNeg x) 2 ((cr_up (cr_up rf 0 0 ((rf 0 0) + (1 : Int32))) 1 ((cr_up rf 0 0 ((rf 0 0) + (1 : Int32))) 0 0).toNatClampNeg x) 0 0).toNatClampNeg y)) = (nI (T + 1), cr_up (cr_up (cr_up rf 0 0 (nI (T + 1))) 1 (T + 1) x) 2 (T + 1) y) := ps_atE hT h x y
theorem ps_Pl_task {pl rf : cr_S} {ln : Nat → Int64} {T R : Nat} (h : ps_Pl pl rf ln T R) (hT : T < 10) {x y : Int32} (x1 : 1 ≤ x.toInt) (x2 : x.toInt ≤ 20) (y1 : 1 ≤ y.toInt) (y2 : y.toInt ≤ 3) : ps_Pl (cr_up (cr_up (cr_up pl 0 0 (nI (T + 1))) 1 (T + 1) x) 2 (T + 1) y) (cr_up (cr_up (cr_up rf 0 0 (nI (T + 1))) 1 (T + 1) x) 2 (T + 1) y) ln (T + 1) R := by
  obtain ⟨⟨a1, a2, a3, a4, a5, a6, a7, a8, a9⟩, pL, pR, pU, pC, pO⟩ := h
  have c1 : (cr_up (cr_up (cr_up pl 0 0 (nI (T + 1))) 1 (T + 1) x) 2 (T + 1) y) 1 = upd (pl 1) (T + 1) x := by simp [cr_up]
  have c2 : (cr_up (cr_up (cr_up pl 0 0 (nI (T + 1))) 1 (T + 1) x) 2 (T + 1) y) 2 = upd (pl 2) (T + 1) y := by simp [cr_up]
  have d1 : (cr_up (cr_up (cr_up rf 0 0 (nI (T + 1))) 1 (T + 1) x) 2 (T + 1) y) 1 = upd (rf 1) (T + 1) x := by simp [cr_up]
  have d2 : (cr_up (cr_up (cr_up rf 0 0 (nI (T + 1))) 1 (T + 1) x) 2 (T + 1) y) 2 = upd (rf 2) (T + 1) y := by simp [cr_up]
  have ck : ∀ k, 3 ≤ k → (cr_up (cr_up (cr_up pl 0 0 (nI (T + 1))) 1 (T + 1) x) 2 (T + 1) y) k = pl k := fun k hk => by
    rw [pu_up_cell _ _ _ (show k ≠ 2 by omega), pu_up_cell _ _ _ (show k ≠ 1 by omega), pu_up_cell _ _ _ (show k ≠ 0 by omega)]
  have c00 : (cr_up (cr_up (cr_up pl 0 0 (nI (T + 1))) 1 (T + 1) x) 2 (T + 1) y) 0 0 = nI (T + 1) := by simp [cr_up, upd]
  have c01 : (cr_up (cr_up (cr_up pl 0 0 (nI (T + 1))) 1 (T + 1) x) 2 (T + 1) y) 0 1 = pl 0 1 := by simp [cr_up, upd]
  have d00 : (cr_up (cr_up (cr_up rf 0 0 (nI (T + 1))) 1 (T + 1) x) 2 (T + 1) y) 0 0 = nI (T + 1) := by simp [cr_up, upd]
  have d02 : (cr_up (cr_up (cr_up rf 0 0 (nI (T + 1))) 1 (T + 1) x) 2 (T + 1) y) 0 2 = rf 0 2 := by simp [cr_up, upd]
  generalize cr_up (cr_up (cr_up pl 0 0 (nI (T + 1))) 1 (T + 1) x) 2 (T + 1) y = p at c1 c2 ck c00 c01 ⊢
  generalize cr_up (cr_up (cr_up rf 0 0 (nI (T + 1))) 1 (T + 1) x) 2 (T + 1) y = f at d1 d2 d00 d02 ⊢
  have us : ∀ t r, ps_us p t r ↔ ps_us pl t r := fun t r => by
    unfold ps_us
    rw [ck (6 + t) (by omega)]
  refine ⟨⟨by omega, a2, c00, d00, c01.trans a5, d02.trans a6, ?_, ?_, ?_⟩, fun t r ht hr => ?_, fun t t1 t2 => ?_, fun t r ht hr u => ?_, fun r hr => ?_, fun r hr => ?_⟩
  · rw [c1, d1, a7]
  · rw [c2, d2, a8]
  · intro j
    rw [c2]
    by_cases w : j = T + 1
    · rw [w, ps_us_s]
      omega
    · rw [ps_us_n _ _ w]
      exact a9 j
  · rw [ck (6 + t) (by omega)]
    exact pL t r ht hr
  · rw [c1, c2]
    by_cases w : t = T + 1
    · rw [w, ps_us_s, ps_us_s]
      exact ⟨x1, x2, y1, y2⟩
    · rw [ps_us_n _ _ w, ps_us_n _ _ w]
      exact pR t t1 (by omega)
  · have := pU t r ht hr ((us t r).mp u)
    omega
  · rw [ck 3 (by omega)]
    obtain ⟨m0, m1, m2⟩ := pC r hr
    refine ⟨m0, fun t t1 t2 u => ?_, ?_⟩
    · have w := (pU t r (by omega) hr ((us t r).mp u)).2.1
      rw [c1, ps_us_n _ _ (show t ≠ T + 1 by omega)]
      exact m1 t t1 (by omega) ((us t r).mp u)
    · rcases m2 with q | ⟨t, q1, q2, q3, q4⟩
      · exact Or.inl q
      · refine Or.inr ⟨t, q1, by omega, (us t r).mpr q3, ?_⟩
        rw [c1, ps_us_n _ _ (show t ≠ T + 1 by omega)]
        exact q4
  · rw [ck 4 (by omega)]
    rcases pO r hr with ⟨z, w⟩ | ⟨z, ⟨t, w1, w2⟩, w⟩
    · exact Or.inl ⟨z, fun t ht u => w t ht ((us t r).mp u)⟩
    · refine Or.inr ⟨z, ⟨t, w1, (us t r).mpr w2⟩, fun k hk u => ?_⟩
      have v := (pU k r hk hr ((us k r).mp u)).2.1
      rw [c2, ps_us_n _ _ (show k ≠ T + 1 by omega)]
      exact w k hk ((us k r).mp u)
/-- the reference's cells of the board are untouched -/
theorem ps_W_cells {N : Nat} {pl bd rf rf' : cr_S} {T R : Nat} (h : ps_W N pl bd rf T R) (e3 : rf' 3 = rf 3) (e4 : rf' 4 = rf 4) (e0 : rf' 0 1 = rf 0 1) (e7 : rf' 7 = rf 7) (e8 : rf' 8 = rf 8) : ps_W N pl bd rf' T R := by
  unfold ps_W at h ⊢
  rw [e3, e4, e0, e7, e8]
  exact h
theorem ps_W_plan {N : Nat} {pl pl' bd rf : cr_S} {T R T' R' : Nat} (h : ps_W N pl bd rf T R) (g : ps_Bd pl' bd T' R') : ps_W N pl' bd rf T' R' := by
  obtain ⟨w1, w2, w3, w4, w5, w6, w7, w8, w9⟩ := h
  exact ⟨w1, w2, w3, w4, w5, w6, g, w8, w9⟩
theorem ps_task (N : Nat) (mn : cr_S) (lt : Int64) (pl bd lk tr tb rf : cr_S) (lat : Int64) (ln : Nat → Int64) (y0 y1 : Int32) (hN : N < 512) (h : ps_Sim N mn lt pl bd lk tr tb rf lat ln) : (md_Main_task mn lt pl bd lk tr tb y0 y1).1 = (md_Ref_task rf lat ln y0 y1).1 ∧ ps_Sim (N + 1) mn lt (md_Main_task mn lt pl bd lk tr tb y0 y1).2 bd lk tr tb (md_Ref_task rf lat ln y0 y1).2 lat ln := by
  have hs := ps_skip _ _ _ _ _ _ _ _ _ _ _ h
  obtain ⟨T, R, hP, hW, hL, hm, hl, h0, hb, hh⟩ := h
  obtain ⟨a1, a2, a3, a4, -⟩ := hP.1
  have k1 : (1 : Int32).toInt = 1 := by decide
  have k3 : (3 : Int32).toInt = 3 := by decide
  have k10 : (10 : Int32).toInt = 10 := by decide
  have k20 : (20 : Int32).toInt = 20 := by decide
  have n1 : ¬ (1 : Int32) = 0 := by decide
  have Tt := ps_nI_t (k := T) (by omega)
  unfold md_Main_task md_Ref_task md_Main_isCore
  by_cases c1 : y0 < 1
  · rw [if_pos c1, if_pos c1]
    exact ⟨rfl, hs⟩
  · rw [if_neg c1, if_neg c1]
    by_cases c2 : 20 < y0
    · rw [if_pos c2, if_pos c2]
      exact ⟨rfl, hs⟩
    · rw [if_neg c2, if_neg c2]
      by_cases c3 : y1 < 1
      · rw [if_pos c3, if_pos c3, if_pos rfl]
        exact ⟨rfl, hs⟩
      · rw [if_neg c3, if_neg c3]
        by_cases c4 : 3 < y1
        · rw [if_pos c4, if_pos rfl, if_neg (show ¬ y1 ≤ 3 by rw [pu_le]; rw [pu_lt] at c4; omega)]
          exact ⟨rfl, hs⟩
        · rw [if_neg c4, if_neg n1, if_pos (show y1 ≤ 3 by rw [pu_le]; rw [pu_lt] at c4; omega), a3]
          rw [pu_lt] at c1 c2 c3 c4
          by_cases c5 : T = 10
          · have z : rf 0 0 = 10 := by rw [a4, c5]; rfl
            rw [if_neg (show ¬ nI T < 10 by rw [pu_lt]; omega), if_pos z]
            exact ⟨rfl, hs⟩
          · have z : ¬ rf 0 0 = 10 := by rw [a4, pu_eq]; omega
            rw [if_pos (show nI T < 10 by rw [pu_lt]; omega), if_neg z, ps_atE (show T < 10 by omega) a3, ps_rtE (show T < 10 by omega) a4]
            have p' := ps_Pl_task hP (show T < 10 by omega) (x := y0) (y := y1) (by omega) (by omega) (by omega) (by omega)
            refine ⟨rfl, T + 1, R, p', ?_, ?_, ?_, hl, h0, hb, ps_rh_F hh (by simp [cr_up])⟩
            · refine ps_W_cells (rf := rf) (ps_W_plan (ps_W_mono hW) ?_) (by simp [cr_up]) (by simp [cr_up]) (by simp [cr_up, upd]) (by simp [cr_up]) (by simp [cr_up])
              refine ps_Bd_plan hW.2.2.2.2.2.2.1 (by omega) (by omega) (Nat.le_refl _) (fun u hu => ?_) (fun u j u1 u2 hu hj us => ?_)
              · have uT : u ≤ T := by
                  rcases hW.2.2.2.2.2.2.1.1 u with q | q
                  · rw [q] at hu
                    exact absurd hu (by decide)
                  · exact q.2.1
                have ne : u ≠ T + 1 := by omega
                exact ⟨by simp [cr_up, upd, ne], by simp [cr_up, upd, ne]⟩
              · constructor
                · unfold ps_us at us ⊢
                  dsimp only
                  rw [pu_up_cell _ _ _ (show 6 + u ≠ 2 by omega), pu_up_cell _ _ _ (show 6 + u ≠ 1 by omega), pu_up_cell _ _ _ (show 6 + u ≠ 0 by omega)]
                  exact us
                · simp [cr_up]
            · exact ps_L_F (ps_L_mono hL) (by simp [cr_up]) (by simp [cr_up]) (by simp [cr_up]) (by simp [cr_up]) (by simp [cr_up, upd])
            · rw [hm]
              simp [cr_up]
theorem ps_Pl_res {pl rf : cr_S} {ln : Nat → Int64} {T R : Nat} (h : ps_Pl pl rf ln T R) (hR : R < 8) : ps_Pl (cr_up pl 0 1 (nI (R + 1))) (cr_up rf 0 2 (nI (R + 1))) ln T (R + 1) := by
  obtain ⟨⟨a1, a2, a3, a4, a5, a6, a7, a8, a9⟩, pL, pR, pU, pC, pO⟩ := h
  have ck : ∀ k, 1 ≤ k → (cr_up pl 0 1 (nI (R + 1))) k = pl k := fun k hk => pu_up_cell _ _ _ (show k ≠ 0 by omega)
  have c00 : (cr_up pl 0 1 (nI (R + 1))) 0 0 = pl 0 0 := by simp [cr_up, upd]
  have c01 : (cr_up pl 0 1 (nI (R + 1))) 0 1 = nI (R + 1) := by simp [cr_up, upd]
  have d00 : (cr_up rf 0 2 (nI (R + 1))) 0 0 = rf 0 0 := by simp [cr_up, upd]
  have d02 : (cr_up rf 0 2 (nI (R + 1))) 0 2 = nI (R + 1) := by simp [cr_up, upd]
  have d1 : (cr_up rf 0 2 (nI (R + 1))) 1 = rf 1 := by simp [cr_up]
  have d2 : (cr_up rf 0 2 (nI (R + 1))) 2 = rf 2 := by simp [cr_up]
  generalize cr_up pl 0 1 (nI (R + 1)) = p at ck c00 c01 ⊢
  generalize cr_up rf 0 2 (nI (R + 1)) = f at d1 d2 d00 d02 ⊢
  have us : ∀ t r, ps_us p t r ↔ ps_us pl t r := fun t r => by
    unfold ps_us
    rw [ck (6 + t) (by omega)]
  have e1 := ck 1 (by omega)
  have e2 := ck 2 (by omega)
  refine ⟨⟨a1, by omega, c00.trans a3, d00.trans a4, c01, d02, ?_, ?_, ?_⟩, fun t r ht hr => ?_, fun t t1 t2 => ?_, fun t r ht hr u => ?_, fun r hr => ?_, fun r hr => ?_⟩
  · rw [e1, d1, a7]
  · rw [e2, d2, a8]
  · intro j
    rw [e2]
    exact a9 j
  · rw [ck (6 + t) (by omega)]
    exact pL t r ht hr
  · rw [e1, e2]
    exact pR t t1 t2
  · have := pU t r ht hr ((us t r).mp u)
    omega
  · rw [ck 3 (by omega)]
    obtain ⟨m0, m1, m2⟩ := pC r hr
    refine ⟨m0, fun t t1 t2 u => ?_, ?_⟩
    · rw [e1]
      exact m1 t t1 t2 ((us t r).mp u)
    · rcases m2 with q | ⟨t, q1, q2, q3, q4⟩
      · exact Or.inl q
      · exact Or.inr ⟨t, q1, q2, (us t r).mpr q3, by rw [e1]; exact q4⟩
  · rw [ck 4 (by omega), e2]
    rcases pO r hr with ⟨z, w⟩ | ⟨z, ⟨t, w1, w2⟩, w⟩
    · exact Or.inl ⟨z, fun t ht u => w t ht ((us t r).mp u)⟩
    · exact Or.inr ⟨z, ⟨t, w1, (us t r).mpr w2⟩, fun k hk u => w k hk ((us k r).mp u)⟩
theorem ps_resource (N : Nat) (mn : cr_S) (lt : Int64) (pl bd lk tr tb rf : cr_S) (lat : Int64) (ln : Nat → Int64) (hN : N < 512) (h : ps_Sim N mn lt pl bd lk tr tb rf lat ln) : (md_Main_resource mn lt pl bd lk tr tb).1 = (md_Ref_resource rf lat ln).1 ∧ ps_Sim (N + 1) mn lt (md_Main_resource mn lt pl bd lk tr tb).2 bd lk tr tb (md_Ref_resource rf lat ln).2 lat ln := by
  have hs := ps_skip _ _ _ _ _ _ _ _ _ _ _ h
  obtain ⟨T, R, hP, hW, hL, hm, hl, h0, hb, hh⟩ := h
  obtain ⟨a1, a2, a3, a4, a5, a6, -⟩ := hP.1
  have k8 : (8 : Int32).toInt = 8 := by decide
  have Rt := ps_nI_t (k := R) (by omega)
  unfold md_Main_resource md_Ref_resource md_Plan_addResource
  rw [a5]
  by_cases c5 : R = 8
  · have z : rf 0 2 = 8 := by rw [a6, c5]; rfl
    rw [if_neg (show ¬ nI R < 8 by rw [pu_lt]; omega), if_pos z]
    exact ⟨rfl, hs⟩
  · have z : ¬ rf 0 2 = 8 := by rw [a6, pu_eq]; omega
    rw [if_pos (show nI R < 8 by rw [pu_lt]; omega), if_neg z, a6, show nI R + 1 = nI (R + 1) from nI_1 R, pu_up_same, pu_up_same]
    refine ⟨rfl, T, R + 1, ps_Pl_res hP (show R < 8 by omega), ?_, ?_, ?_, hl, h0, hb, ps_rh_F hh (by simp [cr_up])⟩
    · refine ps_W_cells (rf := rf) (ps_W_plan (ps_W_mono hW) ?_) (by simp [cr_up]) (by simp [cr_up]) (by simp [cr_up, upd]) (by simp [cr_up]) (by simp [cr_up])
      refine ps_Bd_plan hW.2.2.2.2.2.2.1 (Nat.le_refl _) a1 (by omega) (fun u hu => ⟨by simp [cr_up], by simp [cr_up]⟩) (fun u j u1 u2 hu hj us => ⟨?_, by simp [cr_up]⟩)
      unfold ps_us at us ⊢
      dsimp only
      rw [pu_up_cell _ _ _ (show 6 + u ≠ 0 by omega)]
      exact us
    · exact ps_L_F (ps_L_mono hL) (by simp [cr_up]) (by simp [cr_up]) (by simp [cr_up]) (by simp [cr_up]) (by simp [cr_up, upd])
    · rw [hm]
      simp [cr_up]
