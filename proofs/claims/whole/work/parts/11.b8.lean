/-! a step as a whole; the relation of both sides -/
def ps_mT (mn : cr_S) (lt : Int64) (pl bd lk tr tb : cr_S) (x1 x2 x3 : Int32) (x4 : Int64) : Int32 × cr_S × Int64 × cr_S :=
  (if x2 < 0 then ((-2 : Int32), mn, lt, bd) else (if (5 : Int32) < x2 then ((-2 : Int32), mn, lt, bd) else (if (lg_cmp x4 lt) < 0 then ((-2 : Int32), mn, lt, bd) else (if (lg_cmp x4 (1000000000 : Int64)) ≤ 0 then (if 0 ≤ ((md_Main_perform mn lt pl bd lk tr tb x1 x2 x3).1) then (((md_Main_perform mn lt pl bd lk tr tb x1 x2 x3).1), ((md_Main_perform mn lt pl bd lk tr tb x1 x2 x3).2.1), x4, ((md_Main_perform mn lt pl bd lk tr tb x1 x2 x3).2.2.2)) else (if ((md_Main_perform mn lt pl bd lk tr tb x1 x2 x3).1) = (-14 : Int32) then (((md_Main_perform mn lt pl bd lk tr tb x1 x2 x3).1), ((md_Main_perform mn lt pl bd lk tr tb x1 x2 x3).2.1), x4, ((md_Main_perform mn lt pl bd lk tr tb x1 x2 x3).2.2.2)) else (((md_Main_perform mn lt pl bd lk tr tb x1 x2 x3).1), ((md_Main_perform mn lt pl bd lk tr tb x1 x2 x3).2.1), ((md_Main_perform mn lt pl bd lk tr tb x1 x2 x3).2.2.1), ((md_Main_perform mn lt pl bd lk tr tb x1 x2 x3).2.2.2)))) else ((-2 : Int32), mn, lt, bd)))))
def ps_rT (rf : cr_S) (lat : Int64) (ln : Nat → Int64) (x1 x2 x3 : Int32) (x4 : Int64) : Int32 × cr_S × Int64 :=
  (if x2 < 0 then ((-2 : Int32), rf, lat) else (if (5 : Int32) < x2 then ((-2 : Int32), rf, lat) else (if (lg_cmp x4 lat) < 0 then ((-2 : Int32), rf, lat) else (if (lg_cmp x4 (0 : Int64)) < 0 then ((-2 : Int32), rf, lat) else (if (lg_cmp x4 (1000000000 : Int64)) ≤ 0 then (if 0 ≤ ((md_Ref_acts rf lat ln x1 x2 x3).1) then (((md_Ref_acts rf lat ln x1 x2 x3).1), ((md_Ref_acts rf lat ln x1 x2 x3).2), x4) else (if ((md_Ref_acts rf lat ln x1 x2 x3).1) = (-14 : Int32) then (((md_Ref_acts rf lat ln x1 x2 x3).1), ((md_Ref_acts rf lat ln x1 x2 x3).2), x4) else (((md_Ref_acts rf lat ln x1 x2 x3).1), ((md_Ref_acts rf lat ln x1 x2 x3).2), lat))) else ((-2 : Int32), rf, lat))))))
theorem ps_mE (mn : cr_S) (lt : Int64) (pl bd lk tr tb : cr_S) (x1 x2 x3 : Int32) (x4 : Int64) : md_Main_step mn lt pl bd lk tr tb x1 x2 x3 x4 = (if x2 = (1 : Int32) then (if md_Plan_hasTask pl x1 = 0 then ((-1 : Int32), mn, lt, bd) else (if md_Plan_hasResource pl x3 = 0 then ((-1 : Int32), mn, lt, bd) else ps_mT mn lt pl bd lk tr tb x1 x2 x3 x4)) else (if x2 = (2 : Int32) then (if md_Plan_hasTask pl x1 = 0 then ((-1 : Int32), mn, lt, bd) else (if md_Plan_hasResource pl x3 = 0 then ((-1 : Int32), mn, lt, bd) else ps_mT mn lt pl bd lk tr tb x1 x2 x3 x4)) else (if md_Plan_hasTask pl x1 = 0 then ((-1 : Int32), mn, lt, bd) else ps_mT mn lt pl bd lk tr tb x1 x2 x3 x4))) := by
  unfold md_Main_step ps_mT
  rfl
theorem ps_rE (rf : cr_S) (lat : Int64) (ln : Nat → Int64) (x1 x2 x3 : Int32) (x4 : Int64) : md_Ref_step rf lat ln x1 x2 x3 x4 = (if md_Ref_isTask rf lat ln x1 = 0 then ((-1 : Int32), rf, lat) else (if x2 = (1 : Int32) then (if md_Ref_isResource rf lat ln x3 = 0 then ((-1 : Int32), rf, lat) else ps_rT rf lat ln x1 x2 x3 x4) else (if x2 = (2 : Int32) then (if md_Ref_isResource rf lat ln x3 = 0 then ((-1 : Int32), rf, lat) else ps_rT rf lat ln x1 x2 x3 x4) else ps_rT rf lat ln x1 x2 x3 x4))) := by
  unfold md_Ref_step ps_rT
  rfl
def ps_TZ (tb : cr_S) : Prop := cr_RBoard tb ∧ (∀ j, 11 ≤ j → tb 1 j = 0) ∧ (∀ j, 9 ≤ j → tb 4 j = 0) ∧ ∀ j, 9 ≤ j → tb 5 j = 0
def ps_Sim (N : Nat) (mn : cr_S) (lt : Int64) (pl bd lk tr tb rf : cr_S) (lat : Int64) (ln : Nat → Int64) : Prop := ∃ T R : Nat, ps_Pl pl rf ln T R ∧ ps_W N pl bd rf T R ∧ ps_L N lk rf ∧ mn 1 = rf 5 ∧ lt = lat ∧ 0 ≤ lat.toInt ∧ ps_TZ tb ∧ cr_rh rf 16 (-1) 8
theorem ps_skip (N : Nat) (mn : cr_S) (lt : Int64) (pl bd lk tr tb rf : cr_S) (lat : Int64) (ln : Nat → Int64) (h : ps_Sim N mn lt pl bd lk tr tb rf lat ln) : ps_Sim (N + 1) mn lt pl bd lk tr tb rf lat ln := by
  obtain ⟨T, R, h1, h2, h3, h4⟩ := h
  exact ⟨T, R, h1, ps_W_mono h2, ps_L_mono h3, h4⟩
theorem ps_L_F {N : Nat} {lk rf rf' : cr_S} (h : ps_L N lk rf) (e9 : rf' 9 = rf 9) (e10 : rf' 10 = rf 10) (e11 : rf' 11 = rf 11) (e12 : rf' 12 = rf 12) (e0 : rf' 0 3 = rf 0 3) : ps_L N lk rf' := by
  unfold ps_L ps_L0 ps_rise ps_SO ps_LC ps_LS ps_LH at h ⊢
  rw [e9, e10, e11, e12, e0]
  exact h
theorem ps_L_RF {N : Nat} {lk rf rf' : cr_S} (h : ps_L N lk rf) (f : ps_RF rf rf') : ps_L N lk rf' :=
  ps_L_F h (f.1 9 (by decide) (by decide) (by decide) (by decide) (by decide) (by decide)) (f.1 10 (by decide) (by decide) (by decide) (by decide) (by decide) (by decide)) (f.1 11 (by decide) (by decide) (by decide) (by decide) (by decide) (by decide)) (f.1 12 (by decide) (by decide) (by decide) (by decide) (by decide) (by decide)) (f.2 3 (by decide))
theorem ps_rh_F {rf rf' : cr_S} (h : cr_rh rf 16 (-1) 8) (e : rf' 16 = rf 16) : cr_rh rf' 16 (-1) 8 := by
  unfold cr_rh
  rw [e]
  exact h
/-- the answers agree, and the relation holds behind -/
def ps_Res (N : Nat) (pl lk tr tb : cr_S) (ln : Nat → Int64) (A : Int32 × cr_S × Int64 × cr_S) (B : Int32 × cr_S × Int64) : Prop := A.1 = B.1 ∧ ps_Sim (N + 1) A.2.1 A.2.2.1 pl A.2.2.2 lk tr tb B.2.1 B.2.2 ln
theorem ps_tail {N : Nat} {mn pl bd lk tr tb rf : cr_S} {lat : Int64} {ln : Nat → Int64} {T R t : Nat} (hP : ps_Pl pl rf ln T R) (hW : ps_W N pl bd rf T R) (hL : ps_L N lk rf) (hm : mn 1 = rf 5) (hl : 0 ≤ lat.toInt) (hb : ps_TZ tb) (hh : cr_rh rf 16 (-1) 8) (hN : N < 512) (t1 : 1 ≤ t) (t2 : t ≤ T) (x2 x3 : Int32) (x4 : Int64) (h3 : x2 = 1 ∨ x2 = 2 → ∃ r, 1 ≤ r ∧ r ≤ R ∧ x3 = nI r) : ps_Res N pl lk tr tb ln (ps_mT mn lat pl bd lk tr tb (nI t) x2 x3 x4) (ps_rT rf lat ln (nI t) x2 x3 x4) := by
  have j0 : (0 : Int64).toInt = 0 := by decide
  have same : ps_Sim (N + 1) mn lat pl bd lk tr tb rf lat ln := ps_skip _ _ _ _ _ _ _ _ _ _ _ ⟨T, R, hP, hW, hL, hm, rfl, hl, hb, hh⟩
  have d := ps_deed hW hP hL.1 hm hN t1 t2 lat lat tr tb x2 x3 h3
  unfold ps_mT ps_rT
  generalize md_Main_perform mn lat pl bd lk tr tb (nI t) x2 x3 = A at d ⊢
  generalize md_Ref_acts rf lat ln (nI t) x2 x3 = B at d ⊢
  obtain ⟨d1, d2, d3, d4, d5⟩ := d
  have fin : ∀ z : Int64, 0 ≤ z.toInt → ps_Sim (N + 1) A.2.1 z pl A.2.2.2 lk tr tb B.2 z ln := fun z hz =>
    ⟨T, R, ps_Pl_RF hP d4, d2, ps_L_RF (ps_L_mono hL) d4, d3, rfl, hz, hb, ps_rh_F hh (d4.1 16 (by decide) (by decide) (by decide) (by decide) (by decide) (by decide))⟩
  by_cases c1 : x2 < 0
  · rw [if_pos c1, if_pos c1]
    exact ⟨rfl, same⟩
  · rw [if_neg c1, if_neg c1]
    by_cases c2 : 5 < x2
    · rw [if_pos c2, if_pos c2]
      exact ⟨rfl, same⟩
    · rw [if_neg c2, if_neg c2]
      by_cases c3 : lg_cmp x4 lat < 0
      · rw [if_pos c3, if_pos c3]
        exact ⟨rfl, same⟩
      · rw [if_neg c3, if_neg c3]
        have x0 : 0 ≤ x4.toInt := by
          rw [lg_cmp_lt, Int64.lt_iff_toInt_lt] at c3
          omega
        have c3' : ¬ lg_cmp x4 0 < 0 := by
          rw [lg_cmp_lt, Int64.lt_iff_toInt_lt]
          omega
        rw [if_neg c3']
        by_cases c4 : lg_cmp x4 1000000000 ≤ 0
        · rw [if_pos c4, if_pos c4, ← d1]
          by_cases c5 : 0 ≤ A.1
          · rw [if_pos c5, if_pos c5]
            exact ⟨rfl, fin x4 x0⟩
          · rw [if_neg c5, if_neg c5]
            by_cases c6 : A.1 = -14
            · rw [if_pos c6, if_pos c6]
              exact ⟨rfl, fin x4 x0⟩
            · rw [if_neg c6, if_neg c6, d5]
              exact ⟨rfl, fin lat hl⟩
        · rw [if_neg c4, if_neg c4]
          exact ⟨rfl, same⟩
theorem ps_step (N : Nat) (mn : cr_S) (lt : Int64) (pl bd lk tr tb rf : cr_S) (lat : Int64) (ln : Nat → Int64) (y0 y1 y2 : Int32) (y3 : Int64) (hN : N < 512) (h : ps_Sim N mn lt pl bd lk tr tb rf lat ln) : ps_Res N pl lk tr tb ln (md_Main_step mn lt pl bd lk tr tb y0 y1 y2 y3) (md_Ref_step rf lat ln y0 y1 y2 y3) := by
  have hs := ps_skip _ _ _ _ _ _ _ _ _ _ _ h
  obtain ⟨T, R, hP, hW, hL, hm, hl, h0, hb, hh⟩ := h
  subst hl
  have n1 : ¬ (1 : Int32) = 0 := by decide
  have same : ps_Res N pl lk tr tb ln ((-1 : Int32), mn, lt, bd) ((-1 : Int32), rf, lt) := ⟨rfl, hs⟩
  rw [ps_mE, ps_rE]
  rcases ps_hasT hP.1 lt ln y0 with ⟨q1, q2⟩ | ⟨q1, q2, t, t1, t2, rfl⟩
  · rw [q1, q2, if_pos rfl, if_pos rfl, if_pos rfl, ite_self, ite_self]
    exact same
  · rw [q1, q2, if_neg n1, if_neg n1, if_neg n1]
    have tl := fun h3 => ps_tail (tr := tr) (tb := tb) hP hW hL hm h0 hb hh hN t1 t2 y1 y2 y3 h3
    rcases ps_hasR hP.1 lt ln y2 with ⟨p1, p2⟩ | ⟨p1, p2, r, r1, r2, e⟩
    · rw [p1, p2, if_pos rfl, if_pos rfl]
      by_cases c1 : y1 = 1
      · rw [if_pos c1, if_pos c1]
        exact same
      · rw [if_neg c1, if_neg c1]
        by_cases c2 : y1 = 2
        · rw [if_pos c2, if_pos c2]
          exact same
        · rw [if_neg c2, if_neg c2]
          exact tl (fun q => q.elim (fun q => absurd q c1) (fun q => absurd q c2))
    · rw [p1, p2, if_neg n1, if_neg n1, ite_self, ite_self, ite_self, ite_self]
      exact tl (fun _ => ⟨r, r1, r2, e⟩)
