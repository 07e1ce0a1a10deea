/-! the trial: a tick of the one that runs, on both sides -/
theorem ps_TQ_tick {pl rf tr tb : cr_S} {ln : Nat → Int64} {T R t : Nat} (hP : ps_Pl pl rf ln T R) (hQ : ps_TQ pl rf tr tb T R) (t1 : 1 ≤ t) (t2 : t ≤ T) (hf : ps_fs pl tb R (pl 2 t) (T + 1) t) (lat x1 : Int64) (w3 w4 : Int32) :
    ∃ rf' tr' tb', ps_rt lat ln x1 w3 w4 (pl 2 t) (nI t) rf = rf' ∧ md_Trial_haveTick pl tr tb (nI t) = (tr', tb') ∧ ps_TQ pl rf' tr' tb' T R ∧ ps_TF rf rf' ∧ tb' 0 = tb 0 ∧ (∀ u, u ≠ t → rf' 13 u = rf 13 u) ∧ rf' 13 t ≠ 0 ∧ rf 13 t ≠ 0 ∧ (∀ u, u ≠ t → tr' 1 u = tr 1 u) ∧ (tr' 1 t).toInt = (tr 1 t).toInt + 1 := by
  obtain ⟨Q1, Q2, Q3, Q4, Q5, Q6, Q7, Q8, Q9⟩ := id hQ
  have a1 := hP.1.1
  have rd : tb 1 t = 1 := (ps_best_r hf (by omega)).2.2.2
  have r13 : rf 13 t = 1 := (Q4 t t1 t2).1.mpr rd
  obtain ⟨d, d1, d2, d3, d4⟩ := Q3 t t1 t2
  have to := ps_to33 hP (t := t) (by omega)
  have dto : (d : Int) < (ps_to pl (nI t)).toInt := by
    rcases d4 with ⟨q, _⟩ | ⟨_, q⟩ | ⟨q, _⟩
    · rw [r13] at q
      exact absurd q (by decide)
    · exact q
    · rw [r13] at q
      exact absurd q (by decide)
  rcases ps_tick hP lat (t := t) (d := d) (by omega) (by omega) with ⟨r, hr, e1, e2, e3⟩ | ⟨_, _, e⟩
  rotate_left
  · omega
  have r8 : r ≤ 8 := by
    have := hP.1.2.1
    rcases hr with q | ⟨_, q, _⟩ <;> omega
  have dt := ps_nI_t (k := d) (by omega)
  have dt1 := ps_nI_t (k := d + 1) (by omega)
  obtain ⟨tr1, tb1, rf2, g1, g2, g3, g4, g5, g6, g7, g8⟩ := ps_hv1 hP hQ t1 t2 hf lat x1 w3 w4 d2 hr e2
  obtain ⟨tb2, k1, k2, k3⟩ := ps_hv2 (d := d) a1 t1 t2 g7 g8 (show tr1 1 t = nI d by rw [g3 1 (by omega)]; exact d2) (by omega)
  have r3 : ps_r3 lat ln x1 w3 w4 (pl 2 t) (nI t) rf = cr_up rf2 15 t (nI (d + 1)) := by
    unfold ps_r3
    rw [ps_nI_c (k := t) (by omega), d3, e1, g2, g5 15 (by decide) (by decide), d3, show nI d + 1 = nI (d + 1) from nI_1 d]
  have rt : ps_rt lat ln x1 w3 w4 (pl 2 t) (nI t) rf = (if md_Ref_tickOf (cr_up rf2 15 t (nI (d + 1))) lat ln (nI t) (nI (d + 1)) = nI r then (if 0 ≤ md_Ref_tickOf (cr_up rf2 15 t (nI (d + 1))) lat ln (nI t) (nI (d + 1)) then cr_up (cr_up (cr_up rf2 15 t (nI (d + 1))) 16 t (nI r)) 13 t 1 else cr_up (cr_up (cr_up rf2 15 t (nI (d + 1))) 16 t (nI r)) 13 t 2) else (if 0 ≤ md_Ref_tickOf (cr_up rf2 15 t (nI (d + 1))) lat ln (nI t) (nI (d + 1)) then cr_up (cr_up (cr_up rf2 15 t (nI (d + 1))) 16 t 0) 13 t 1 else cr_up (cr_up (cr_up rf2 15 t (nI (d + 1))) 16 t 0) 13 t 2)) := by
    unfold ps_rt
    rw [r3, ps_nI_c (k := t) (by omega), d3, e1, pu_up_same]
  have f15 : (cr_up rf2 15 t (nI (d + 1))) 15 = upd (rf 15) t (nI (d + 1)) := by rw [pu_up_fn, g5 15 (by decide) (by decide)]
  have f16 : (cr_up rf2 15 t (nI (d + 1))) 16 = upd (rf 16) t (nI r) := by rw [pu_up_cell _ _ _ (show (16 : Nat) ≠ 15 by decide), g6]
  have f17 : (cr_up rf2 15 t (nI (d + 1))) 17 = rf2 17 := pu_up_cell _ _ _ (show (17 : Nat) ≠ 15 by decide)
  have fc : ∀ c, c ≠ 15 → c ≠ 16 → c ≠ 17 → (cr_up rf2 15 t (nI (d + 1))) c = rf c := fun c q1 q2 q3 => (pu_up_cell _ _ _ q1).trans (g5 c q2 q3)
  have hP3 : ps_Pl pl (cr_up rf2 15 t (nI (d + 1))) ln T R := ps_Pl_F hP (by rw [fc 0 (by decide) (by decide) (by decide)]) (by rw [fc 0 (by decide) (by decide) (by decide)]) (fc 1 (by decide) (by decide) (by decide)) (fc 2 (by decide) (by decide) (by decide))
  have nx := ps_tick hP3 lat (t := t) (d := d + 1) (by omega) (by omega)
  generalize cr_up rf2 15 t (nI (d + 1)) = rf3 at rt f15 f16 f17 fc hP3 nx
  obtain ⟨b1, b2, b3, b4, b5, b6, b7, b8⟩ := k2
  have tv := b8.1 t
  -- the cells of the reference behind the tick
  have cell : ∀ hv s : Int32, (cr_up (cr_up rf3 16 t hv) 13 t s) 13 = upd (rf 13) t s ∧ (cr_up (cr_up rf3 16 t hv) 13 t s) 14 = rf 14 ∧ (cr_up (cr_up rf3 16 t hv) 13 t s) 15 = upd (rf 15) t (nI (d + 1)) ∧ (cr_up (cr_up rf3 16 t hv) 13 t s) 16 t = hv ∧ (∀ u, u ≠ t → (cr_up (cr_up rf3 16 t hv) 13 t s) 16 u = rf 16 u) ∧ (cr_up (cr_up rf3 16 t hv) 13 t s) 17 = rf2 17 ∧ ps_TF rf (cr_up (cr_up rf3 16 t hv) 13 t s) := fun hv s => by
    refine ⟨?_, ?_, ?_, ?_, fun u hu => ?_, ?_, fun k q1 q2 q3 q4 q5 => ?_⟩
    · rw [pu_up_fn, pu_up_cell _ _ _ (show (13 : Nat) ≠ 16 by decide), fc 13 (by decide) (by decide) (by decide)]
    · rw [pu_up_cell _ _ _ (show (14 : Nat) ≠ 13 by decide), pu_up_cell _ _ _ (show (14 : Nat) ≠ 16 by decide), fc 14 (by decide) (by decide) (by decide)]
    · rw [pu_up_cell _ _ _ (show (15 : Nat) ≠ 13 by decide), pu_up_cell _ _ _ (show (15 : Nat) ≠ 16 by decide), f15]
    · rw [pu_up_cell _ _ _ (show (16 : Nat) ≠ 13 by decide), pu_up_same]
    · rw [pu_up_cell _ _ _ (show (16 : Nat) ≠ 13 by decide), pu_up_place _ _ _ hu, f16, ps_us_n _ _ hu]
    · rw [pu_up_cell _ _ _ (show (17 : Nat) ≠ 13 by decide), pu_up_cell _ _ _ (show (17 : Nat) ≠ 16 by decide), f17]
    · rw [pu_up_cell _ _ _ q1, pu_up_cell _ _ _ q4, fc k q3 q4 q5]
  have mk : ∀ (hv s : Int32) (tbF trF : cr_S), hv = tb2 3 t → (∀ k, trF (3 + k) = tr1 (3 + k)) → trF 1 = upd (tr 1) t (nI (d + 1)) → trF 0 0 = nI (ps_cnt (upd (rf 13) t s) 2 T) → ps_Bd pl tbF T R → cr_RBoard tbF → tbF 0 = tb 0 → (∀ u, u ≠ t → tbF 1 u = tb 1 u) → tbF 2 = tb 2 → tbF 3 = tb2 3 → tbF 4 = tb2 4 → tbF 5 = tb2 5 → ((tb2 3 t = 0 ∧ ∀ j, tb2 4 j ≠ nI t) ∨ ∃ r, 1 ≤ r ∧ r ≤ 8 ∧ tb2 3 t = nI r ∧ (∀ j, tb2 4 j = nI t ↔ j = r) ∧ ps_ra pl (nI t) (nI (d + 1)) = nI r) → ((s = 1 ∧ tbF 1 t = 1 ∧ ((d + 1 : Nat) : Int) < (ps_to pl (nI t)).toInt) ∨ (s = 2 ∧ tbF 1 t = 0 ∧ ((d + 1 : Nat) : Int) = (ps_to pl (nI t)).toInt)) → ps_TQ pl (cr_up (cr_up rf3 16 t hv) 13 t s) trF tbF T R ∧ ps_TF rf (cr_up (cr_up rf3 16 t hv) 13 t s) ∧ tbF 0 = tb 0 ∧ (∀ u, u ≠ t → (cr_up (cr_up rf3 16 t hv) 13 t s) 13 u = rf 13 u) ∧ (cr_up (cr_up rf3 16 t hv) 13 t s) 13 t ≠ 0 ∧ rf 13 t ≠ 0 ∧ (∀ u, u ≠ t → trF 1 u = tr 1 u) ∧ (trF 1 t).toInt = (tr 1 t).toInt + 1 := fun hv s tbF trF p1 p2 p3 p4 p5 p6 p7 p8 p9 p10 p11 p12 p13 p14 => by
    obtain ⟨l13, l14, l15, l16, l16', l17, lF⟩ := cell hv s
    have s0 : s ≠ 0 := by
      rcases p14 with ⟨q, _⟩ | ⟨q, _⟩
      · rw [q]
        decide
      · rw [q]
        decide
    refine ⟨ps_TQ_mk (d := d) (s := s) a1 t1 Q2 Q3 Q4 p5 ?_ ?_ (fun j => by rw [p12]; exact b7 j) p6 ?_ (by omega) t2 (by rw [p3, ps_us_s]) (fun u hu => by rw [p3, ps_us_n _ _ hu]) (by rw [l13, ps_us_s]) (fun u hu => by rw [l13, ps_us_n _ _ hu]) l14 (by rw [l15, ps_us_s]) (fun u hu => by rw [l15, ps_us_n _ _ hu]) (by rw [l16, p10]; exact p1) l16' p8 p9 (fun u hu => by rw [p10]; exact b5 u hu) (fun u j q1 q2 q3 => by rw [p11]; exact b6 u j q1 q2 q3) (by rw [p10, p11]; exact p13) rd p14, lF, p7, fun u hu => by rw [l13, ps_us_n _ _ hu], by rw [l13, ps_us_s]; exact s0, by rw [r13]; decide, fun u hu => by rw [p3, ps_us_n _ _ hu], ?_⟩
    · intro k u q1 q2 q3
      obtain ⟨m, m1, m2, m3, m4⟩ := g4 k u q1 q2 q3
      refine ⟨m, m1, by rw [p2 k]; exact m2, fun r' hr' => ?_, m4⟩
      rw [l17]
      exact m3 r' hr'
    · unfold ps_TE
      rw [p4, l13]
    · intro j
      by_cases w : j = t
      · rw [w, l16, p1]
        omega
      · rw [l16' j w]
        exact Q9 j
    · rw [p3, ps_us_s, d2]
      omega
  have j81 : md_Trial_haveTick pl tr tb (nI t) = (if nI (d + 1) < ps_to pl (nI t) then (cr_up tr1 1 t (nI (d + 1)), tb2) else (cr_up (cr_up tr1 1 t (nI (d + 1))) 0 0 ((cr_up tr1 1 t (nI (d + 1))) 0 0 + 1), md_Board_putToSleep pl tb2 (nI t))) := by
    rw [g1, k1]
    unfold jn_Trial_haveTick_81
    rw [ps_nI_c (k := t) (by omega), pu_up_same, ps_toE]
  have u1 : (cr_up tr1 1 t (nI (d + 1))) 1 = upd (tr 1) t (nI (d + 1)) := by rw [pu_up_fn, g3 1 (by omega)]
  have u0 : (cr_up tr1 1 t (nI (d + 1))) 0 0 = nI (ps_cnt (rf 13) 2 T) := by
    rw [pu_up_cell _ _ _ (show (0 : Nat) ≠ 1 by decide), g3 0 (by omega)]
    exact Q6
  rcases nx with ⟨r', hr', n1, n2, n3⟩ | ⟨n1, n2, n3⟩
  · have lt : nI (d + 1) < ps_to pl (nI t) := by rw [pu_lt]; omega
    have ge : (0 : Int32) ≤ nI r' := by
      have : r' ≤ 8 := by
        have := hP.1.2.1
        rcases hr' with q | ⟨_, q, _⟩ <;> omega
      have := ps_nI_t (k := r') (by omega)
      rw [pu_le, this]
      show (0 : Int) ≤ r'
      omega
    rw [if_pos lt] at j81
    have cs : ps_cnt (upd (rf 13) t 1) 2 T = ps_cnt (rf 13) 2 T := ps_cnt_same 2 T (fun j _ _ => by
      by_cases w : j = t
      · rw [w, ps_us_s, r13]
      · rw [ps_us_n _ _ w])
    have go := fun hv (p1 : hv = tb2 3 t) p13 => mk hv 1 tb2 (cr_up tr1 1 t (nI (d + 1))) p1 (fun k => pu_up_cell _ _ _ (show 3 + k ≠ 1 by omega)) u1 (by rw [cs]; exact u0) b1 b8 b2 (fun u _ => by rw [b3]) b4 rfl rfl rfl p13 (Or.inl ⟨rfl, by rw [b3]; exact rd, by omega⟩)
    rw [n1] at rt
    rcases k3 with ⟨q1, q2, q3⟩ | ⟨q1, q2, q3⟩
    · rw [if_pos (show nI r' = nI r from n2.symm.trans q1), if_pos ge] at rt
      refine ⟨_, _, _, rt, j81, go (nI r) q2.symm ?_⟩
      rcases q3 with ⟨_, q4, q5⟩ | ⟨q4, q5, q6, q7⟩
      · exact Or.inl ⟨q4, q5⟩
      · exact Or.inr ⟨r, q4, q5, q6, q7, q1⟩
    · rw [if_neg (show ¬ nI r' = nI r from fun q => q1 (n2.trans q)), if_pos ge] at rt
      exact ⟨_, _, _, rt, j81, go 0 q2.symm (Or.inl ⟨q2, q3⟩)⟩
  · have nlt : ¬ nI (d + 1) < ps_to pl (nI t) := by rw [pu_lt]; omega
    have no : tb2 3 t = 0 ∧ ∀ j, tb2 4 j ≠ nI t := by
      rcases k3 with ⟨q1, q2, q3⟩ | ⟨q1, q2, q3⟩
      · rcases q3 with ⟨_, q4, q5⟩ | ⟨q4, q5, q6, q7⟩
        · exact ⟨q4, q5⟩
        · rw [n2] at q1
          exact absurd q1.symm (ps_nz q4 (by omega))
      · exact ⟨q2, q3⟩
    rw [if_neg nlt, ps_sl0 pl (by omega) no.1, u0] at j81
    have m1 : ¬ (-1 : Int32) = nI r := fun q => by
      have := cr_eq q
      have := ps_nI_t (k := r) (by omega)
      have km : (-1 : Int32).toInt = -1 := by decide
      omega
    rw [n1, if_neg m1, if_neg (show ¬ (0 : Int32) ≤ -1 by decide)] at rt
    have cs := ps_cnt_dec (f := upd (rf 13) t 2) (f' := rf 13) (x := 2) t1 (by rw [ps_us_s]) (by rw [r13]; decide) (fun j hj => by rw [ps_us_n _ _ hj]) T t2
    have c1 : (cr_up tb2 1 t 0) 1 = upd (tb 1) t 0 := by rw [pu_up_fn, b3]
    have c4 : (cr_up tb2 1 t 0) 4 = tb2 4 := pu_up_cell _ _ _ (show (4 : Nat) ≠ 1 by decide)
    have nb : ps_Bd pl (cr_up tb2 1 t 0) T R := by
      refine ps_Bd_drop b1 a1 (by rw [pu_up_cell _ _ _ (show (0 : Nat) ≠ 1 by decide)]) (pu_up_cell _ _ _ (show (2 : Nat) ≠ 1 by decide)) (fun j => Or.inl (by rw [c4])) (fun u => ?_)
      rw [c1, c4]
      by_cases w : u = t
      · rw [w, ps_us_s]
        exact Or.inr ⟨Or.inl rfl, no.2⟩
      · rw [ps_us_n _ _ w, b3]
        exact Or.inl rfl
    refine ⟨_, _, _, rt, j81, mk 0 2 (cr_up tb2 1 t 0) (cr_up (cr_up tr1 1 t (nI (d + 1))) 0 0 (nI (ps_cnt (rf 13) 2 T) + 1)) no.1.symm (fun k => ?_) ?_ ?_ nb ⟨cr_rg_up b8.1 (fun q => absurd q (by decide)), cr_rg_up b8.2 (fun q => absurd q (by decide))⟩ ?_ (fun u hu => by rw [c1, ps_us_n _ _ hu]) ?_ (pu_up_cell _ _ _ (show (3 : Nat) ≠ 1 by decide)) c4 (pu_up_cell _ _ _ (show (5 : Nat) ≠ 1 by decide)) (Or.inl no) (Or.inr ⟨rfl, by rw [c1, ps_us_s], by omega⟩)⟩
    · rw [pu_up_cell _ _ _ (show 3 + k ≠ 0 by omega), pu_up_cell _ _ _ (show 3 + k ≠ 1 by omega)]
    · rw [pu_up_cell _ _ _ (show (1 : Nat) ≠ 0 by decide), u1]
    · rw [pu_up_same, ← cs]
      exact nI_1 _
    · rw [pu_up_cell _ _ _ (show (0 : Nat) ≠ 1 by decide), b2]
    · rw [pu_up_cell _ _ _ (show (2 : Nat) ≠ 1 by decide), b4]
