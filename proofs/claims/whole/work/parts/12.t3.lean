/-! the trial: one task's tick -/
def ps_r3 (lat : Int64) (ln : Nat → Int64) (x1 : Int64) (w3 w4 c x : Int32) (rf : cr_S) : cr_S :=
  cr_up (lo_Ref_plain_183 lat ln x1 w3 w4 c x (md_Ref_tickOf rf lat ln x (rf 15 x.toNatClampNeg)) 11 (cr_up rf 16 x.toNatClampNeg (md_Ref_tickOf rf lat ln x (rf 15 x.toNatClampNeg))) (1 : Int32)) 15 x.toNatClampNeg (((lo_Ref_plain_183 lat ln x1 w3 w4 c x (md_Ref_tickOf rf lat ln x (rf 15 x.toNatClampNeg)) 11 (cr_up rf 16 x.toNatClampNeg (md_Ref_tickOf rf lat ln x (rf 15 x.toNatClampNeg))) (1 : Int32)) 15 x.toNatClampNeg) + (1 : Int32))
def ps_rt (lat : Int64) (ln : Nat → Int64) (x1 : Int64) (w3 w4 c x : Int32) (rf : cr_S) : cr_S :=
  (if md_Ref_tickOf (ps_r3 lat ln x1 w3 w4 c x rf) lat ln x ((ps_r3 lat ln x1 w3 w4 c x rf) 15 x.toNatClampNeg) = md_Ref_tickOf rf lat ln x (rf 15 x.toNatClampNeg) then (if 0 ≤ md_Ref_tickOf (ps_r3 lat ln x1 w3 w4 c x rf) lat ln x ((ps_r3 lat ln x1 w3 w4 c x rf) 15 x.toNatClampNeg) then (cr_up (cr_up (ps_r3 lat ln x1 w3 w4 c x rf) 16 x.toNatClampNeg (md_Ref_tickOf rf lat ln x (rf 15 x.toNatClampNeg))) 13 x.toNatClampNeg (1 : Int32)) else (cr_up (cr_up (ps_r3 lat ln x1 w3 w4 c x rf) 16 x.toNatClampNeg (md_Ref_tickOf rf lat ln x (rf 15 x.toNatClampNeg))) 13 x.toNatClampNeg (2 : Int32))) else (if 0 ≤ md_Ref_tickOf (ps_r3 lat ln x1 w3 w4 c x rf) lat ln x ((ps_r3 lat ln x1 w3 w4 c x rf) 15 x.toNatClampNeg) then (cr_up (cr_up (ps_r3 lat ln x1 w3 w4 c x rf) 16 x.toNatClampNeg (0 : Int32)) 13 x.toNatClampNeg (1 : Int32)) else (cr_up (cr_up (ps_r3 lat ln x1 w3 w4 c x rf) 16 x.toNatClampNeg (0 : Int32)) 13 x.toNatClampNeg (2 : Int32))))
theorem ps_ite4 (g : cr_S → cr_S) (x y z : Int32) (a b c d : cr_S) : (if x = y then (if 0 ≤ z then g a else g b) else (if 0 ≤ z then g c else g d)) = g (if x = y then (if 0 ≤ z then a else b) else (if 0 ≤ z then c else d)) := by
  by_cases p : x = y
  · rw [if_pos p, if_pos p]
    by_cases q : 0 ≤ z
    · rw [if_pos q, if_pos q]
    · rw [if_neg q, if_neg q]
  · rw [if_neg p, if_neg p]
    by_cases q : 0 ≤ z
    · rw [if_pos q, if_pos q]
    · rw [if_neg q, if_neg q]
theorem ps_134E (lat : Int64) (ln : Nat → Int64) (x1 : Int64) (w3 w4 : Int32) (n : Nat) (rf : cr_S) (v : Int32) : lo_Ref_plain_134 lat ln x1 w3 w4 (n + 1) rf v = if (4 : Int32) ≤ v then rf else (if md_Ref_trialRuns rf lat ln v = 0 then lo_Ref_plain_134 lat ln x1 w3 w4 n rf (v + 1) else lo_Ref_plain_134 lat ln x1 w3 w4 n (ps_rt lat ln x1 w3 w4 v (md_Ref_trialRuns rf lat ln v) rf) (v + 1)) := by
  rw [lo_Ref_plain_134]
  by_cases c1 : (4 : Int32) ≤ v
  · rw [if_pos c1, if_pos c1]
  · rw [if_neg c1, if_neg c1]
    by_cases c2 : md_Ref_trialRuns rf lat ln v = 0
    · rw [if_pos c2, if_pos c2]
    · rw [if_neg c2, if_neg c2]
      exact ps_ite4 (fun s => lo_Ref_plain_134 lat ln x1 w3 w4 n s (v + 1)) _ _ _ _ _ _ _
theorem ps_TQ_mk {pl rf tr tb rfF trF tbF : cr_S} {T R t d : Nat} {s : Int32} (hT : T ≤ 10) (t1 : 1 ≤ t) (Q2 : ps_TH pl tr tb rf T) (Q3 : ps_TS pl tr rf T) (Q4 : ps_TR tb rf T) (B : ps_Bd pl tbF T R) (D : ps_TD trF rfF T) (E : ps_TE trF rfF T) (f5 : ∀ j, tbF 5 j = 0) (fR : cr_RBoard tbF) (fh : cr_rh rfF 16 (-1) 8) (d33 : d + 1 ≤ 33) (t2 : t ≤ T)
    (a1 : trF 1 t = nI (d + 1)) (a1' : ∀ u, u ≠ t → trF 1 u = tr 1 u) (b13 : rfF 13 t = s) (b13' : ∀ u, u ≠ t → rfF 13 u = rf 13 u) (b14 : rfF 14 = rf 14) (b15 : rfF 15 t = nI (d + 1)) (b15' : ∀ u, u ≠ t → rfF 15 u = rf 15 u) (b16 : rfF 16 t = tbF 3 t) (b16' : ∀ u, u ≠ t → rfF 16 u = rf 16 u)
    (c1' : ∀ u, u ≠ t → tbF 1 u = tb 1 u) (c2 : tbF 2 = tb 2) (c3' : ∀ u, u ≠ t → tbF 3 u = tb 3 u) (c4' : ∀ u j, u ≠ t → 1 ≤ u → u ≤ 10 → (tbF 4 j = nI u ↔ tb 4 j = nI u))
    (hh : (tbF 3 t = 0 ∧ ∀ j, tbF 4 j ≠ nI t) ∨ ∃ r, 1 ≤ r ∧ r ≤ 8 ∧ tbF 3 t = nI r ∧ (∀ j, tbF 4 j = nI t ↔ j = r) ∧ ps_ra pl (nI t) (nI (d + 1)) = nI r) (rd : tb 1 t = 1)
    (hs : (s = 1 ∧ tbF 1 t = 1 ∧ ((d + 1 : Nat) : Int) < (ps_to pl (nI t)).toInt) ∨ (s = 2 ∧ tbF 1 t = 0 ∧ ((d + 1 : Nat) : Int) = (ps_to pl (nI t)).toInt)) : ps_TQ pl rfF trF tbF T R := by
  refine ⟨B, fun u u1 u2 => ?_, fun u u1 u2 => ?_, fun u u1 u2 => ?_, D, E, f5, fR, fh⟩
  · by_cases w : u = t
    · subst w
      rw [a1]
      exact ⟨b16, hh⟩
    · obtain ⟨q1, q2⟩ := Q2 u u1 u2
      rw [b16' u w, c3' u w, a1' u w]
      refine ⟨q1, ?_⟩
      rcases q2 with ⟨z, z'⟩ | ⟨r, r1, r2, r3, r4, r5⟩
      · exact Or.inl ⟨z, fun j q => z' j ((c4' u j w u1 (by omega)).mp q)⟩
      · exact Or.inr ⟨r, r1, r2, r3, fun j => (c4' u j w u1 (by omega)).trans (r4 j), r5⟩
  · by_cases w : u = t
    · subst w
      refine ⟨d + 1, d33, a1, b15, Or.inr ?_⟩
      rw [b13]
      rcases hs with ⟨q1, _, q3⟩ | ⟨q1, _, q3⟩
      · exact Or.inl ⟨q1, q3⟩
      · exact Or.inr ⟨q1, q3⟩
    · rw [a1' u w, b13' u w, b15' u w]
      exact Q3 u u1 u2
  · by_cases w : u = t
    · subst w
      rw [b13, c2, b14]
      rcases hs with ⟨q1, q2, _⟩ | ⟨q1, q2, _⟩
      · rw [q1, q2]
        exact ⟨Iff.rfl, fun _ => (Q4 u u1 u2).2 rd⟩
      · rw [q1, q2]
        exact ⟨⟨fun q => absurd q (by decide), fun q => absurd q (by decide)⟩, fun q => absurd q (by decide)⟩
    · rw [b13' u w, c1' u w, c2, b14]
      exact Q4 u u1 u2
/-- what holds of the board in the middle of a tick of t -/
def ps_Mid (pl tb tb1 : cr_S) (T R t : Nat) : Prop := ps_Bd pl tb1 T R ∧ tb1 0 = tb 0 ∧ tb1 1 = tb 1 ∧ tb1 2 = tb 2 ∧ (∀ u, u ≠ t → tb1 3 u = tb 3 u) ∧ (∀ u j, u ≠ t → 1 ≤ u → u ≤ 10 → (tb1 4 j = nI u ↔ tb 4 j = nI u)) ∧ (∀ j, tb1 5 j = 0) ∧ cr_RBoard tb1
def ps_Hd (tb1 : cr_S) (t r : Nat) : Prop := (r = 0 ∧ tb1 3 t = 0 ∧ ∀ j, tb1 4 j ≠ nI t) ∨ (1 ≤ r ∧ r ≤ 8 ∧ tb1 3 t = nI r ∧ ∀ j, tb1 4 j = nI t ↔ j = r)
theorem ps_hv1 {pl rf tr tb : cr_S} {ln : Nat → Int64} {T R t d r : Nat} (hP : ps_Pl pl rf ln T R) (hQ : ps_TQ pl rf tr tb T R) (t1 : 1 ≤ t) (t2 : t ≤ T) (hf : ps_fs pl tb R (pl 2 t) (T + 1) t) (lat x1 : Int64) (w3 w4 : Int32) (hd : tr 1 t = nI d) (hr : r = 0 ∨ (1 ≤ r ∧ r ≤ R ∧ ps_us pl t r)) (e2 : ps_ra pl (nI t) (nI d) = nI r) :
    ∃ tr1 tb1 rf2, md_Trial_haveTick pl tr tb (nI t) = jn_Trial_haveTick_44 pl (nI t) tr1 tb1 (nI r) ∧ lo_Ref_plain_183 lat ln x1 w3 w4 (pl 2 t) (nI t) (nI r) 11 (cr_up rf 16 t (nI r)) 1 = rf2 ∧ (∀ c, c ≤ 3 → tr1 c = tr c) ∧ ps_TD tr1 rf2 T ∧ (∀ c, c ≠ 16 → c ≠ 17 → rf2 c = rf c) ∧ rf2 16 = upd (rf 16) t (nI r) ∧ ps_Mid pl tb tb1 T R t ∧ ps_Hd tb1 t r := by
  obtain ⟨Q1, Q2, Q3, Q4, Q5, Q6, Q7, Q8, Q9⟩ := id hQ
  obtain ⟨⟨a1, a2, a3, a4, a5, a6, a7, a8, a9⟩, pL, pR, pU, pC, pO⟩ := id hP
  have hv : md_Trial_resourceAt pl tr tb (nI t) (tr 1 (nI t).toNatClampNeg) = nI r := by rw [ps_raE, ps_nI_c (k := t) (by omega), hd, e2]
  have c16 : (cr_up rf 16 t (nI r)) 16 = upd (rf 16) t (nI r) := pu_up_fn _ _ _ _
  have th := (Q2 t t1 t2).2
  rw [hd, e2] at th
  unfold md_Trial_haveTick
  rw [hv]
  rcases hr with z | ⟨r1, r2, ru⟩
  · subst z
    refine ⟨tr, tb, cr_up rf 16 t (nI 0), if_pos rfl, ?_, fun _ _ => rfl, ?_, fun c c1 c2 => pu_up_cell _ _ _ c1, c16, ⟨Q1, rfl, rfl, rfl, fun _ _ => rfl, fun _ _ _ _ _ => Iff.rfl, Q7, Q8⟩, ?_⟩
    · rw [lo_Ref_plain_183]
      by_cases c : (cr_up rf 16 t (nI 0)) 0 0 < 1
      · rw [if_pos c]
      · rw [if_neg c, if_pos (show nI 0 ≤ 0 by decide)]
    · unfold ps_TD
      rw [pu_up_cell rf t (nI 0) (show (17 : Nat) ≠ 16 by decide)]
      exact Q5
    · refine Or.inl ⟨rfl, ?_⟩
      rcases th with q | ⟨r0, b1, b2, b3, b4, b5⟩
      · exact q
      · exact absurd (ps_inj b5 (by omega) (by omega)) (by omega)
  · have rn := ps_nz r1 (show r < 100000 by omega)
    rw [if_neg rn, ps_nI_c (k := r) (by omega)]
    obtain ⟨m1, m2, m3⟩ := ps_mkL (pl := pl) lat ln x1 w3 w4 (T := T) (t := t) (r := r) a1 (by omega) r1 (by omega) 11 1 (cr_up rf 16 t (nI r)) (by rw [← a4]; simp [cr_up]) (by rw [a7]; simp [cr_up]) (by rw [a8]; simp [cr_up]) (by omega) (by omega) (by omega)
    have e13 : (cr_up rf 16 t (nI r)) 13 = rf 13 := by simp [cr_up]
    have e17 : (cr_up rf 16 t (nI r)) 17 = rf 17 := by simp [cr_up]
    rw [e13] at m2 m3
    rw [e17] at m3
    -- the notes over any board with the states of tb
    have nd : ∀ tb1 : cr_S, tb1 1 = tb 1 → ∃ rf2, lo_Ref_plain_183 lat ln x1 w3 w4 (pl 2 t) (nI t) (nI r) 11 (cr_up rf 16 t (nI r)) 1 = rf2 ∧ (∀ c, c ≤ 3 → (md_Trial_noteDelays pl tr tb1 (nI t) (nI r)) c = tr c) ∧ ps_TD (md_Trial_noteDelays pl tr tb1 (nI t) (nI r)) rf2 T ∧ (∀ c, c ≠ 16 → c ≠ 17 → rf2 c = rf c) ∧ rf2 16 = upd (rf 16) t (nI r) := fun tb1 hb => by
      obtain ⟨n1, n2, n3⟩ := ps_ndL (tb := tb1) (r := r) a1 a3 (show t ≤ 10 by omega) 11 1 tr (by omega) (by omega) (by omega)
      refine ⟨_, rfl, n1, ?_, fun c c1 c2 => (m1 c c2).trans (pu_up_cell _ _ _ c1), (m1 16 (by decide)).trans c16⟩
      refine ps_TD_mark (pl := pl) Q5 t1 t2 a1 r1 (by omega) (fun q => tb 1 q = 1 ∧ ps_bel pl t q) (fun q u q1 q2 q3 q4 => n2 q u q1 q2 q3 (by rw [hb]; exact q4.1) q4.2) (fun q u w => n3 q u (fun y => w ⟨y.1, y.2.1, y.2.2.1, by rw [← hb]; exact y.2.2.2.1, y.2.2.2.2⟩)) (fun q q1 q2 q3 => m2 q q1 q2 ((Q4 q q1 q2).1.mpr q3.1) q3.2) (fun i w => m3 i (fun q q1 q2 q3 q4 => w q q1 q2 ⟨(Q4 q q1 q2).1.mp q3, q4⟩))
    rcases th with ⟨z, z'⟩ | ⟨r0, b1, b2, b3, b4, b5⟩
    · have h0 : tb 4 r = 0 := (ps_freeR Q1 a1 a2 pC pO hf t1 (by omega) ru).resolve_right (z' r)
      obtain ⟨k1, k2, k3, k4, k5, k6, k7, k8⟩ := ps_tk Q1 Q8 a1 a2 hf t1 t2 r1 r2 ru h0
      rw [if_neg (show ¬ tb 4 r = nI t from z' r)]
      obtain ⟨rf2, g1, g2, g3, g4, g5⟩ := nd (md_Board_take pl tb (nI t) (nI r)) k4
      refine ⟨_, _, rf2, rfl, g1, g2, g3, g4, g5, ⟨k1, k3, k4, k5, fun u hu => by rw [k6, ps_us_n _ _ hu], fun u j hu u1 u2 => ?_, fun j => ?_, k2⟩, Or.inr ⟨r1, by omega, by rw [k6, ps_us_s], fun j => ?_⟩⟩
      · rw [k7]
        by_cases jr : j = r
        · rw [jr, ps_us_s, h0]
          exact ⟨fun q => absurd (ps_inj q (by omega) (by omega)).symm hu, fun q => absurd q.symm (ps_nz u1 (by omega))⟩
        · rw [ps_us_n _ _ jr]
      · rw [k8]
        by_cases jr : j = r
        · rw [jr, ps_us_s]
          exact z
        · rw [ps_us_n _ _ jr]
          exact Q7 j
      · rw [k7]
        by_cases jr : j = r
        · rw [jr, ps_us_s]
          exact ⟨fun _ => rfl, fun _ => rfl⟩
        · rw [ps_us_n _ _ jr]
          exact ⟨fun q => absurd q (z' j), fun q => absurd q jr⟩
    · have rr : r = r0 := ps_inj b5 (by omega) (by omega)
      subst rr
      rw [if_pos (show tb 4 r = nI t from (b4 r).mpr rfl)]
      obtain ⟨rf2, g1, g2, g3, g4, g5⟩ := nd tb rfl
      exact ⟨_, _, rf2, rfl, g1, g2, g3, g4, g5, ⟨Q1, rfl, rfl, rfl, fun _ _ => rfl, fun _ _ _ _ _ => Iff.rfl, Q7, Q8⟩, Or.inr ⟨r1, b2, b3, b4⟩⟩
theorem ps_hv2 {pl tb tr1 tb1 : cr_S} {T R t d r : Nat} (hT : T ≤ 10) (t1 : 1 ≤ t) (t2 : t ≤ T) (hm : ps_Mid pl tb tb1 T R t) (hh : ps_Hd tb1 t r) (hd : tr1 1 t = nI d) (d33 : d ≤ 33) :
    ∃ tb2, jn_Trial_haveTick_44 pl (nI t) tr1 tb1 (nI r) = jn_Trial_haveTick_81 pl (nI t) (cr_up tr1 1 t (nI (d + 1))) tb2 ∧ ps_Mid pl tb tb2 T R t ∧ ((ps_ra pl (nI t) (nI (d + 1)) = nI r ∧ tb2 3 t = nI r ∧ ps_Hd tb2 t r) ∨ (ps_ra pl (nI t) (nI (d + 1)) ≠ nI r ∧ tb2 3 t = 0 ∧ ∀ j, tb2 4 j ≠ nI t)) := by
  have ad : tr1 1 t + 1 = nI (d + 1) := by rw [hd]; exact nI_1 d
  unfold jn_Trial_haveTick_44
  rw [ps_nI_c (k := t) (by omega), ad, pu_up_same, ps_raE]
  rcases hh with ⟨z, h1, h2⟩ | ⟨r1, r2, h1, h2⟩
  · subst z
    refine ⟨tb1, if_pos rfl, hm, ?_⟩
    by_cases c : ps_ra pl (nI t) (nI (d + 1)) = nI 0
    · exact Or.inl ⟨c, h1, Or.inl ⟨rfl, h1, h2⟩⟩
    · exact Or.inr ⟨c, h1, h2⟩
  · rw [if_neg (ps_nz r1 (by omega))]
    by_cases c : ps_ra pl (nI t) (nI (d + 1)) = nI r
    · rw [if_pos c]
      exact ⟨tb1, rfl, hm, Or.inl ⟨c, h1, Or.inr ⟨r1, r2, h1, h2⟩⟩⟩
    · rw [if_neg c, ps_gbE pl (by omega) r1 r2 h1]
      obtain ⟨b1, b2, b3, b4, b5, b6, b7, b8⟩ := hm
      have z : 0 ≤ (0 : Int32).toInt ∧ (0 : Int32).toInt ≤ 8 := by decide
      have c0 : (cr_up (cr_up (cr_up tb1 3 t (tb1 5 r)) 5 r 0) 4 r 0) 0 = tb1 0 := by simp [cr_up]
      have c1 : (cr_up (cr_up (cr_up tb1 3 t (tb1 5 r)) 5 r 0) 4 r 0) 1 = tb1 1 := by simp [cr_up]
      have c2 : (cr_up (cr_up (cr_up tb1 3 t (tb1 5 r)) 5 r 0) 4 r 0) 2 = tb1 2 := by simp [cr_up]
      have c3 : (cr_up (cr_up (cr_up tb1 3 t (tb1 5 r)) 5 r 0) 4 r 0) 3 = upd (tb1 3) t (tb1 5 r) := by simp [cr_up]
      have c4 : (cr_up (cr_up (cr_up tb1 3 t (tb1 5 r)) 5 r 0) 4 r 0) 4 = upd (tb1 4) r 0 := by simp [cr_up]
      have c5 : (cr_up (cr_up (cr_up tb1 3 t (tb1 5 r)) 5 r 0) 4 r 0) 5 = upd (tb1 5) r 0 := by simp [cr_up]
      have cR : cr_RBoard (cr_up (cr_up (cr_up tb1 3 t (tb1 5 r)) 5 r 0) 4 r 0) :=
        ⟨cr_rg_up (cr_rg_up (cr_rg_up b8.1 (fun _ => b8.2 r)) (fun q => absurd q (by decide))) (fun q => absurd q (by decide)), cr_rg_up (cr_rg_up (cr_rg_up b8.2 (fun q => absurd q (by decide))) (fun _ => z)) (fun q => absurd q (by decide))⟩
      generalize cr_up (cr_up (cr_up tb1 3 t (tb1 5 r)) 5 r 0) 4 r 0 = s at c0 c1 c2 c3 c4 c5 cR ⊢
      have dr : ∀ j, s 4 j = tb1 4 j ∨ s 4 j = 0 := fun j => by
        rw [c4]
        by_cases jr : j = r
        · rw [jr, ps_us_s]
          exact Or.inr rfl
        · rw [ps_us_n _ _ jr]
          exact Or.inl rfl
      refine ⟨s, rfl, ⟨ps_Bd_drop b1 hT (by rw [c0]) c2 dr (fun u => Or.inl (by rw [c1])), c0.trans b2, c1.trans b3, c2.trans b4, fun u hu => by rw [c3, ps_us_n _ _ hu]; exact b5 u hu, fun u j hu u1 u2 => ?_, fun j => ?_, cR⟩, Or.inr ⟨c, by rw [c3, ps_us_s, b7 r], fun j => ?_⟩⟩
      · rw [← b6 u j hu u1 u2, c4]
        by_cases jr : j = r
        · rw [jr, ps_us_s, (h2 r).mpr rfl]
          exact ⟨fun q => absurd q.symm (ps_nz u1 (by omega)), fun q => absurd (ps_inj q (by omega) (by omega)).symm hu⟩
        · rw [ps_us_n _ _ jr]
      · rw [c5]
        by_cases jr : j = r
        · rw [jr, ps_us_s]
        · rw [ps_us_n _ _ jr]
          exact b7 j
      · rw [c4]
        by_cases jr : j = r
        · rw [jr, ps_us_s]
          exact fun q => ps_nz t1 (by omega) q.symm
        · rw [ps_us_n _ _ jr]
          exact fun q => jr ((h2 j).mp q)
theorem ps_sl0 {bd : cr_S} (pl : cr_S) {t : Nat} (ht : t ≤ 10) (h : bd 3 t = 0) : md_Board_putToSleep pl bd (nI t) = cr_up bd 1 t 0 := by
  have z : md_Board_holdsAny pl bd (nI t) = 0 := by
    unfold md_Board_holdsAny
    rw [ps_nI_c (k := t) (by omega), if_pos h]
  unfold md_Board_putToSleep
  rw [lo_Board_putToSleep_2, if_neg (show ¬ (8 : Int32) ≤ 0 by decide), if_pos z, ps_nI_c (k := t) (by omega)]
