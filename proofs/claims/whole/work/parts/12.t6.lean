/-! the trial: the three cores at one tick -/
theorem ps_trk {pl rf tr tb : cr_S} {ln : Nat → Int64} {T R t : Nat} (hP : ps_Pl pl rf ln T R) (hQ : ps_TQ pl rf tr tb T R) (lat : Int64) (t1 : 1 ≤ t) (t2 : t ≤ T) : (md_Ref_trialRank rf lat ln (nI t)).toInt = ps_rn pl (tb 4) t R := by
  obtain ⟨⟨a1, a2, a3, a4, a5, a6, a7, a8, a9⟩, pL, pR, pU, pC, pO⟩ := id hP
  obtain ⟨q1, q2⟩ := hQ.2.1 t t1 t2
  have k0 : (0 : Int32).toInt = 0 := by decide
  unfold md_Ref_trialRank
  rw [ps_nI_c (k := t) (by omega), q1, ← a7]
  rcases q2 with ⟨z, w⟩ | ⟨r, r1, r2, r3, r4, r5⟩
  · rw [z, if_pos (show (0 : Int32) ≤ 0 by decide), ps_rn_free R w]
  · have rt := ps_nI_t (k := r) (by omega)
    have bh := ps_B4h hQ.1.2.2.2.1 a1 t1 (by omega) ((r4 r).mpr rfl)
    have g := ps_rn_ge pl (tb 4) t R
    have c := ps_rn_c pl (tb 4) t R r r1 bh.2.2.2.1 ((r4 r).mpr rfl)
    rw [r3, if_neg (show ¬ nI r ≤ 0 by rw [pu_le]; omega), ps_ceilE (ps_Pl_P hP) lat r2]
    by_cases y : pl 3 r ≤ pl 1 t
    · rw [if_pos y]
      have y' := cr_le y
      have le := ps_rn_le (pl := pl) (f := tb 4) (t := t) (m := (pl 1 t).toInt) (Int.le_refl _) R (fun j _ _ hj => by rw [(r4 j).mp hj]; exact y')
      omega
    · rw [if_neg y]
      have y' := cr_nle y
      have le := ps_rn_le (pl := pl) (f := tb 4) (t := t) (m := (pl 3 r).toInt) (by omega) R (fun j _ _ hj => by rw [(r4 j).mp hj]; exact Int.le_refl _)
      omega
/-- both sides choose the same task for a core -/
theorem ps_pick {pl rf tr tb : cr_S} {ln : Nat → Int64} {T R : Nat} (hP : ps_Pl pl rf ln T R) (hQ : ps_TQ pl rf tr tb T R) (lat : Int64) (c : Int32) : ∃ g, md_Board_firstOn pl tb c = nI g ∧ md_Ref_trialRuns rf lat ln c = nI g ∧ ps_fs pl tb R c (T + 1) g ∧ g ≤ T := by
  obtain ⟨⟨a1, a2, a3, a4, a5, a6, a7, a8, a9⟩, pL, pR, pU, pC, pO⟩ := id hP
  obtain ⟨Q1, Q2, Q3, Q4, Q5, Q6, Q7, Q8, Q9⟩ := id hQ
  obtain ⟨f, ef, hf⟩ := ps_fst a1 a2 a3 a5 c (fun u x y => (pR u x y).1) Q1.2.2.1
  obtain ⟨g, eg, hg⟩ := ps_truL lat ln a1 a4 c (fun u => ps_rn pl (tb 4) u R) (fun u u1 u2 _ => by
      have b := ps_rn20 a2 pR pC (tb 4) u1 u2
      exact ⟨ps_trk hP hQ lat u1 u2, by omega, b.2⟩) (fun x y x1 x2 y1 y2 hx hy ne => by
      have hx' := (Q4 x x1 x2).1.mp hx
      have hy' := (Q4 y y1 y2).1.mp hy
      rw [← (Q4 x x1 x2).2 hx', ← (Q4 y y1 y2).2 hy']
      exact Q1.2.2.1 x y hx' hy' ne) 11 1 0 (by omega) (by omega) (by omega) (ps_best_1 _ _ _)
  have eg' : md_Ref_trialRuns rf lat ln c = nI g := eg
  have hg' : ps_fs pl tb R c (T + 1) g := by
    refine ps_best_c (fun u u1 u2 => ?_) (fun u _ _ _ => rfl) (fun u u1 u2 q => ?_) hg
    · unfold ps_rd
      rw [a8, (Q4 u u1 (by omega)).1]
    · show (rf 14 u).toInt = (tb 2 u).toInt
      rw [(Q4 u u1 (by omega)).2 ((Q4 u u1 (by omega)).1.mp q.2)]
  have fg : f = g := ps_best_u hf hg'
  subst fg
  have := ps_best_b hf (by omega)
  exact ⟨f, ef, eg', hf, by omega⟩
def ps_sum (g : Nat → Int32) : Nat → Int
  | 0 => 0
  | n + 1 => ps_sum g n + (g (n + 1)).toInt
theorem ps_sum_same {g g' : Nat → Int32} : ∀ n : Nat, (∀ j, 1 ≤ j → j ≤ n → g' j = g j) → ps_sum g' n = ps_sum g n
  | 0, _ => rfl
  | n + 1, h => by
    rw [ps_sum, ps_sum, ps_sum_same n (fun j a b => h j a (by omega)), h (n + 1) (by omega) (Nat.le_refl _)]
theorem ps_sum_up {g g' : Nat → Int32} {t : Nat} (t1 : 1 ≤ t) (ht : (g' t).toInt = (g t).toInt + 1) (ho : ∀ u, u ≠ t → g' u = g u) : ∀ n : Nat, t ≤ n → ps_sum g' n = ps_sum g n + 1
  | 0, h => absurd h (by omega)
  | n + 1, h => by
    rw [ps_sum, ps_sum]
    by_cases c : t = n + 1
    · have s := ps_sum_same (g := g) (g' := g') n (fun j _ b => ho j (by omega))
      rw [← c, s, ht]
      omega
    · rw [ps_sum_up t1 ht ho n (by omega), ho (n + 1) (by omega)]
      omega
theorem ps_coL {pl : cr_S} {ln : Nat → Int64} {T R : Nat} (lat x1 : Int64) (w3 w3' w4 : Int32) : ∀ (d c : Nat) (rf tr tb : cr_S), ps_Pl pl rf ln T R → ps_TQ pl rf tr tb T R → 1 ≤ c → c ≤ 4 → 4 < d + c → ∃ rf' tr' tb', lo_Trial_mostDelays_36 pl x1 w3 d tr tb (nI c) = (tr', tb') ∧ lo_Ref_plain_134 lat ln x1 w3' w4 d rf (nI c) = rf' ∧ ps_TQ pl rf' tr' tb' T R ∧ ps_TF rf rf' ∧ tb' 0 = tb 0 ∧ (∀ u, rf' 13 u = 0 ↔ rf 13 u = 0) ∧ ps_sum (tr 1) T ≤ ps_sum (tr' 1) T ∧ ((∃ u, 1 ≤ u ∧ u ≤ T ∧ tb 1 u = 1 ∧ (c : Int) ≤ (pl 2 u).toInt ∧ (pl 2 u).toInt ≤ 3) → ps_sum (tr 1) T + 1 ≤ ps_sum (tr' 1) T)
  | 0, c, rf, tr, tb, _, _, _, a, b => absurd b (by omega)
  | d + 1, c, rf, tr, tb, hP, hQ, h1, hc, hd => by
    have ct := ps_nI_t (k := c) (by omega)
    have k3 : (3 : Int32).toInt = 3 := by decide
    have k4 : (4 : Int32).toInt = 4 := by decide
    have a1 := hP.1.1
    rw [lo_Trial_mostDelays_36, ps_134E]
    by_cases e : c = 4
    · rw [if_pos (show (3 : Int32) < nI c by rw [pu_lt]; omega), if_pos (show (4 : Int32) ≤ nI c by rw [pu_le]; omega)]
      exact ⟨rf, tr, tb, rfl, rfl, hQ, ps_TF_r rf, rfl, fun _ => Iff.rfl, Int.le_refl _, fun ⟨u, _, _, _, q1, q2⟩ => absurd q2 (by omega)⟩
    · rw [if_neg (show ¬ (3 : Int32) < nI c by rw [pu_lt]; omega), if_neg (show ¬ (4 : Int32) ≤ nI c by rw [pu_le]; omega), show nI c + 1 = nI (c + 1) from nI_1 c]
      have b1 : 1 ≤ c + 1 := by omega
      have b2 : c + 1 ≤ 4 := by omega
      have b3 : 4 < d + (c + 1) := by omega
      obtain ⟨g, g1, g2, g3, g4⟩ := ps_pick hP hQ lat (nI c)
      rw [g1, g2]
      by_cases z : g = 0
      · have z' : nI g = 0 := by rw [z]; rfl
        rw [if_pos z', if_pos z']
        obtain ⟨rf', tr', tb', i1, i2, i3, i4, i5, i6, i7, i8⟩ := ps_coL lat x1 w3 w3' w4 d (c + 1) rf tr tb hP hQ b1 b2 b3
        refine ⟨rf', tr', tb', i1, i2, i3, i4, i5, i6, i7, fun ⟨u, u1, u2, u3, u4, u5⟩ => i8 ⟨u, u1, u2, u3, ?_, u5⟩⟩
        have ne : (pl 2 u).toInt ≠ c := fun q => by
          rcases g3 with ⟨_, w⟩ | ⟨w, _⟩
          · exact w u u1 (by omega) ⟨by rw [pu_eq, ct]; exact q, u3⟩
          · omega
        omega
      · have z' : ¬ nI g = 0 := ps_nz (by omega) (by omega)
        rw [if_neg z', if_neg z']
        have gr := ps_best_r g3 z
        have pc : pl 2 g = nI c := gr.2.2.1
        have hf : ps_fs pl tb R (pl 2 g) (T + 1) g := by rw [pc]; exact g3
        obtain ⟨rf1, tr1, tb1, m1, m2, m3, m4, m5, m6, m7, m8, m9, m10⟩ := ps_TQ_tick hP hQ gr.1 g4 hf lat x1 w3' w4
        rw [pc] at m1
        rw [m1, m2]
        obtain ⟨rf', tr', tb', i1, i2, i3, i4, i5, i6, i7, i8⟩ := ps_coL lat x1 w3 w3' w4 d (c + 1) rf1 tr1 tb1 (ps_Pl_TF hP m4) m3 b1 b2 b3
        have su := ps_sum_up (g := tr 1) (g' := tr1 1) gr.1 m10 m9 T g4
        refine ⟨rf', tr', tb', i1, i2, i3, ps_TF_t m4 i4, i5.trans m5, fun u => (i6 u).trans ?_, by omega, fun _ => by omega⟩
        by_cases w : u = g
        · rw [w]
          exact ⟨fun q => absurd q m7, fun q => absurd q m8⟩
        · rw [m6 u w]
