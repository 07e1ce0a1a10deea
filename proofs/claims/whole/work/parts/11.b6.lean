/-! the steps: the boards of both sides -/
def ps_Pl (pl rf : cr_S) (ln : Nat → Int64) (T R : Nat) : Prop := ps_PN pl rf T R ∧ ps_PL pl ln ∧ ps_PR pl T ∧ ps_PU pl T R ∧ ps_PC pl T ∧ ps_PO pl
theorem ps_Pl_P {pl rf : cr_S} {ln : Nat → Int64} {T R : Nat} (h : ps_Pl pl rf ln T R) : ps_P pl rf ln := ⟨T, R, h⟩
def ps_W (N : Nat) (pl bd rf : cr_S) (T R : Nat) : Prop := bd 1 = rf 3 ∧ bd 2 = rf 4 ∧ bd 0 0 = rf 0 1 ∧ bd 4 = rf 7 ∧ 0 ≤ (bd 0 0).toInt ∧ (bd 0 0).toInt ≤ N ∧ ps_Bd pl bd T R ∧ ps_Ch N bd (rf 8) ∧ cr_RBoard bd
theorem ps_W_mono {N : Nat} {pl bd rf : cr_S} {T R : Nat} (h : ps_W N pl bd rf T R) : ps_W (N + 1) pl bd rf T R := by
  obtain ⟨w1, w2, w3, w4, w5, w6, w7, w8, w9⟩ := h
  exact ⟨w1, w2, w3, w4, w5, by omega, w7, ps_Ch_mono w8, w9⟩
/-- what a step may change of the reference -/
def ps_RF (rf rf' : cr_S) : Prop := (∀ k, k ≠ 0 → k ≠ 3 → k ≠ 4 → k ≠ 5 → k ≠ 7 → k ≠ 8 → rf' k = rf k) ∧ ∀ j, j ≠ 1 → rf' 0 j = rf 0 j
theorem ps_RF_r (rf : cr_S) : ps_RF rf rf := ⟨fun _ _ _ _ _ _ _ => rfl, fun _ _ => rfl⟩
theorem ps_runs {pl bd lk rf : cr_S} {ln : Nat → Int64} {T R : Nat} (hP : ps_Pl pl rf ln T R) (hL : ps_L0 lk rf) (e1 : bd 1 = rf 3) (e2 : bd 2 = rf 4) (e4 : bd 4 = rf 7) (hd : ps_dif bd) {t : Nat} (t1 : 1 ≤ t) (t2 : t ≤ T) (mn : cr_S) (lt : Int64) (tr tb : cr_S) (lat : Int64) : (md_Main_runs mn lt pl bd lk tr tb (nI t) = 0 ∧ md_Ref_runs rf lat ln (nI t) = 0) ∨ (md_Main_runs mn lt pl bd lk tr tb (nI t) = 1 ∧ md_Ref_runs rf lat ln (nI t) = 1 ∧ ps_fs pl bd R (pl 2 t) (T + 1) t) := by
  obtain ⟨⟨a1, a2, a3, a4, a5, a6, a7, a8, a9⟩, hPL, hPR, hPU, hPC, hPO⟩ := id hP
  have n1 : ¬ (1 : Int32) = 0 := by decide
  have A : md_Main_runs mn lt pl bd lk tr tb (nI t) = if md_Locks_spins lk (pl 2 t) = 0 then (if md_Board_firstOn pl bd (pl 2 t) = nI t then 1 else 0) else 0 := by
    unfold md_Main_runs
    rw [ps_nI_c (k := t) (by omega)]
  have B : md_Ref_runs rf lat ln (nI t) = if md_Ref_running rf lat ln (pl 2 t) = nI t then 1 else 0 := by
    unfold md_Ref_runs
    rw [ps_nI_c (k := t) (by omega), a8]
  by_cases s : lk 2 (pl 2 t).toNatClampNeg = 0
  · have S : md_Locks_spins lk (pl 2 t) = 0 := by
      unfold md_Locks_spins
      rw [if_pos s]
    obtain ⟨f, ef, hf⟩ := ps_fst a1 a2 a3 a5 (pl 2 t) (fun u x y => (hPR u x y).1) hd
    obtain ⟨g, eg, hg⟩ := ps_runL lat ln a1 a4 (pl 2 t) (by rw [← hL.2.1]; exact s) (fun u => ps_rn pl (bd 4) u R) (fun u u1 u2 _ => by
        have b := ps_rn20 a2 hPR hPC (bd 4) u1 u2
        refine ⟨?_, by omega, b.2⟩
        rw [← ps_rankNow (ps_Pl_P hP) e4 lat (nI u)]
        exact ps_rnM bd a2 a5 (by omega)) (fun x y _ _ _ _ hx hy ne => by
        rw [← e2]
        exact hd x y (by rw [e1]; exact hx) (by rw [e1]; exact hy) ne) 11 1 0 (by omega) (by omega) (by omega) (ps_best_1 _ _ _)
    have eg' : md_Ref_running rf lat ln (pl 2 t) = nI g := eg
    have hg' : ps_fs pl bd R (pl 2 t) (T + 1) g := by
      refine ps_best_c (fun u _ _ => ?_) (fun u _ _ _ => rfl) (fun u _ _ _ => ?_) hg
      · unfold ps_rd
        rw [a8, e1]
      · show (rf 4 u).toInt = (bd 2 u).toInt
        rw [e2]
    have fg : f = g := ps_best_u hf hg'
    subst fg
    have fT := ps_best_b hf (by omega)
    rw [A, B, S, if_pos rfl, ef, eg']
    by_cases c : f = t
    · subst c
      exact Or.inr ⟨if_pos rfl, if_pos rfl, hf⟩
    · have n : ¬ nI f = nI t := fun q => c (ps_inj q (by omega) (by omega))
      exact Or.inl ⟨if_neg n, if_neg n⟩
  · have S : md_Locks_spins lk (pl 2 t) = 1 := by
      unfold md_Locks_spins
      rw [if_neg s]
    have G : md_Ref_running rf lat ln (pl 2 t) = 0 := by
      unfold md_Ref_running
      rw [lo_Ref_running_4, a4]
      have Tt := ps_nI_t (k := T) (by omega)
      have k1 : (1 : Int32).toInt = 1 := by decide
      rw [if_neg (show ¬ nI T < 1 by rw [pu_lt]; omega), if_neg (show ¬ rf 11 (pl 2 t).toNatClampNeg = 0 by rw [← hL.2.1]; exact s)]
    rw [A, B, S, G, if_neg n1]
    exact Or.inl ⟨rfl, if_neg (fun q => ps_nz t1 (by omega) q.symm)⟩
theorem ps_mrE (pl bd : cr_S) {t : Nat} (ht : t ≤ 10) : md_Board_makeReady pl bd (nI t) = cr_up (cr_up (cr_up bd 1 t 1) 0 0 (bd 0 0 + 1)) 2 t (bd 0 0 + 1) := by
  unfold md_Board_makeReady
  rw [ps_nI_c (k := t) (by omega), pu_up_same, pu_up_cell bd t 1 (show (0 : Nat) ≠ 1 by decide)]
theorem ps_rdE (rf : cr_S) (lat : Int64) (ln : Nat → Int64) {t : Nat} (ht : t ≤ 10) : md_Ref_ready rf lat ln (nI t) = cr_up (cr_up (cr_up rf 3 t 1) 0 1 (rf 0 1 + 1)) 4 t (rf 0 1 + 1) := by
  unfold md_Ref_ready
  rw [ps_nI_c (k := t) (by omega), pu_up_same, pu_up_cell rf t 1 (show (0 : Nat) ≠ 3 by decide)]
/-- a task becomes ready on the class's board -/
theorem ps_mr {pl bd : cr_S} {T R t : Nat} (h : ps_Bd pl bd T R) (hT : T ≤ 10) (h0 : 0 ≤ (bd 0 0).toInt) (h1 : (bd 0 0).toInt ≤ 90000) (t1 : 1 ≤ t) (t2 : t ≤ T) (hx : bd 1 t ≠ 1) : ps_Bd pl (md_Board_makeReady pl bd (nI t)) T R ∧ md_Board_makeReady pl bd (nI t) 0 0 = bd 0 0 + 1 ∧ (bd 0 0 + 1).toInt = (bd 0 0).toInt + 1 ∧ md_Board_makeReady pl bd (nI t) 1 = upd (bd 1) t 1 ∧ md_Board_makeReady pl bd (nI t) 2 = upd (bd 2) t (bd 0 0 + 1) ∧ md_Board_makeReady pl bd (nI t) 3 = bd 3 ∧ md_Board_makeReady pl bd (nI t) 4 = bd 4 ∧ md_Board_makeReady pl bd (nI t) 5 = bd 5 := by
  have ad : (bd 0 0 + 1).toInt = (bd 0 0).toInt + 1 := ps_add1 (N := 90000) h0 h1 (by omega)
  rw [ps_mrE pl bd (by omega)]
  have c0 : (cr_up (cr_up (cr_up bd 1 t 1) 0 0 (bd 0 0 + 1)) 2 t (bd 0 0 + 1)) 0 0 = bd 0 0 + 1 := by simp [cr_up, upd]
  have c1 : (cr_up (cr_up (cr_up bd 1 t 1) 0 0 (bd 0 0 + 1)) 2 t (bd 0 0 + 1)) 1 = upd (bd 1) t 1 := by simp [cr_up]
  have c2 : (cr_up (cr_up (cr_up bd 1 t 1) 0 0 (bd 0 0 + 1)) 2 t (bd 0 0 + 1)) 2 = upd (bd 2) t (bd 0 0 + 1) := by simp [cr_up]
  have c4 : (cr_up (cr_up (cr_up bd 1 t 1) 0 0 (bd 0 0 + 1)) 2 t (bd 0 0 + 1)) 4 = bd 4 := by simp [cr_up]
  refine ⟨ps_Bd_ready h hT t1 t2 hx h0 (by rw [c0]; exact ad) (by rw [c1, ps_us_s]) (fun u hu => by rw [c1, ps_us_n _ _ hu]) (by rw [c2, ps_us_s, c0]) (fun u hu => by rw [c2, ps_us_n _ _ hu]) c4, c0, ad, c1, c2, by simp [cr_up], c4, by simp [cr_up]⟩
theorem ps_W_ready {N : Nat} {pl bd rf : cr_S} {T R t : Nat} (h : ps_W N pl bd rf T R) (hT : T ≤ 10) (hN : N < 512) (t1 : 1 ≤ t) (t2 : t ≤ T) (hx : bd 1 t ≠ 1) (lat : Int64) (ln : Nat → Int64) : ps_W (N + 1) pl (md_Board_makeReady pl bd (nI t)) (md_Ref_ready rf lat ln (nI t)) T R ∧ ps_RF rf (md_Ref_ready rf lat ln (nI t)) ∧ md_Ref_ready rf lat ln (nI t) 5 = rf 5 := by
  obtain ⟨w1, w2, w3, w4, w5, w6, w7, w8, w9⟩ := h
  obtain ⟨m1, m2, m3, m4, m5, m6, m7, m8⟩ := ps_mr w7 hT w5 (by omega) t1 t2 hx
  have r9 : cr_RBoard (md_Board_makeReady pl bd (nI t)) := by
    unfold cr_RBoard cr_rg
    rw [m6, m8]
    exact w9
  have ch := ps_Ch_cells w8 m6 m7 m8
  rw [ps_rdE rf lat ln (by omega)]
  refine ⟨⟨?_, ?_, ?_, ?_, ?_, ?_, m1, ?_, r9⟩, ⟨fun k k0 k3 k4 k5 k7 k8 => ?_, fun j hj => ?_⟩, by simp [cr_up]⟩
  · rw [m4, w1]
    simp [cr_up]
  · rw [m5, w2, w3]
    simp [cr_up]
  · rw [m2, w3]
    simp [cr_up, upd]
  · rw [m7, w4]
    simp [cr_up]
  · rw [m2]
    omega
  · rw [m2]
    omega
  · have e8 : (cr_up (cr_up (cr_up rf 3 t 1) 0 1 (rf 0 1 + 1)) 4 t (rf 0 1 + 1)) 8 = rf 8 := by simp [cr_up]
    rw [e8]
    exact ps_Ch_mono ch
  · simp [cr_up, k0, k3, k4]
  · simp [cr_up, upd, hj]
theorem ps_tkE (pl bd : cr_S) {t r : Nat} (ht : t ≤ 10) (hr : r ≤ 8) : md_Board_take pl bd (nI t) (nI r) = cr_up (cr_up (cr_up bd 4 r (nI t)) 5 r (bd 3 t)) 3 t (nI r) := by
  unfold md_Board_take
  rw [ps_nI_c (k := t) (by omega), ps_nI_c (k := r) (by omega), pu_up_cell bd r (nI t) (show (3 : Nat) ≠ 4 by decide)]
/-- a task takes a free resource on the class's board -/
theorem ps_tk {pl bd : cr_S} {T R t r : Nat} (h : ps_Bd pl bd T R) (hb : cr_RBoard bd) (hT : T ≤ 10) (hR : R ≤ 8) (hf : ps_fs pl bd R (pl 2 t) (T + 1) t) (t1 : 1 ≤ t) (t2 : t ≤ T) (r1 : 1 ≤ r) (r2 : r ≤ R) (hu : ps_us pl t r) (h0 : bd 4 r = 0) : ps_Bd pl (md_Board_take pl bd (nI t) (nI r)) T R ∧ cr_RBoard (md_Board_take pl bd (nI t) (nI r)) ∧ md_Board_take pl bd (nI t) (nI r) 0 = bd 0 ∧ md_Board_take pl bd (nI t) (nI r) 1 = bd 1 ∧ md_Board_take pl bd (nI t) (nI r) 2 = bd 2 ∧ md_Board_take pl bd (nI t) (nI r) 3 = upd (bd 3) t (nI r) ∧ md_Board_take pl bd (nI t) (nI r) 4 = upd (bd 4) r (nI t) ∧ md_Board_take pl bd (nI t) (nI r) 5 = upd (bd 5) r (bd 3 t) := by
  have rt := ps_nI_t (k := r) (by omega)
  rw [ps_tkE pl bd (by omega) (by omega)]
  have c0 : (cr_up (cr_up (cr_up bd 4 r (nI t)) 5 r (bd 3 t)) 3 t (nI r)) 0 = bd 0 := by simp [cr_up]
  have c1 : (cr_up (cr_up (cr_up bd 4 r (nI t)) 5 r (bd 3 t)) 3 t (nI r)) 1 = bd 1 := by simp [cr_up]
  have c2 : (cr_up (cr_up (cr_up bd 4 r (nI t)) 5 r (bd 3 t)) 3 t (nI r)) 2 = bd 2 := by simp [cr_up]
  have c4 : (cr_up (cr_up (cr_up bd 4 r (nI t)) 5 r (bd 3 t)) 3 t (nI r)) 4 = upd (bd 4) r (nI t) := by simp [cr_up]
  refine ⟨ps_Bd_take h hT hf t1 r1 r2 hu h0 (by rw [c0]) c1 c2 (by rw [c4, ps_us_s]) (fun j hj => by rw [c4, ps_us_n _ _ hj]), ⟨?_, ?_⟩, c0, c1, c2, by simp [cr_up], c4, by simp [cr_up]⟩
  · exact cr_rg_up (cr_rg_up (cr_rg_up hb.1 (fun q => absurd q (by decide))) (fun q => absurd q (by decide))) (fun _ => by omega)
  · exact cr_rg_up (cr_rg_up (cr_rg_up hb.2 (fun q => absurd q (by decide))) (fun _ => hb.1 t)) (fun q => absurd q (by decide))
theorem ps_W_take {N : Nat} {pl bd rf : cr_S} {ln : Nat → Int64} {T R t r : Nat} (h : ps_W N pl bd rf T R) (hP : ps_Pl pl rf ln T R) (hN : N < 512) (hf : ps_fs pl bd R (pl 2 t) (T + 1) t) (t1 : 1 ≤ t) (t2 : t ≤ T) (r1 : 1 ≤ r) (r2 : r ≤ R) (hu : ps_us pl t r) (h0 : bd 4 r = 0) (x : Int32) (hx : (bd 3 t = 0 ∧ x = 1) ∨ (bd 3 t ≠ 0 ∧ x = rf 8 (bd 3 t).toNatClampNeg + 1)) : ps_W (N + 1) pl (md_Board_take pl bd (nI t) (nI r)) (cr_up (cr_up rf 7 r (nI t)) 8 r x) T R ∧ ps_RF rf (cr_up (cr_up rf 7 r (nI t)) 8 r x) ∧ (cr_up (cr_up rf 7 r (nI t)) 8 r x) 5 = rf 5 := by
  obtain ⟨w1, w2, w3, w4, w5, w6, w7, w8, w9⟩ := h
  obtain ⟨a1, a2, -⟩ := hP.1
  obtain ⟨m1, m2, m3, m4, m5, m6, m7, m8⟩ := ps_tk w7 w9 a1 a2 hf t1 t2 r1 r2 hu h0
  have c8 : (cr_up (cr_up rf 7 r (nI t)) 8 r x) 8 = upd (rf 8) r x := by simp [cr_up]
  have k1 : (1 : Int32).toInt = 1 := by decide
  have xs : 1 ≤ x.toInt ∧ x.toInt ≤ ((N + 1 : Nat) : Int) ∧ ∀ j, bd 4 j = nI t → (rf 8 j).toInt < x.toInt := by
    rcases w8.2.1 t t1 (by omega) with ⟨z, w⟩ | ⟨r0, b1, b2, b3, b4, b5⟩
    · rcases hx with ⟨_, q⟩ | ⟨q, _⟩
      · rw [q]
        exact ⟨by omega, by omega, fun j hj => absurd hj (w j)⟩
      · exact absurd z q
    · rcases hx with ⟨q, _⟩ | ⟨_, q⟩
      · rw [b3] at q
        exact absurd q (ps_nz b1 (by omega))
      · rw [b3, ps_nI_c (k := r0) (by omega)] at q
        have n := w8.1 r0 (by rw [b4]; exact ps_nz t1 (by omega))
        have ad : (rf 8 r0 + 1).toInt = (rf 8 r0).toInt + 1 := ps_add1 (N := N) (by omega) n.2 (by omega)
        rw [q, ad]
        refine ⟨by omega, by omega, fun j hj => ?_⟩
        by_cases jr : j = r0
        · rw [jr]
          omega
        · have := b5 j hj jr
          omega
  have ch : ps_Ch (N + 1) (md_Board_take pl bd (nI t) (nI r)) ((cr_up (cr_up rf 7 r (nI t)) 8 r x) 8) := by
    rw [c8]
    refine ps_Ch_take w8 t1 (by omega) r1 (by omega) h0 (by rw [m6, ps_us_s]) (fun u hu => by rw [m6, ps_us_n _ _ hu]) (by rw [m7, ps_us_s]) (fun j hj => by rw [m7, ps_us_n _ _ hj]) (by rw [m8, ps_us_s]) (fun j hj => by rw [m8, ps_us_n _ _ hj]) (fun j hj => ps_us_n _ _ hj) ?_ ?_
    · rw [ps_us_s]
      exact ⟨xs.1, xs.2.1⟩
    · rw [ps_us_s]
      exact xs.2.2
  refine ⟨⟨?_, ?_, ?_, ?_, ?_, ?_, m1, ch, m2⟩, ⟨fun k k0 k3 k4 k5 k7 k8 => ?_, fun j hj => ?_⟩, by simp [cr_up]⟩
  · rw [m4, w1]
    simp [cr_up]
  · rw [m5, w2]
    simp [cr_up]
  · rw [m3, w3]
    simp [cr_up]
  · rw [m7, w4]
    simp [cr_up]
  · rw [m3]
    exact w5
  · rw [m3]
    omega
  · simp [cr_up, k7, k8]
  · simp [cr_up]
theorem ps_W_give {N : Nat} {pl bd rf : cr_S} {ln : Nat → Int64} {T R t r : Nat} (h : ps_W N pl bd rf T R) (hP : ps_Pl pl rf ln T R) (t1 : 1 ≤ t) (t2 : t ≤ T) (r1 : 1 ≤ r) (r2 : r ≤ 8) (e : bd 3 t = nI r) : ps_W (N + 1) pl (md_Board_giveBackLast pl bd (nI t)) (cr_up rf 7 r 0) T R ∧ ps_RF rf (cr_up rf 7 r 0) ∧ (cr_up rf 7 r 0) 5 = rf 5 := by
  obtain ⟨w1, w2, w3, w4, w5, w6, w7, w8, w9⟩ := h
  obtain ⟨a1, a2, -⟩ := hP.1
  have er : bd 4 r = nI t := by
    rcases w8.2.1 t t1 (by omega) with ⟨z, w⟩ | ⟨r0, b1, b2, b3, b4, b5⟩
    · rw [e] at z
      exact absurd z (ps_nz r1 (by omega))
    · rw [ps_inj (e.symm.trans b3) (by omega) (by omega)]
      exact b4
  obtain ⟨g1, g2, g3, g4, g5, g6⟩ := ps_gb pl w8 w9 t1 (by omega) r1 r2 e er
  have nb : ps_Bd pl (md_Board_giveBackLast pl bd (nI t)) T R := by
    refine ps_Bd_drop w7 a1 (by rw [g3]) g5 (fun j => ?_) (fun u => Or.inl (by rw [g4]))
    rw [g6]
    by_cases w : j = r
    · rw [w, ps_us_s]
      exact Or.inr rfl
    · rw [ps_us_n _ _ w]
      exact Or.inl rfl
  have c8 : (cr_up rf 7 r 0) 8 = rf 8 := by simp [cr_up]
  refine ⟨⟨?_, ?_, ?_, ?_, ?_, ?_, nb, by rw [c8]; exact ps_Ch_mono g1, g2⟩, ⟨fun k k0 k3 k4 k5 k7 k8 => ?_, fun j hj => ?_⟩, by simp [cr_up]⟩
  · rw [g4, w1]
    simp [cr_up]
  · rw [g5, w2]
    simp [cr_up]
  · rw [g3, w3]
    simp [cr_up]
  · rw [g6, w4]
    simp [cr_up]
  · rw [g3]
    exact w5
  · rw [g3]
    omega
  · simp [cr_up, k7]
  · simp [cr_up]
/-- the reference's sweep over what a task holds -/
theorem ps_swL (lat : Int64) (ln : Nat → Int64) {t R : Nat} (hR : R ≤ 8) (x2 x3 w4 : Int32) : ∀ (d k : Nat) (rf : cr_S), rf 0 2 = nI R → 1 ≤ k → k ≤ R + 1 → 9 < d + k → (lo_Ref_acts_241 lat ln (nI t) x2 x3 w4 d rf (nI k)).1 = (if w4 ≤ 0 then 1 else -14) ∧ (∀ c, c ≠ 7 → (lo_Ref_acts_241 lat ln (nI t) x2 x3 w4 d rf (nI k)).2 c = rf c) ∧ ∀ j, (lo_Ref_acts_241 lat ln (nI t) x2 x3 w4 d rf (nI k)).2 7 j = if k ≤ j ∧ j ≤ R ∧ rf 7 j = nI t then 0 else rf 7 j
  | 0, k, rf, _, _, a, b => absurd b (by omega)
  | d + 1, k, rf, e0, h1, hk, hd => by
    have kt := ps_nI_t (k := k) (by omega)
    have Rt := ps_nI_t (k := R) (by omega)
    rw [lo_Ref_acts_241, e0]
    by_cases e : k = R + 1
    · have lt : nI R < nI k := by rw [pu_lt]; omega
      rw [if_pos lt]
      have no : ∀ j, ¬ (k ≤ j ∧ j ≤ R ∧ rf 7 j = nI t) := fun j q => absurd q.1 (by omega)
      by_cases c : w4 ≤ 0
      · rw [if_pos c, if_pos c]
        exact ⟨rfl, fun _ _ => rfl, fun j => (if_neg (no j)).symm⟩
      · rw [if_neg c, if_neg c]
        exact ⟨rfl, fun _ _ => rfl, fun j => (if_neg (no j)).symm⟩
    · have nlt : ¬ nI R < nI k := by rw [pu_lt]; omega
      rw [if_neg nlt, ps_nI_c (k := k) (by omega), show nI k + 1 = nI (k + 1) from nI_1 k]
      have a1 : 1 ≤ k + 1 := by omega
      have a2 : k + 1 ≤ R + 1 := by omega
      have a3 : 9 < d + (k + 1) := by omega
      have ih := fun (v : Int32) => ps_swL lat ln (t := t) hR x2 x3 w4 d (k + 1) (cr_up rf 7 k v) (by rw [← e0]; simp [cr_up]) a1 a2 a3
      have fin : ∀ v : Int32, v = (if rf 7 k = nI t then 0 else rf 7 k) → (lo_Ref_acts_241 lat ln (nI t) x2 x3 w4 d (cr_up rf 7 k v) (nI (k + 1))).1 = (if w4 ≤ 0 then 1 else -14) ∧ (∀ c, c ≠ 7 → (lo_Ref_acts_241 lat ln (nI t) x2 x3 w4 d (cr_up rf 7 k v) (nI (k + 1))).2 c = rf c) ∧ ∀ j, (lo_Ref_acts_241 lat ln (nI t) x2 x3 w4 d (cr_up rf 7 k v) (nI (k + 1))).2 7 j = if k ≤ j ∧ j ≤ R ∧ rf 7 j = nI t then 0 else rf 7 j := fun v hv => by
        obtain ⟨i1, i2, i3⟩ := ih v
        refine ⟨i1, fun c hc => ?_, fun j => ?_⟩
        · rw [i2 c hc, pu_up_cell rf k v hc]
        · rw [i3 j, pu_up_fn]
          by_cases w : j = k
          · subst w
            rw [ps_us_s, if_neg (show ¬ (j + 1 ≤ j ∧ j ≤ R ∧ v = nI t) from fun q => absurd q.1 (by omega)), hv]
            by_cases c : rf 7 j = nI t
            · rw [if_pos c, if_pos (show j ≤ j ∧ j ≤ R ∧ rf 7 j = nI t from ⟨Nat.le_refl _, by omega, c⟩)]
            · rw [if_neg c, if_neg (show ¬ (j ≤ j ∧ j ≤ R ∧ rf 7 j = nI t) from fun q => c q.2.2)]
          · rw [ps_us_n _ _ w]
            by_cases c : k ≤ j ∧ j ≤ R ∧ rf 7 j = nI t
            · rw [if_pos c, if_pos (show k + 1 ≤ j ∧ j ≤ R ∧ rf 7 j = nI t from ⟨by omega, c.2⟩)]
            · rw [if_neg c, if_neg (show ¬ (k + 1 ≤ j ∧ j ≤ R ∧ rf 7 j = nI t) from fun q => c ⟨by omega, q.2⟩)]
      by_cases c : rf 7 k = nI t
      · rw [if_pos c]
        exact fin 0 (by rw [if_pos c])
      · rw [if_neg c]
        exact fin (rf 7 k) (by rw [if_neg c])
