/-! the relation: ranges, the other calls, the beginning -/
theorem ps_ranges (N : Nat) (mn : cr_S) (lt : Int64) (pl bd lk tr tb rf : cr_S) (lat : Int64) (ln : Nat → Int64) (h : ps_Sim N mn lt pl bd lk tr tb rf lat ln) : cr_RPlan pl ∧ cr_RBoard bd ∧ cr_RLocks lk ∧ cr_RBoard tb ∧ cr_RRef rf := by
  obtain ⟨T, R, hP, hW, hL, hm, hl, h0, hb, hh⟩ := h
  obtain ⟨⟨a1, a2, a3, a4, a5, a6, a7, a8, a9⟩, -⟩ := id hP
  obtain ⟨l1, l2, l3, l4, l5⟩ := hL.1
  have Tt := ps_nI_t (k := T) (by omega)
  have Rt := ps_nI_t (k := R) (by omega)
  have b : ∀ (f g : cr_S) (i j : Nat) (m : Int), f i = g j → cr_rg f i m → cr_rg g j m := fun f g i j m e q k => by
    rw [← e]
    exact q k
  refine ⟨⟨?_, ?_, a9⟩, hW.2.2.2.2.2.2.2.2, ⟨l3, l4⟩, hb.1, ?_, ?_, b pl rf 2 2 3 a8 a9, b lk rf 1 9 3 l1 l3, b lk rf 2 11 8 l2 l4, hh⟩
  · unfold cr_rf
    rw [a3]
    omega
  · unfold cr_rf
    rw [a5]
    omega
  · unfold cr_rf
    rw [a4]
    omega
  · unfold cr_rf
    rw [a6]
    omega
theorem ps_lockS (N : Nat) (mn : cr_S) (lt : Int64) (pl bd lk tr tb rf : cr_S) (lat : Int64) (ln : Nat → Int64) (y0 y1 : Int32) (hN : N < 512) (h : ps_Sim N mn lt pl bd lk tr tb rf lat ln) : (md_Main_lock mn lt pl bd lk tr tb y0 y1).1 = (md_Ref_lock rf lat ln y0 y1).1 ∧ ps_Sim (N + 1) mn lt pl bd (md_Main_lock mn lt pl bd lk tr tb y0 y1).2 tr tb (md_Ref_lock rf lat ln y0 y1).2 lat ln := by
  obtain ⟨T, R, hP, hW, hL, hm, hl, h0, hb, hh⟩ := h
  obtain ⟨e1, e2, e3⟩ := ps_lock hL hN mn lt pl bd tr tb lat ln y0 y1
  have f := e3.1
  refine ⟨e1, T, R, ps_Pl_F hP (e3.2 0 (by decide)) (e3.2 2 (by decide)) (f 1 (by decide) (by decide) (by decide) (by decide) (by decide)) (f 2 (by decide) (by decide) (by decide) (by decide) (by decide)), ps_W_cells (ps_W_mono hW) (f 3 (by decide) (by decide) (by decide) (by decide) (by decide)) (f 4 (by decide) (by decide) (by decide) (by decide) (by decide)) (e3.2 1 (by decide)) (f 7 (by decide) (by decide) (by decide) (by decide) (by decide)) (f 8 (by decide) (by decide) (by decide) (by decide) (by decide)), e2, ?_, hl, h0, hb, ps_rh_F hh (f 16 (by decide) (by decide) (by decide) (by decide) (by decide))⟩
  rw [f 5 (by decide) (by decide) (by decide) (by decide) (by decide)]
  exact hm
theorem ps_init : ps_Sim 0 (fun _ _ => 0) 0 (fun _ _ => 0) (fun _ _ => 0) (fun _ _ => 0) (fun _ _ => 0) (fun _ _ => 0) (fun _ _ => 0) 0 (fun _ => 0) := by
  have z3 : 0 ≤ (0 : Int32).toInt ∧ (0 : Int32).toInt ≤ 3 := by decide
  have z8 : 0 ≤ (0 : Int32).toInt ∧ (0 : Int32).toInt ≤ 8 := by decide
  have zi : (0 : Int32).toInt = 0 := by decide
  have z64 : (0 : Int64) = (0 : Int32).toInt64 := by decide
  have zm : -1 ≤ (0 : Int32).toInt ∧ (0 : Int32).toInt ≤ 8 := by decide
  have zk : (0 : Int32).toInt ≤ 1000 := by decide
  have n01 : ¬ (0 : Int32) = 1 := by decide
  have nu : ∀ t r, ¬ ps_us (fun _ _ => 0) t r := fun t r q => by
    have q' : 0 < (0 : Int32).toInt := q
    omega
  refine ⟨0, 0, ⟨⟨by omega, by omega, rfl, rfl, rfl, rfl, rfl, rfl, fun _ => z3⟩, fun t r _ _ => ⟨z64, z8.1, zk⟩, fun t t1 t2 => absurd t2 (by omega), fun t r _ _ q => absurd q (nu t r), fun r _ => ⟨z8.1, fun t t1 t2 => absurd t2 (by omega), Or.inl zi⟩, fun r _ => Or.inl ⟨rfl, fun t _ => nu t r⟩⟩, ⟨rfl, rfl, rfl, rfl, by decide, by decide, ⟨fun t => Or.inl rfl, fun t q => absurd q n01, fun t u q => absurd q n01, fun j => Or.inl rfl, fun a b j q1 q2 => absurd q2 (by omega), fun a b i j _ q1 q2 => absurd q2 (by omega)⟩, ⟨fun j q => absurd rfl q, fun t t1 t2 => Or.inl ⟨rfl, fun j q => ps_nz t1 (by omega) q.symm⟩, fun r t t1 t2 q => absurd q.symm (ps_nz t1 (by omega))⟩, fun _ => z8, fun _ => z8⟩, ?_, rfl, rfl, by decide, ⟨⟨fun _ => z8, fun _ => z8⟩, fun _ _ => rfl, fun _ _ => rfl, fun _ _ => rfl⟩, fun _ => zm⟩
  refine ⟨⟨rfl, rfl, fun _ => z3, fun _ => z8, rfl⟩, fun n m _ _ _ _ q => absurd rfl q, fun c d _ _ _ _ q => absurd rfl q, ⟨by decide, by decide, by decide, by decide⟩, fun c _ _ q => absurd rfl q, fun n _ _ q => absurd rfl q, fun c n _ _ _ _ q => absurd rfl q⟩
