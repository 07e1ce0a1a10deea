theorem cr_cmp (x : Int64) : lg_cmp x x = 0 := by
  unfold lg_cmp
  rw [if_neg (by rw [gt_iff_lt, Int64.lt_iff_toInt_lt]; omega), if_pos rfl]
set_option maxHeartbeats 16000000 in
set_option maxRecDepth 100000 in
theorem law_open {p : Program} {l : Launch} {e : Env} {s : State} {m : MethodId} {below : List Frame} {meth : Method} {c : Code} {dC : Nat → ClassId} {dI : Nat → Nat → Nat} {cI cZ cO cJ : ClassId} {amn apl abd alk atr atb arf : Nat → Nat} {b L : Nat} {xs : Nat → Int32} (hL : L ≤ 3072) (C0 : lw_At p s m meth c b L xs) (Sim : Nat → cr_S → Int64 → cr_S → cr_S → cr_S → cr_S → cr_S → cr_S → Int64 → (Nat → Int64) → Prop) (hRs : ∀ (N : Nat) (mn : cr_S) (lt : Int64) (pl : cr_S) (bd : cr_S) (lk : cr_S) (tr : cr_S) (tb : cr_S) (rf : cr_S) (lat : Int64) (ln : (Nat → Int64)), Sim N mn lt pl bd lk tr tb rf lat ln → cr_RPlan pl ∧ cr_RBoard bd ∧ cr_RLocks lk ∧ cr_RBoard tb ∧ cr_RRef rf) (s_skip : ∀ (N : Nat) (mn : cr_S) (lt : Int64) (pl : cr_S) (bd : cr_S) (lk : cr_S) (tr : cr_S) (tb : cr_S) (rf : cr_S) (lat : Int64) (ln : (Nat → Int64)), Sim N mn lt pl bd lk tr tb rf lat ln → Sim (N + 1) mn lt pl bd lk tr tb rf lat ln) (s_task : ∀ (N : Nat) (mn : cr_S) (lt : Int64) (pl : cr_S) (bd : cr_S) (lk : cr_S) (tr : cr_S) (tb : cr_S) (rf : cr_S) (lat : Int64) (ln : (Nat → Int64)) (y0 : Int32) (y1 : Int32), N < 512 → Sim N mn lt pl bd lk tr tb rf lat ln → (md_Main_task mn lt pl bd lk tr tb y0 y1).1 = (md_Ref_task rf lat ln y0 y1).1 ∧ Sim (N + 1) mn lt ((md_Main_task mn lt pl bd lk tr tb y0 y1).2) bd lk tr tb ((md_Ref_task rf lat ln y0 y1).2) lat ln) (s_resource : ∀ (N : Nat) (mn : cr_S) (lt : Int64) (pl : cr_S) (bd : cr_S) (lk : cr_S) (tr : cr_S) (tb : cr_S) (rf : cr_S) (lat : Int64) (ln : (Nat → Int64)), N < 512 → Sim N mn lt pl bd lk tr tb rf lat ln → (md_Main_resource mn lt pl bd lk tr tb).1 = (md_Ref_resource rf lat ln).1 ∧ Sim (N + 1) mn lt ((md_Main_resource mn lt pl bd lk tr tb).2) bd lk tr tb ((md_Ref_resource rf lat ln).2) lat ln) (s_uses : ∀ (N : Nat) (mn : cr_S) (lt : Int64) (pl : cr_S) (bd : cr_S) (lk : cr_S) (tr : cr_S) (tb : cr_S) (rf : cr_S) (lat : Int64) (ln : (Nat → Int64)) (y0 : Int32) (y1 : Int32) (y2 : Int64), N < 512 → Sim N mn lt pl bd lk tr tb rf lat ln → (md_Main_uses mn lt pl bd lk tr tb y0 y1 y2).1 = (md_Ref_uses rf lat ln y0 y1 y2).1 ∧ Sim (N + 1) mn lt ((md_Main_uses mn lt pl bd lk tr tb y0 y1 y2).2) bd lk tr tb rf lat ((md_Ref_uses rf lat ln y0 y1 y2).2)) (s_ceiling : ∀ (N : Nat) (mn : cr_S) (lt : Int64) (pl : cr_S) (bd : cr_S) (lk : cr_S) (tr : cr_S) (tb : cr_S) (rf : cr_S) (lat : Int64) (ln : (Nat → Int64)) (y0 : Int32), N < 512 → Sim N mn lt pl bd lk tr tb rf lat ln → (md_Main_ceiling mn lt pl bd lk tr tb y0) = (md_Ref_ceiling rf lat ln y0)) (s_step : ∀ (N : Nat) (mn : cr_S) (lt : Int64) (pl : cr_S) (bd : cr_S) (lk : cr_S) (tr : cr_S) (tb : cr_S) (rf : cr_S) (lat : Int64) (ln : (Nat → Int64)) (y0 : Int32) (y1 : Int32) (y2 : Int32) (y3 : Int64), N < 512 → Sim N mn lt pl bd lk tr tb rf lat ln → (md_Main_step mn lt pl bd lk tr tb y0 y1 y2 y3).1 = (md_Ref_step rf lat ln y0 y1 y2 y3).1 ∧ Sim (N + 1) ((md_Main_step mn lt pl bd lk tr tb y0 y1 y2 y3).2.1) ((md_Main_step mn lt pl bd lk tr tb y0 y1 y2 y3).2.2.1) pl ((md_Main_step mn lt pl bd lk tr tb y0 y1 y2 y3).2.2.2) lk tr tb ((md_Ref_step rf lat ln y0 y1 y2 y3).2.1) ((md_Ref_step rf lat ln y0 y1 y2 y3).2.2) ln) (s_rank : ∀ (N : Nat) (mn : cr_S) (lt : Int64) (pl : cr_S) (bd : cr_S) (lk : cr_S) (tr : cr_S) (tb : cr_S) (rf : cr_S) (lat : Int64) (ln : (Nat → Int64)) (y0 : Int32), N < 512 → Sim N mn lt pl bd lk tr tb rf lat ln → (md_Main_rank mn lt pl bd lk tr tb y0) = (md_Ref_rank rf lat ln y0)) (s_holder : ∀ (N : Nat) (mn : cr_S) (lt : Int64) (pl : cr_S) (bd : cr_S) (lk : cr_S) (tr : cr_S) (tb : cr_S) (rf : cr_S) (lat : Int64) (ln : (Nat → Int64)) (y0 : Int32), N < 512 → Sim N mn lt pl bd lk tr tb rf lat ln → (md_Main_holder mn lt pl bd lk tr tb y0) = (md_Ref_holder rf lat ln y0)) (s_blocking : ∀ (N : Nat) (mn : cr_S) (lt : Int64) (pl : cr_S) (bd : cr_S) (lk : cr_S) (tr : cr_S) (tb : cr_S) (rf : cr_S) (lat : Int64) (ln : (Nat → Int64)) (y0 : Int32), N < 512 → Sim N mn lt pl bd lk tr tb rf lat ln → (md_Main_blocking mn lt pl bd lk tr tb y0) = (md_Ref_blocking rf lat ln y0)) (s_lock : ∀ (N : Nat) (mn : cr_S) (lt : Int64) (pl : cr_S) (bd : cr_S) (lk : cr_S) (tr : cr_S) (tb : cr_S) (rf : cr_S) (lat : Int64) (ln : (Nat → Int64)) (y0 : Int32) (y1 : Int32), N < 512 → Sim N mn lt pl bd lk tr tb rf lat ln → (md_Main_lock mn lt pl bd lk tr tb y0 y1).1 = (md_Ref_lock rf lat ln y0 y1).1 ∧ Sim (N + 1) mn lt pl bd ((md_Main_lock mn lt pl bd lk tr tb y0 y1).2) tr tb ((md_Ref_lock rf lat ln y0 y1).2) lat ln) (s_ring : ∀ (N : Nat) (mn : cr_S) (lt : Int64) (pl : cr_S) (bd : cr_S) (lk : cr_S) (tr : cr_S) (tb : cr_S) (rf : cr_S) (lat : Int64) (ln : (Nat → Int64)), N < 512 → Sim N mn lt pl bd lk tr tb rf lat ln → (md_Main_ring mn lt pl bd lk tr tb) = (md_Ref_ring rf lat ln)) (s_lower : ∀ (N : Nat) (mn : cr_S) (lt : Int64) (pl : cr_S) (bd : cr_S) (lk : cr_S) (tr : cr_S) (tb : cr_S) (rf : cr_S) (lat : Int64) (ln : (Nat → Int64)) (y0 : Int32) (y1 : Int32), N < 512 → Sim N mn lt pl bd lk tr tb rf lat ln → (md_Main_lower mn lt pl bd lk tr tb y0 y1) = (md_Ref_lower rf lat ln y0 y1)) (s_plain : ∀ (N : Nat) (mn : cr_S) (lt : Int64) (pl : cr_S) (bd : cr_S) (lk : cr_S) (tr : cr_S) (tb : cr_S) (rf : cr_S) (lat : Int64) (ln : (Nat → Int64)) (y0 : Int64), N < 512 → Sim N mn lt pl bd lk tr tb rf lat ln → (md_Main_plain mn lt pl bd lk tr tb y0).1 = (md_Ref_plain rf lat ln y0).1 ∧ Sim (N + 1) mn lt pl bd lk ((md_Main_plain mn lt pl bd lk tr tb y0).2.1) ((md_Main_plain mn lt pl bd lk tr tb y0).2.2) ((md_Ref_plain rf lat ln y0).2) lat ln) :
    ∀ (n k : Nat), 512 < n + k → 6 * k ≤ L → ∀ (mn : cr_S) (lt : Int64) (pl : cr_S) (bd : cr_S) (lk : cr_S) (tr : cr_S) (tb : cr_S) (rf : cr_S) (lat : Int64) (ln : (Nat → Int64)), Sim k mn lt pl bd lk tr tb rf lat ln → ∀ (H : Heap) (locs : List Loc), va_K (dC, dI) vwCl [(cI, .int), (cZ, .boolean), (cO, .array .int), (cJ, .long)] s → va_P (dC, dI) vwCl (cw_Main cI cZ cO amn apl abd alk atr mn lt ++ cw_Plan cI cZ cO apl pl ++ cw_Board cI cZ cO abd apl bd ++ cw_Locks cI cZ cO alk lk ++ cw_Trial cI cZ cO atr apl atb tr ++ cw_Board cI cZ cO atb apl tb ++ cw_Ref cI cZ cJ arf rf lat ln) H → va_D (fun q : Nat => s.heap.size ≤ q) (cw_Main cI cZ cO amn apl abd alk atr mn lt ++ cw_Plan cI cZ cO apl pl ++ cw_Board cI cZ cO abd apl bd ++ cw_Locks cI cZ cO alk lk ++ cw_Trial cI cZ cO atr apl atb tr ++ cw_Board cI cZ cO atb apl tb ++ cw_Ref cI cZ cJ arf rf lat ln) → va_S (fun q : Nat => s.heap.size ≤ q) s.heap H locs → ∀ ls : Array Slot, lv_has ls 4 [(0, .ref b), (1, .ref (amn 0)), (2, .ref (arf 0)), (3, .int (nI (6 * k)))] → W p l e room_1 s m #[Value.ref b] below meth c H locs 600000 7302250 (lw_Z below #[Value.ref b] s) (F0 m 18 ls []) := by
  obtain ⟨hx, hb, hr, hml, hown, hts0, hX, hbl, hlocks, hgv⟩ := C0
  have hts : ∀ w ∈ ng_tbl, w.before #[Value.ref b] s = true := fun w h => hts0 w (ng_sub w h)
  have hA : ∀ q : Nat, s.heap.size ≤ q → (fun q : Nat => s.heap.size ≤ q) q := fun _ h => h
  have hbA : ¬ (fun q : Nat => s.heap.size ≤ q) b := Nat.not_le.mpr hbl
  have k_0 : (0 : Int32).toInt = 0 := by decide
  have k_1 : (1 : Int32).toInt = 1 := by decide
  have k_2 : (2 : Int32).toInt = 2 := by decide
  have k_3 : (3 : Int32).toInt = 3 := by decide
  have k_4 : (4 : Int32).toInt = 4 := by decide
  have k_5 : (5 : Int32).toInt = 5 := by decide
  have k_6 : (6 : Int32).toInt = 6 := by decide
  have k_7 : (7 : Int32).toInt = 7 := by decide
  have k_8 : (8 : Int32).toInt = 8 := by decide
  have k_9 : (9 : Int32).toInt = 9 := by decide
  have k_10 : (10 : Int32).toInt = 10 := by decide
  have k_11 : (11 : Int32).toInt = 11 := by decide
  have k_15 : (15 : Int32).toInt = 15 := by decide
  have k_32 : (32 : Int32).toInt = 32 := by decide
  intro n
  induction n with
  | zero =>
    intro k h1 h2
    exact absurd h1 (by omega)
  | succ n ih =>
    intro k h1 h2 mn lt pl bd lk tr tb rf lat ln hsim H locs hK hP hD hS ls hl
    obtain ⟨hR_pl, hR_bd, hR_lk, hR_tb, hR_rf⟩ := hRs k mn lt pl bd lk tr tb rf lat ln hsim
    have hKc := hK.sub (tys' := [(cI, .int), (cZ, .boolean), (cO, .array .int)]) [0, 1, 2] rfl
    have hKr := hK.sub (tys' := [(cI, .int), (cZ, .boolean), (cJ, .long)]) [0, 1, 3] rfl
    have e_k : (nI (6 * k)).toInt = ((6 * k : Nat) : Int) := nI_toInt (by omega)
    have e_L : (Int32.ofNat L).toInt = ((L : Nat) : Int) := nI_toInt (n := L) (by omega)
    refine lv_iload_n hx hb nd_Law_law_18 rfl (lv_at hl 3 rfl) ?_
    refine lv_aload_n hx hb nd_Law_law_19 rfl (lv_at hl 0 rfl) ?_
    refine va_slen hx hb hX hbl hbA hS nd_Law_law_20 ?_
    refine lv_bipush (v := 6) hx hb nd_Law_law_21 (by decide) ?_
    refine lv_isub hx hb nd_Law_law_23 ?_
    have e_1 : ((Int32.ofNat L) - (6 : Int32)).toInt = (Int32.ofNat L).toInt - (6 : Int32).toInt := cr_sub (by omega)
    refine lv_icmp_gt (tgt := 529) hx hb nd_Law_law_24 (by decide) (fun c_0 => ?_) (fun c_0 => ?_)
    · refine lv_iconst (v := 1) hx hb nd_Law_law_529 (by decide) ?_
      refine va_forget (fun q hq => hS.2.2 q hq) ?_
      exact lw_ret hx hb hr hlocks nd_Law_law_530
    have c_0t := cr_nlt c_0
    refine lv_aload_n hx hb nd_Law_law_27 rfl (lv_at hl 0 rfl) ?_
    refine lv_iload_n hx hb nd_Law_law_28 rfl (lv_at hl 3 rfl) ?_
    have b_2 : vp_in (nI (6 * k)) L := vp_in_iff.mpr (by omega)
    refine va_sld hx hb hX hbl hbA hS b_2 nd_Law_law_29 ?_
    refine lv_bipush (v := 15) hx hb nd_Law_law_30 (by decide) ?_
    refine lv_iand hx hb nd_Law_law_32 ?_
    by_cases c_3 : ((xs (nI (6 * k)).toNatClampNeg) &&& (15 : Int32)) = 0
    · have c_3t := cr_eq c_3
      refine lv_tableIn (tgt := 96) hx hb nd_Law_law_33 (by omega) (by omega) (by rw [show (((xs (nI (6 * k)).toNatClampNeg) &&& (15 : Int32)).toInt - 0).toNat = 0 by omega]; rfl) (by decide) ?_
      refine lv_aload_n hx hb nd_Law_law_96 rfl (lv_at hl 1 rfl) ?_
      refine lv_aload_n hx hb nd_Law_law_97 rfl (lv_at hl 0 rfl) ?_
      refine lv_iload_n hx hb nd_Law_law_98 rfl (lv_at hl 3 rfl) ?_
      refine lv_iconst (v := 1) hx hb nd_Law_law_99 (by decide) ?_
      refine lv_iadd hx hb nd_Law_law_100 ?_
      have e_4 : ((nI (6 * k)) + (1 : Int32)).toInt = (nI (6 * k)).toInt + (1 : Int32).toInt := cr_add (by omega)
      have b_5 : vp_in ((nI (6 * k)) + (1 : Int32)) L := vp_in_iff.mpr (by omega)
      refine va_sld hx hb hX hbl hbA hS b_5 nd_Law_law_101 ?_
      refine lv_aload_n hx hb nd_Law_law_102 rfl (lv_at hl 0 rfl) ?_
      refine lv_iload_n hx hb nd_Law_law_103 rfl (lv_at hl 3 rfl) ?_
      refine lv_iconst (v := 2) hx hb nd_Law_law_104 (by decide) ?_
      refine lv_iadd hx hb nd_Law_law_105 ?_
      have e_6 : ((nI (6 * k)) + (2 : Int32)).toInt = (nI (6 * k)).toInt + (2 : Int32).toInt := cr_add (by omega)
      have b_7 : vp_in ((nI (6 * k)) + (2 : Int32)) L := vp_in_iff.mpr (by omega)
      refine va_sld hx hb hX hbl hbA hS b_7 nd_Law_law_106 ?_
      have hPc := cr_PL hP
      have hDc := cr_DL hD
      have hFc := cr_FW hDc hS hA
      refine va_calli (va_runV (As := [.int (xs ((nI (6 * k)) + (1 : Int32)).toNatClampNeg), .int (xs ((nI (6 * k)) + (2 : Int32)).toNatClampNeg)]) (rest := []) ⟨hx, hb, hml, hown, hts⟩ (ct_Main_task l dC dI cI cZ cO amn apl abd alk atr atb H.size mn lt pl bd lk tr tb (xs ((nI (6 * k)) + (1 : Int32)).toNatClampNeg) (xs ((nI (6 * k)) + (2 : Int32)).toNatClampNeg) hR_tb hR_lk hR_bd hR_pl) (cwV 2 hts (ng_V tw_158 tw_159 tw_160 tw_1 tw_161) rfl rfl rfl (by decide +kernel) ⟨Nat.le_of_ble_eq_true rfl, Nat.le_of_ble_eq_true rfl⟩) ⟨fun a U g mk q => by obtain ⟨q0, q1, qP, qK, qD⟩ := q; exact ⟨q0, q1, qP, va_K.moved (u := U) (U := U.calling g mk a) (Vm.Alike.refl U.vm) qK, qD⟩, va_recv hKc hPc (ci := 4) (q0 := 0) rfl rfl, fun U hU hW => ⟨rfl, by rw [hU], by rw [hU]; exact hPc, va_K.moved hW.alike hKc, hDc.weaken (fun _ _ _ _ => trivial)⟩⟩ rfl rfl hl.1 rfl (lv_room (Nat.le_of_ble_eq_true rfl)) nd_Law_law_107 ⟨Nat.le_of_ble_eq_true rfl, Nat.le_of_ble_eq_true rfl⟩) hS (fun q _ h => hFc q h) hFc (fun r_8 u t H1 locs ht hvm hw hB hz1 hk1 hS => ?_)
      obtain ⟨hP1, hK1, hD1⟩ := hB
      rw [ht] at hP1
      obtain ⟨plq_10, rfl⟩ : ∃ z, z = u := ⟨_, rfl⟩
      obtain ⟨w_9, w_11, hR_12⟩ := hw
      obtain ⟨hP, hD⟩ := cr_jL hP hD hk1 hFc hP1 hD1
      generalize H1 = H at hP hS ⊢
      refine lv_aload_n hx hb nd_Law_law_110 rfl (lv_at hl 2 rfl) ?_
      refine lv_aload_n hx hb nd_Law_law_111 rfl (lv_at hl 0 rfl) ?_
      refine lv_iload_n hx hb nd_Law_law_112 rfl (lv_at hl 3 rfl) ?_
      refine lv_iconst (v := 1) hx hb nd_Law_law_113 (by decide) ?_
      refine lv_iadd hx hb nd_Law_law_114 ?_
      have e_13 : ((nI (6 * k)) + (1 : Int32)).toInt = (nI (6 * k)).toInt + (1 : Int32).toInt := cr_add (by omega)
      have b_14 : vp_in ((nI (6 * k)) + (1 : Int32)) L := vp_in_iff.mpr (by omega)
      refine va_sld hx hb hX hbl hbA hS b_14 nd_Law_law_115 ?_
      refine lv_aload_n hx hb nd_Law_law_116 rfl (lv_at hl 0 rfl) ?_
      refine lv_iload_n hx hb nd_Law_law_117 rfl (lv_at hl 3 rfl) ?_
      refine lv_iconst (v := 2) hx hb nd_Law_law_118 (by decide) ?_
      refine lv_iadd hx hb nd_Law_law_119 ?_
      have e_15 : ((nI (6 * k)) + (2 : Int32)).toInt = (nI (6 * k)).toInt + (2 : Int32).toInt := cr_add (by omega)
      have b_16 : vp_in ((nI (6 * k)) + (2 : Int32)) L := vp_in_iff.mpr (by omega)
      refine va_sld hx hb hX hbl hbA hS b_16 nd_Law_law_120 ?_
      have hPc := cr_PR hP
      have hDc := cr_DR hD
      have hFc := cr_FW hDc hS hA
      refine va_calli (va_runV (As := [.int (xs ((nI (6 * k)) + (1 : Int32)).toNatClampNeg), .int (xs ((nI (6 * k)) + (2 : Int32)).toNatClampNeg)]) (rest := [.int r_8]) ⟨hx, hb, hml, hown, hts⟩ (ct_Ref_task l dC dI cI cZ cJ arf H.size rf lat ln (xs ((nI (6 * k)) + (1 : Int32)).toNatClampNeg) (xs ((nI (6 * k)) + (2 : Int32)).toNatClampNeg) hR_rf) (cwV 2 hts (ng_V tw_481 tw_482 tw_483 tw_6 tw_484) rfl rfl rfl (by decide +kernel) ⟨Nat.le_of_ble_eq_true rfl, Nat.le_of_ble_eq_true rfl⟩) ⟨fun a U g mk q => by obtain ⟨q0, q1, qP, qK, qD⟩ := q; exact ⟨q0, q1, qP, va_K.moved (u := U) (U := U.calling g mk a) (Vm.Alike.refl U.vm) qK, qD⟩, va_recv hKr hPc (ci := 5) (q0 := 0) rfl rfl, fun U hU hW => ⟨rfl, by rw [hU], by rw [hU]; exact hPc, va_K.moved hW.alike hKr, hDc.weaken (fun _ _ _ _ => trivial)⟩⟩ rfl rfl hl.1 rfl (lv_room (Nat.le_of_ble_eq_true rfl)) nd_Law_law_121 ⟨Nat.le_of_ble_eq_true rfl, Nat.le_of_ble_eq_true rfl⟩) hS (fun q _ h => hFc q h) hFc (fun r_17 u t H1 locs ht hvm hw hB hz1 hk1 hS => ?_)
      obtain ⟨hP1, hK1, hD1⟩ := hB
      rw [ht] at hP1
      obtain ⟨rfq_19, rfl⟩ : ∃ z, z = u := ⟨_, rfl⟩
      obtain ⟨w_18, w_20, hR_21⟩ := hw
      obtain ⟨hP, hD⟩ := cr_jR hP hD hk1 hFc hP1 hD1
      generalize H1 = H at hP hS ⊢
      have hs9 := s_task k mn lt pl bd lk tr tb rf lat ln (xs ((nI (6 * k)) + (1 : Int32)).toNatClampNeg) (xs ((nI (6 * k)) + (2 : Int32)).toNatClampNeg) (by omega) hsim
      try rw [← w_9] at hs9
      try rw [← w_11] at hs9
      try rw [← w_18] at hs9
      try rw [← w_20] at hs9
      obtain ⟨heq, hsim⟩ := hs9
      refine lv_icmp_eq (tgt := 523) hx hb nd_Law_law_124 (by decide) (fun c_9 => ?_) (fun c_9 => absurd heq c_9)
      refine lv_iinc (v := nI (6 * (k + 1))) (lv' := [(3, .int (nI (6 * (k + 1)))), (0, .ref b), (1, .ref (amn 0)), (2, .ref (arf 0))]) hx hb nd_Law_law_523 hl (k := 3) rfl (by rw [show (Int32.ofInt 6) = nI 6 by decide, nI_add]; congr 1) (by decide) rfl (fun ls hl => ?_)
      refine lv_goto (tgt := 18) hx hb nd_Law_law_526 (by decide) ?_
      exact ih (k + 1) (by omega) (by omega) mn lt plq_10 bd lk tr tb rfq_19 lat ln hsim _ _ hK hP hD hS _ (lv_sub hl [1, 2, 3, 0] rfl)
    have c_3t := cr_ne c_3
    by_cases c_22 : ((xs (nI (6 * k)).toNatClampNeg) &&& (15 : Int32)) = 1
    · have c_22t := cr_eq c_22
      refine lv_tableIn (tgt := 129) hx hb nd_Law_law_33 (by omega) (by omega) (by rw [show (((xs (nI (6 * k)).toNatClampNeg) &&& (15 : Int32)).toInt - 0).toNat = 1 by omega]; rfl) (by decide) ?_
      refine lv_aload_n hx hb nd_Law_law_129 rfl (lv_at hl 1 rfl) ?_
      have hPc := cr_PL hP
      have hDc := cr_DL hD
      have hFc := cr_FW hDc hS hA
      refine va_calli (va_runV (As := []) (rest := []) ⟨hx, hb, hml, hown, hts⟩ (ct_Main_resource l dC dI cI cZ cO amn apl abd alk atr atb H.size mn lt pl bd lk tr tb  hR_tb hR_lk hR_bd hR_pl) (cwV 0 hts (ng_V tw_169 tw_170 tw_171 tw_1 tw_172) rfl rfl rfl (by decide +kernel) ⟨Nat.le_of_ble_eq_true rfl, Nat.le_of_ble_eq_true rfl⟩) ⟨fun a U g mk q => by obtain ⟨q0, q1, qP, qK, qD⟩ := q; exact ⟨q0, q1, qP, va_K.moved (u := U) (U := U.calling g mk a) (Vm.Alike.refl U.vm) qK, qD⟩, va_recv hKc hPc (ci := 4) (q0 := 0) rfl rfl, fun U hU hW => ⟨rfl, by rw [hU], by rw [hU]; exact hPc, va_K.moved hW.alike hKc, hDc.weaken (fun _ _ _ _ => trivial)⟩⟩ rfl rfl hl.1 rfl (lv_room (Nat.le_of_ble_eq_true rfl)) nd_Law_law_130 ⟨Nat.le_of_ble_eq_true rfl, Nat.le_of_ble_eq_true rfl⟩) hS (fun q _ h => hFc q h) hFc (fun r_23 u t H1 locs ht hvm hw hB hz1 hk1 hS => ?_)
      obtain ⟨hP1, hK1, hD1⟩ := hB
      rw [ht] at hP1
      obtain ⟨plq_25, rfl⟩ : ∃ z, z = u := ⟨_, rfl⟩
      obtain ⟨w_24, w_26, hR_27⟩ := hw
      obtain ⟨hP, hD⟩ := cr_jL hP hD hk1 hFc hP1 hD1
      generalize H1 = H at hP hS ⊢
      refine lv_aload_n hx hb nd_Law_law_133 rfl (lv_at hl 2 rfl) ?_
      have hPc := cr_PR hP
      have hDc := cr_DR hD
      have hFc := cr_FW hDc hS hA
      refine va_calli (va_runV (As := []) (rest := [.int r_23]) ⟨hx, hb, hml, hown, hts⟩ (ct_Ref_resource l dC dI cI cZ cJ arf H.size rf lat ln  hR_rf) (cwV 0 hts (ng_V tw_485 tw_486 tw_487 tw_6 tw_488) rfl rfl rfl (by decide +kernel) ⟨Nat.le_of_ble_eq_true rfl, Nat.le_of_ble_eq_true rfl⟩) ⟨fun a U g mk q => by obtain ⟨q0, q1, qP, qK, qD⟩ := q; exact ⟨q0, q1, qP, va_K.moved (u := U) (U := U.calling g mk a) (Vm.Alike.refl U.vm) qK, qD⟩, va_recv hKr hPc (ci := 5) (q0 := 0) rfl rfl, fun U hU hW => ⟨rfl, by rw [hU], by rw [hU]; exact hPc, va_K.moved hW.alike hKr, hDc.weaken (fun _ _ _ _ => trivial)⟩⟩ rfl rfl hl.1 rfl (lv_room (Nat.le_of_ble_eq_true rfl)) nd_Law_law_134 ⟨Nat.le_of_ble_eq_true rfl, Nat.le_of_ble_eq_true rfl⟩) hS (fun q _ h => hFc q h) hFc (fun r_28 u t H1 locs ht hvm hw hB hz1 hk1 hS => ?_)
      obtain ⟨hP1, hK1, hD1⟩ := hB
      rw [ht] at hP1
      obtain ⟨rfq_30, rfl⟩ : ∃ z, z = u := ⟨_, rfl⟩
      obtain ⟨w_29, w_31, hR_32⟩ := hw
      obtain ⟨hP, hD⟩ := cr_jR hP hD hk1 hFc hP1 hD1
      generalize H1 = H at hP hS ⊢
      have hs9 := s_resource k mn lt pl bd lk tr tb rf lat ln (by omega) hsim
      try rw [← w_24] at hs9
      try rw [← w_26] at hs9
      try rw [← w_29] at hs9
      try rw [← w_31] at hs9
      obtain ⟨heq, hsim⟩ := hs9
      refine lv_icmp_eq (tgt := 523) hx hb nd_Law_law_137 (by decide) (fun c_9 => ?_) (fun c_9 => absurd heq c_9)
      refine lv_iinc (v := nI (6 * (k + 1))) (lv' := [(3, .int (nI (6 * (k + 1)))), (0, .ref b), (1, .ref (amn 0)), (2, .ref (arf 0))]) hx hb nd_Law_law_523 hl (k := 3) rfl (by rw [show (Int32.ofInt 6) = nI 6 by decide, nI_add]; congr 1) (by decide) rfl (fun ls hl => ?_)
      refine lv_goto (tgt := 18) hx hb nd_Law_law_526 (by decide) ?_
      exact ih (k + 1) (by omega) (by omega) mn lt plq_25 bd lk tr tb rfq_30 lat ln hsim _ _ hK hP hD hS _ (lv_sub hl [1, 2, 3, 0] rfl)
    have c_22t := cr_ne c_22
    by_cases c_33 : ((xs (nI (6 * k)).toNatClampNeg) &&& (15 : Int32)) = 2
    · have c_33t := cr_eq c_33
      refine lv_tableIn (tgt := 142) hx hb nd_Law_law_33 (by omega) (by omega) (by rw [show (((xs (nI (6 * k)).toNatClampNeg) &&& (15 : Int32)).toInt - 0).toNat = 2 by omega]; rfl) (by decide) ?_
      refine lv_aload_n hx hb nd_Law_law_142 rfl (lv_at hl 1 rfl) ?_
      refine lv_aload_n hx hb nd_Law_law_143 rfl (lv_at hl 0 rfl) ?_
      refine lv_iload_n hx hb nd_Law_law_144 rfl (lv_at hl 3 rfl) ?_
      refine lv_iconst (v := 1) hx hb nd_Law_law_145 (by decide) ?_
      refine lv_iadd hx hb nd_Law_law_146 ?_
      have e_34 : ((nI (6 * k)) + (1 : Int32)).toInt = (nI (6 * k)).toInt + (1 : Int32).toInt := cr_add (by omega)
      have b_35 : vp_in ((nI (6 * k)) + (1 : Int32)) L := vp_in_iff.mpr (by omega)
      refine va_sld hx hb hX hbl hbA hS b_35 nd_Law_law_147 ?_
      refine lv_aload_n hx hb nd_Law_law_148 rfl (lv_at hl 0 rfl) ?_
      refine lv_iload_n hx hb nd_Law_law_149 rfl (lv_at hl 3 rfl) ?_
      refine lv_iconst (v := 2) hx hb nd_Law_law_150 (by decide) ?_
      refine lv_iadd hx hb nd_Law_law_151 ?_
      have e_36 : ((nI (6 * k)) + (2 : Int32)).toInt = (nI (6 * k)).toInt + (2 : Int32).toInt := cr_add (by omega)
      have b_37 : vp_in ((nI (6 * k)) + (2 : Int32)) L := vp_in_iff.mpr (by omega)
      refine va_sld hx hb hX hbl hbA hS b_37 nd_Law_law_152 ?_
      refine lv_aload_n hx hb nd_Law_law_153 rfl (lv_at hl 0 rfl) ?_
      refine lv_iload_n hx hb nd_Law_law_154 rfl (lv_at hl 3 rfl) ?_
      refine lv_iconst (v := 3) hx hb nd_Law_law_155 (by decide) ?_
      refine lv_iadd hx hb nd_Law_law_156 ?_
      have e_38 : ((nI (6 * k)) + (3 : Int32)).toInt = (nI (6 * k)).toInt + (3 : Int32).toInt := cr_add (by omega)
      have b_39 : vp_in ((nI (6 * k)) + (3 : Int32)) L := vp_in_iff.mpr (by omega)
      refine va_sld hx hb hX hbl hbA hS b_39 nd_Law_law_157 ?_
      refine lv_i2l (v := (xs ((nI (6 * k)) + (3 : Int32)).toNatClampNeg).toInt64) hx hb nd_Law_law_158 rfl ?_
      refine lv_bipush (v := 32) hx hb nd_Law_law_159 (by decide) ?_
      refine lv_lshl (v := ((xs ((nI (6 * k)) + (3 : Int32)).toNatClampNeg).toInt64 <<< ((32 : Int32).toInt64 &&& 63))) hx hb nd_Law_law_161 rfl ?_
      refine lv_aload_n hx hb nd_Law_law_162 rfl (lv_at hl 0 rfl) ?_
      refine lv_iload_n hx hb nd_Law_law_163 rfl (lv_at hl 3 rfl) ?_
      refine lv_iconst (v := 4) hx hb nd_Law_law_164 (by decide) ?_
      refine lv_iadd hx hb nd_Law_law_165 ?_
      have e_40 : ((nI (6 * k)) + (4 : Int32)).toInt = (nI (6 * k)).toInt + (4 : Int32).toInt := cr_add (by omega)
      have b_41 : vp_in ((nI (6 * k)) + (4 : Int32)) L := vp_in_iff.mpr (by omega)
      refine va_sld hx hb hX hbl hbA hS b_41 nd_Law_law_166 ?_
      refine lv_i2l (v := (xs ((nI (6 * k)) + (4 : Int32)).toNatClampNeg).toInt64) hx hb nd_Law_law_167 rfl ?_
      refine lv_ldc2 (v := 4294967295) hx hb hown (hts _ tw_594) nd_Law_law_168 ?_
      refine lv_land hx hb nd_Law_law_171 ?_
      refine lv_lor hx hb nd_Law_law_172 ?_
      have hPc := cr_PL hP
      have hDc := cr_DL hD
      have hFc := cr_FW hDc hS hA
      refine va_calli (va_runV (As := [.int (xs ((nI (6 * k)) + (1 : Int32)).toNatClampNeg), .int (xs ((nI (6 * k)) + (2 : Int32)).toNatClampNeg), .long (((xs ((nI (6 * k)) + (3 : Int32)).toNatClampNeg).toInt64 <<< ((32 : Int32).toInt64 &&& 63)) ||| ((xs ((nI (6 * k)) + (4 : Int32)).toNatClampNeg).toInt64 &&& (4294967295 : Int64)))]) (rest := []) ⟨hx, hb, hml, hown, hts⟩ (ct_Main_uses l dC dI cI cZ cO amn apl abd alk atr atb H.size mn lt pl bd lk tr tb (xs ((nI (6 * k)) + (1 : Int32)).toNatClampNeg) (xs ((nI (6 * k)) + (2 : Int32)).toNatClampNeg) (((xs ((nI (6 * k)) + (3 : Int32)).toNatClampNeg).toInt64 <<< ((32 : Int32).toInt64 &&& 63)) ||| ((xs ((nI (6 * k)) + (4 : Int32)).toNatClampNeg).toInt64 &&& (4294967295 : Int64))) hR_tb hR_lk hR_bd hR_pl) (cwV 3 hts (ng_V tw_177 tw_178 tw_179 tw_1 tw_180) rfl rfl rfl (by decide +kernel) ⟨Nat.le_of_ble_eq_true rfl, Nat.le_of_ble_eq_true rfl⟩) ⟨fun a U g mk q => by obtain ⟨q0, q1, qP, qK, qD⟩ := q; exact ⟨q0, q1, qP, va_K.moved (u := U) (U := U.calling g mk a) (Vm.Alike.refl U.vm) qK, qD⟩, va_recv hKc hPc (ci := 4) (q0 := 0) rfl rfl, fun U hU hW => ⟨rfl, by rw [hU], by rw [hU]; exact hPc, va_K.moved hW.alike hKc, hDc.weaken (fun _ _ _ _ => trivial)⟩⟩ rfl rfl hl.1 rfl (lv_room (Nat.le_of_ble_eq_true rfl)) nd_Law_law_173 ⟨Nat.le_of_ble_eq_true rfl, Nat.le_of_ble_eq_true rfl⟩) hS (fun q _ h => hFc q h) hFc (fun r_42 u t H1 locs ht hvm hw hB hz1 hk1 hS => ?_)
      obtain ⟨hP1, hK1, hD1⟩ := hB
      rw [ht] at hP1
      obtain ⟨plq_44, rfl⟩ : ∃ z, z = u := ⟨_, rfl⟩
      obtain ⟨w_43, w_45, hR_46⟩ := hw
      obtain ⟨hP, hD⟩ := cr_jL hP hD hk1 hFc hP1 hD1
      generalize H1 = H at hP hS ⊢
      refine lv_aload_n hx hb nd_Law_law_176 rfl (lv_at hl 2 rfl) ?_
      refine lv_aload_n hx hb nd_Law_law_177 rfl (lv_at hl 0 rfl) ?_
      refine lv_iload_n hx hb nd_Law_law_178 rfl (lv_at hl 3 rfl) ?_
      refine lv_iconst (v := 1) hx hb nd_Law_law_179 (by decide) ?_
      refine lv_iadd hx hb nd_Law_law_180 ?_
      have e_47 : ((nI (6 * k)) + (1 : Int32)).toInt = (nI (6 * k)).toInt + (1 : Int32).toInt := cr_add (by omega)
      have b_48 : vp_in ((nI (6 * k)) + (1 : Int32)) L := vp_in_iff.mpr (by omega)
      refine va_sld hx hb hX hbl hbA hS b_48 nd_Law_law_181 ?_
      refine lv_aload_n hx hb nd_Law_law_182 rfl (lv_at hl 0 rfl) ?_
      refine lv_iload_n hx hb nd_Law_law_183 rfl (lv_at hl 3 rfl) ?_
      refine lv_iconst (v := 2) hx hb nd_Law_law_184 (by decide) ?_
      refine lv_iadd hx hb nd_Law_law_185 ?_
      have e_49 : ((nI (6 * k)) + (2 : Int32)).toInt = (nI (6 * k)).toInt + (2 : Int32).toInt := cr_add (by omega)
      have b_50 : vp_in ((nI (6 * k)) + (2 : Int32)) L := vp_in_iff.mpr (by omega)
      refine va_sld hx hb hX hbl hbA hS b_50 nd_Law_law_186 ?_
      refine lv_aload_n hx hb nd_Law_law_187 rfl (lv_at hl 0 rfl) ?_
      refine lv_iload_n hx hb nd_Law_law_188 rfl (lv_at hl 3 rfl) ?_
      refine lv_iconst (v := 3) hx hb nd_Law_law_189 (by decide) ?_
      refine lv_iadd hx hb nd_Law_law_190 ?_
      have e_51 : ((nI (6 * k)) + (3 : Int32)).toInt = (nI (6 * k)).toInt + (3 : Int32).toInt := cr_add (by omega)
      have b_52 : vp_in ((nI (6 * k)) + (3 : Int32)) L := vp_in_iff.mpr (by omega)
      refine va_sld hx hb hX hbl hbA hS b_52 nd_Law_law_191 ?_
      refine lv_i2l (v := (xs ((nI (6 * k)) + (3 : Int32)).toNatClampNeg).toInt64) hx hb nd_Law_law_192 rfl ?_
      refine lv_bipush (v := 32) hx hb nd_Law_law_193 (by decide) ?_
      refine lv_lshl (v := ((xs ((nI (6 * k)) + (3 : Int32)).toNatClampNeg).toInt64 <<< ((32 : Int32).toInt64 &&& 63))) hx hb nd_Law_law_195 rfl ?_
      refine lv_aload_n hx hb nd_Law_law_196 rfl (lv_at hl 0 rfl) ?_
      refine lv_iload_n hx hb nd_Law_law_197 rfl (lv_at hl 3 rfl) ?_
      refine lv_iconst (v := 4) hx hb nd_Law_law_198 (by decide) ?_
      refine lv_iadd hx hb nd_Law_law_199 ?_
      have e_53 : ((nI (6 * k)) + (4 : Int32)).toInt = (nI (6 * k)).toInt + (4 : Int32).toInt := cr_add (by omega)
      have b_54 : vp_in ((nI (6 * k)) + (4 : Int32)) L := vp_in_iff.mpr (by omega)
      refine va_sld hx hb hX hbl hbA hS b_54 nd_Law_law_200 ?_
      refine lv_i2l (v := (xs ((nI (6 * k)) + (4 : Int32)).toNatClampNeg).toInt64) hx hb nd_Law_law_201 rfl ?_
      refine lv_ldc2 (v := 4294967295) hx hb hown (hts _ tw_594) nd_Law_law_202 ?_
      refine lv_land hx hb nd_Law_law_205 ?_
      refine lv_lor hx hb nd_Law_law_206 ?_
      have hPc := cr_PR hP
      have hDc := cr_DR hD
      have hFc := cr_FW hDc hS hA
      refine va_calli (va_runV (As := [.int (xs ((nI (6 * k)) + (1 : Int32)).toNatClampNeg), .int (xs ((nI (6 * k)) + (2 : Int32)).toNatClampNeg), .long (((xs ((nI (6 * k)) + (3 : Int32)).toNatClampNeg).toInt64 <<< ((32 : Int32).toInt64 &&& 63)) ||| ((xs ((nI (6 * k)) + (4 : Int32)).toNatClampNeg).toInt64 &&& (4294967295 : Int64)))]) (rest := [.int r_42]) ⟨hx, hb, hml, hown, hts⟩ (ct_Ref_uses l dC dI cI cZ cJ arf H.size rf lat ln (xs ((nI (6 * k)) + (1 : Int32)).toNatClampNeg) (xs ((nI (6 * k)) + (2 : Int32)).toNatClampNeg) (((xs ((nI (6 * k)) + (3 : Int32)).toNatClampNeg).toInt64 <<< ((32 : Int32).toInt64 &&& 63)) ||| ((xs ((nI (6 * k)) + (4 : Int32)).toNatClampNeg).toInt64 &&& (4294967295 : Int64))) hR_rf) (cwV 3 hts (ng_V tw_489 tw_490 tw_491 tw_6 tw_492) rfl rfl rfl (by decide +kernel) ⟨Nat.le_of_ble_eq_true rfl, Nat.le_of_ble_eq_true rfl⟩) ⟨fun a U g mk q => by obtain ⟨q0, q1, qP, qK, qD⟩ := q; exact ⟨q0, q1, qP, va_K.moved (u := U) (U := U.calling g mk a) (Vm.Alike.refl U.vm) qK, qD⟩, va_recv hKr hPc (ci := 5) (q0 := 0) rfl rfl, fun U hU hW => ⟨rfl, by rw [hU], by rw [hU]; exact hPc, va_K.moved hW.alike hKr, hDc.weaken (fun _ _ _ _ => trivial)⟩⟩ rfl rfl hl.1 rfl (lv_room (Nat.le_of_ble_eq_true rfl)) nd_Law_law_207 ⟨Nat.le_of_ble_eq_true rfl, Nat.le_of_ble_eq_true rfl⟩) hS (fun q _ h => hFc q h) hFc (fun r_55 u t H1 locs ht hvm hw hB hz1 hk1 hS => ?_)
      obtain ⟨hP1, hK1, hD1⟩ := hB
      rw [ht] at hP1
      obtain ⟨lnq_57, rfl⟩ : ∃ z, z = u := ⟨_, rfl⟩
      obtain ⟨w_56, w_58⟩ := hw
      obtain ⟨hP, hD⟩ := cr_jR hP hD hk1 hFc hP1 hD1
      generalize H1 = H at hP hS ⊢
      have hs9 := s_uses k mn lt pl bd lk tr tb rf lat ln (xs ((nI (6 * k)) + (1 : Int32)).toNatClampNeg) (xs ((nI (6 * k)) + (2 : Int32)).toNatClampNeg) (((xs ((nI (6 * k)) + (3 : Int32)).toNatClampNeg).toInt64 <<< ((32 : Int32).toInt64 &&& 63)) ||| ((xs ((nI (6 * k)) + (4 : Int32)).toNatClampNeg).toInt64 &&& (4294967295 : Int64))) (by omega) hsim
      try rw [← w_43] at hs9
      try rw [← w_45] at hs9
      try rw [← w_56] at hs9
      try rw [← w_58] at hs9
      obtain ⟨heq, hsim⟩ := hs9
      refine lv_icmp_eq (tgt := 523) hx hb nd_Law_law_210 (by decide) (fun c_9 => ?_) (fun c_9 => absurd heq c_9)
      refine lv_iinc (v := nI (6 * (k + 1))) (lv' := [(3, .int (nI (6 * (k + 1)))), (0, .ref b), (1, .ref (amn 0)), (2, .ref (arf 0))]) hx hb nd_Law_law_523 hl (k := 3) rfl (by rw [show (Int32.ofInt 6) = nI 6 by decide, nI_add]; congr 1) (by decide) rfl (fun ls hl => ?_)
      refine lv_goto (tgt := 18) hx hb nd_Law_law_526 (by decide) ?_
      exact ih (k + 1) (by omega) (by omega) mn lt plq_44 bd lk tr tb rf lat lnq_57 hsim _ _ hK hP hD hS _ (lv_sub hl [1, 2, 3, 0] rfl)
    have c_33t := cr_ne c_33
    by_cases c_59 : ((xs (nI (6 * k)).toNatClampNeg) &&& (15 : Int32)) = 3
    · have c_59t := cr_eq c_59
      refine lv_tableIn (tgt := 215) hx hb nd_Law_law_33 (by omega) (by omega) (by rw [show (((xs (nI (6 * k)).toNatClampNeg) &&& (15 : Int32)).toInt - 0).toNat = 3 by omega]; rfl) (by decide) ?_
      refine lv_aload_n hx hb nd_Law_law_215 rfl (lv_at hl 1 rfl) ?_
      refine lv_aload_n hx hb nd_Law_law_216 rfl (lv_at hl 0 rfl) ?_
      refine lv_iload_n hx hb nd_Law_law_217 rfl (lv_at hl 3 rfl) ?_
      refine lv_iconst (v := 1) hx hb nd_Law_law_218 (by decide) ?_
      refine lv_iadd hx hb nd_Law_law_219 ?_
      have e_60 : ((nI (6 * k)) + (1 : Int32)).toInt = (nI (6 * k)).toInt + (1 : Int32).toInt := cr_add (by omega)
      have b_61 : vp_in ((nI (6 * k)) + (1 : Int32)) L := vp_in_iff.mpr (by omega)
      refine va_sld hx hb hX hbl hbA hS b_61 nd_Law_law_220 ?_
      have hPc := cr_PL hP
      have hDc := cr_DL hD
      have hFc := cr_FW hDc hS hA
      refine va_calli (va_runV (As := [.int (xs ((nI (6 * k)) + (1 : Int32)).toNatClampNeg)]) (rest := []) ⟨hx, hb, hml, hown, hts⟩ (ct_Main_ceiling l dC dI cI cZ cO amn apl abd alk atr atb H.size mn lt pl bd lk tr tb (xs ((nI (6 * k)) + (1 : Int32)).toNatClampNeg) hR_tb hR_lk hR_bd hR_pl) (cwV 1 hts (ng_V tw_209 tw_210 tw_211 tw_1 tw_212) rfl rfl rfl (by decide +kernel) ⟨Nat.le_of_ble_eq_true rfl, Nat.le_of_ble_eq_true rfl⟩) ⟨fun a U g mk q => by obtain ⟨q0, q1, qP, qK, qD⟩ := q; exact ⟨q0, q1, qP, va_K.moved (u := U) (U := U.calling g mk a) (Vm.Alike.refl U.vm) qK, qD⟩, va_recv hKc hPc (ci := 4) (q0 := 0) rfl rfl, fun U hU hW => ⟨rfl, by rw [hU], by rw [hU]; exact hPc, va_K.moved hW.alike hKc, hDc.weaken (fun _ _ _ _ => trivial)⟩⟩ rfl rfl hl.1 rfl (lv_room (Nat.le_of_ble_eq_true rfl)) nd_Law_law_221 ⟨Nat.le_of_ble_eq_true rfl, Nat.le_of_ble_eq_true rfl⟩) hS (fun q _ h => hFc q h) hFc (fun r_62 u t H1 locs ht hvm hw hB hz1 hk1 hS => ?_)
      obtain ⟨hP1, hK1, hD1⟩ := hB
      rw [ht] at hP1
      have w_63 := hw
      obtain ⟨hP, hD⟩ := cr_jL hP hD hk1 hFc hP1 hD1
      generalize H1 = H at hP hS ⊢
      refine lv_aload_n hx hb nd_Law_law_224 rfl (lv_at hl 2 rfl) ?_
      refine lv_aload_n hx hb nd_Law_law_225 rfl (lv_at hl 0 rfl) ?_
      refine lv_iload_n hx hb nd_Law_law_226 rfl (lv_at hl 3 rfl) ?_
      refine lv_iconst (v := 1) hx hb nd_Law_law_227 (by decide) ?_
      refine lv_iadd hx hb nd_Law_law_228 ?_
      have e_64 : ((nI (6 * k)) + (1 : Int32)).toInt = (nI (6 * k)).toInt + (1 : Int32).toInt := cr_add (by omega)
      have b_65 : vp_in ((nI (6 * k)) + (1 : Int32)) L := vp_in_iff.mpr (by omega)
      refine va_sld hx hb hX hbl hbA hS b_65 nd_Law_law_229 ?_
      have hPc := cr_PR hP
      have hDc := cr_DR hD
      have hFc := cr_FW hDc hS hA
      refine va_calli (va_runV (As := [.int (xs ((nI (6 * k)) + (1 : Int32)).toNatClampNeg)]) (rest := [.int r_62]) ⟨hx, hb, hml, hown, hts⟩ (ct_Ref_ceiling l dC dI cI cZ cJ arf H.size rf lat ln (xs ((nI (6 * k)) + (1 : Int32)).toNatClampNeg) hR_rf) (cwV 1 hts (ng_V tw_502 tw_503 tw_504 tw_6 tw_505) rfl rfl rfl (by decide +kernel) ⟨Nat.le_of_ble_eq_true rfl, Nat.le_of_ble_eq_true rfl⟩) ⟨fun a U g mk q => by obtain ⟨q0, q1, qP, qK, qD⟩ := q; exact ⟨q0, q1, qP, va_K.moved (u := U) (U := U.calling g mk a) (Vm.Alike.refl U.vm) qK, qD⟩, va_recv hKr hPc (ci := 5) (q0 := 0) rfl rfl, fun U hU hW => ⟨rfl, by rw [hU], by rw [hU]; exact hPc, va_K.moved hW.alike hKr, hDc.weaken (fun _ _ _ _ => trivial)⟩⟩ rfl rfl hl.1 rfl (lv_room (Nat.le_of_ble_eq_true rfl)) nd_Law_law_230 ⟨Nat.le_of_ble_eq_true rfl, Nat.le_of_ble_eq_true rfl⟩) hS (fun q _ h => hFc q h) hFc (fun r_66 u t H1 locs ht hvm hw hB hz1 hk1 hS => ?_)
      obtain ⟨hP1, hK1, hD1⟩ := hB
      rw [ht] at hP1
      have w_67 := hw
      obtain ⟨hP, hD⟩ := cr_jR hP hD hk1 hFc hP1 hD1
      generalize H1 = H at hP hS ⊢
      have hs9 := s_ceiling k mn lt pl bd lk tr tb rf lat ln (xs ((nI (6 * k)) + (1 : Int32)).toNatClampNeg) (by omega) hsim
      try rw [← w_63] at hs9
      try rw [← w_67] at hs9
      have heq := hs9
      have hsim := s_skip k _ _ _ _ _ _ _ _ _ _ hsim
      refine lv_icmp_eq (tgt := 523) hx hb nd_Law_law_233 (by decide) (fun c_9 => ?_) (fun c_9 => absurd heq c_9)
      refine lv_iinc (v := nI (6 * (k + 1))) (lv' := [(3, .int (nI (6 * (k + 1)))), (0, .ref b), (1, .ref (amn 0)), (2, .ref (arf 0))]) hx hb nd_Law_law_523 hl (k := 3) rfl (by rw [show (Int32.ofInt 6) = nI 6 by decide, nI_add]; congr 1) (by decide) rfl (fun ls hl => ?_)
      refine lv_goto (tgt := 18) hx hb nd_Law_law_526 (by decide) ?_
      exact ih (k + 1) (by omega) (by omega) mn lt pl bd lk tr tb rf lat ln hsim _ _ hK hP hD hS _ (lv_sub hl [1, 2, 3, 0] rfl)
    have c_59t := cr_ne c_59
    by_cases c_68 : ((xs (nI (6 * k)).toNatClampNeg) &&& (15 : Int32)) = 4
    · have c_68t := cr_eq c_68
      refine lv_tableIn (tgt := 238) hx hb nd_Law_law_33 (by omega) (by omega) (by rw [show (((xs (nI (6 * k)).toNatClampNeg) &&& (15 : Int32)).toInt - 0).toNat = 4 by omega]; rfl) (by decide) ?_
      refine lv_aload_n hx hb nd_Law_law_238 rfl (lv_at hl 1 rfl) ?_
      refine lv_aload_n hx hb nd_Law_law_239 rfl (lv_at hl 0 rfl) ?_
      refine lv_iload_n hx hb nd_Law_law_240 rfl (lv_at hl 3 rfl) ?_
      refine lv_iconst (v := 1) hx hb nd_Law_law_241 (by decide) ?_
      refine lv_iadd hx hb nd_Law_law_242 ?_
      have e_69 : ((nI (6 * k)) + (1 : Int32)).toInt = (nI (6 * k)).toInt + (1 : Int32).toInt := cr_add (by omega)
      have b_70 : vp_in ((nI (6 * k)) + (1 : Int32)) L := vp_in_iff.mpr (by omega)
      refine va_sld hx hb hX hbl hbA hS b_70 nd_Law_law_243 ?_
      refine lv_aload_n hx hb nd_Law_law_244 rfl (lv_at hl 0 rfl) ?_
      refine lv_iload_n hx hb nd_Law_law_245 rfl (lv_at hl 3 rfl) ?_
      refine lv_iconst (v := 2) hx hb nd_Law_law_246 (by decide) ?_
      refine lv_iadd hx hb nd_Law_law_247 ?_
      have e_71 : ((nI (6 * k)) + (2 : Int32)).toInt = (nI (6 * k)).toInt + (2 : Int32).toInt := cr_add (by omega)
      have b_72 : vp_in ((nI (6 * k)) + (2 : Int32)) L := vp_in_iff.mpr (by omega)
      refine va_sld hx hb hX hbl hbA hS b_72 nd_Law_law_248 ?_
      refine lv_aload_n hx hb nd_Law_law_249 rfl (lv_at hl 0 rfl) ?_
      refine lv_iload_n hx hb nd_Law_law_250 rfl (lv_at hl 3 rfl) ?_
      refine lv_iconst (v := 3) hx hb nd_Law_law_251 (by decide) ?_
      refine lv_iadd hx hb nd_Law_law_252 ?_
      have e_73 : ((nI (6 * k)) + (3 : Int32)).toInt = (nI (6 * k)).toInt + (3 : Int32).toInt := cr_add (by omega)
      have b_74 : vp_in ((nI (6 * k)) + (3 : Int32)) L := vp_in_iff.mpr (by omega)
      refine va_sld hx hb hX hbl hbA hS b_74 nd_Law_law_253 ?_
      refine lv_aload_n hx hb nd_Law_law_254 rfl (lv_at hl 0 rfl) ?_
      refine lv_iload_n hx hb nd_Law_law_255 rfl (lv_at hl 3 rfl) ?_
      refine lv_iconst (v := 4) hx hb nd_Law_law_256 (by decide) ?_
      refine lv_iadd hx hb nd_Law_law_257 ?_
      have e_75 : ((nI (6 * k)) + (4 : Int32)).toInt = (nI (6 * k)).toInt + (4 : Int32).toInt := cr_add (by omega)
      have b_76 : vp_in ((nI (6 * k)) + (4 : Int32)) L := vp_in_iff.mpr (by omega)
      refine va_sld hx hb hX hbl hbA hS b_76 nd_Law_law_258 ?_
      refine lv_i2l (v := (xs ((nI (6 * k)) + (4 : Int32)).toNatClampNeg).toInt64) hx hb nd_Law_law_259 rfl ?_
      refine lv_bipush (v := 32) hx hb nd_Law_law_260 (by decide) ?_
      refine lv_lshl (v := ((xs ((nI (6 * k)) + (4 : Int32)).toNatClampNeg).toInt64 <<< ((32 : Int32).toInt64 &&& 63))) hx hb nd_Law_law_262 rfl ?_
      refine lv_aload_n hx hb nd_Law_law_263 rfl (lv_at hl 0 rfl) ?_
      refine lv_iload_n hx hb nd_Law_law_264 rfl (lv_at hl 3 rfl) ?_
      refine lv_iconst (v := 5) hx hb nd_Law_law_265 (by decide) ?_
      refine lv_iadd hx hb nd_Law_law_266 ?_
      have e_77 : ((nI (6 * k)) + (5 : Int32)).toInt = (nI (6 * k)).toInt + (5 : Int32).toInt := cr_add (by omega)
      have b_78 : vp_in ((nI (6 * k)) + (5 : Int32)) L := vp_in_iff.mpr (by omega)
      refine va_sld hx hb hX hbl hbA hS b_78 nd_Law_law_267 ?_
      refine lv_i2l (v := (xs ((nI (6 * k)) + (5 : Int32)).toNatClampNeg).toInt64) hx hb nd_Law_law_268 rfl ?_
      refine lv_ldc2 (v := 4294967295) hx hb hown (hts _ tw_594) nd_Law_law_269 ?_
      refine lv_land hx hb nd_Law_law_272 ?_
      refine lv_lor hx hb nd_Law_law_273 ?_
      have hPc := cr_PL hP
      have hDc := cr_DL hD
      have hFc := cr_FW hDc hS hA
      refine va_calli (va_runV (As := [.int (xs ((nI (6 * k)) + (1 : Int32)).toNatClampNeg), .int (xs ((nI (6 * k)) + (2 : Int32)).toNatClampNeg), .int (xs ((nI (6 * k)) + (3 : Int32)).toNatClampNeg), .long (((xs ((nI (6 * k)) + (4 : Int32)).toNatClampNeg).toInt64 <<< ((32 : Int32).toInt64 &&& 63)) ||| ((xs ((nI (6 * k)) + (5 : Int32)).toNatClampNeg).toInt64 &&& (4294967295 : Int64)))]) (rest := []) ⟨hx, hb, hml, hown, hts⟩ (ct_Main_step l dC dI cI cZ cO amn apl abd alk atr atb H.size mn lt pl bd lk tr tb (xs ((nI (6 * k)) + (1 : Int32)).toNatClampNeg) (xs ((nI (6 * k)) + (2 : Int32)).toNatClampNeg) (xs ((nI (6 * k)) + (3 : Int32)).toNatClampNeg) (((xs ((nI (6 * k)) + (4 : Int32)).toNatClampNeg).toInt64 <<< ((32 : Int32).toInt64 &&& 63)) ||| ((xs ((nI (6 * k)) + (5 : Int32)).toNatClampNeg).toInt64 &&& (4294967295 : Int64))) hR_tb hR_lk hR_bd hR_pl) (cwV 4 hts (ng_V tw_213 tw_214 tw_215 tw_1 tw_216) rfl rfl rfl (by decide +kernel) ⟨Nat.le_of_ble_eq_true rfl, Nat.le_of_ble_eq_true rfl⟩) ⟨fun a U g mk q => by obtain ⟨q0, q1, qP, qK, qD⟩ := q; exact ⟨q0, q1, qP, va_K.moved (u := U) (U := U.calling g mk a) (Vm.Alike.refl U.vm) qK, qD⟩, va_recv hKc hPc (ci := 4) (q0 := 0) rfl rfl, fun U hU hW => ⟨rfl, by rw [hU], by rw [hU]; exact hPc, va_K.moved hW.alike hKc, hDc.weaken (fun _ _ _ _ => trivial)⟩⟩ rfl rfl hl.1 rfl (lv_room (Nat.le_of_ble_eq_true rfl)) nd_Law_law_274 ⟨Nat.le_of_ble_eq_true rfl, Nat.le_of_ble_eq_true rfl⟩) hS (fun q _ h => hFc q h) hFc (fun r_79 u t H1 locs ht hvm hw hB hz1 hk1 hS => ?_)
      obtain ⟨hP1, hK1, hD1⟩ := hB
      rw [ht] at hP1
      obtain ⟨mnq_81, ltq_83, bdq_85⟩ := u
      dsimp only at hw hP1 hD1
      obtain ⟨w_80, w_82, w_84, w_86, hR_87⟩ := hw
      obtain ⟨hP, hD⟩ := cr_jL hP hD hk1 hFc hP1 hD1
      generalize H1 = H at hP hS ⊢
      refine lv_aload_n hx hb nd_Law_law_277 rfl (lv_at hl 2 rfl) ?_
      refine lv_aload_n hx hb nd_Law_law_278 rfl (lv_at hl 0 rfl) ?_
      refine lv_iload_n hx hb nd_Law_law_279 rfl (lv_at hl 3 rfl) ?_
      refine lv_iconst (v := 1) hx hb nd_Law_law_280 (by decide) ?_
      refine lv_iadd hx hb nd_Law_law_281 ?_
      have e_88 : ((nI (6 * k)) + (1 : Int32)).toInt = (nI (6 * k)).toInt + (1 : Int32).toInt := cr_add (by omega)
      have b_89 : vp_in ((nI (6 * k)) + (1 : Int32)) L := vp_in_iff.mpr (by omega)
      refine va_sld hx hb hX hbl hbA hS b_89 nd_Law_law_282 ?_
      refine lv_aload_n hx hb nd_Law_law_283 rfl (lv_at hl 0 rfl) ?_
      refine lv_iload_n hx hb nd_Law_law_284 rfl (lv_at hl 3 rfl) ?_
      refine lv_iconst (v := 2) hx hb nd_Law_law_285 (by decide) ?_
      refine lv_iadd hx hb nd_Law_law_286 ?_
      have e_90 : ((nI (6 * k)) + (2 : Int32)).toInt = (nI (6 * k)).toInt + (2 : Int32).toInt := cr_add (by omega)
      have b_91 : vp_in ((nI (6 * k)) + (2 : Int32)) L := vp_in_iff.mpr (by omega)
      refine va_sld hx hb hX hbl hbA hS b_91 nd_Law_law_287 ?_
      refine lv_aload_n hx hb nd_Law_law_288 rfl (lv_at hl 0 rfl) ?_
      refine lv_iload_n hx hb nd_Law_law_289 rfl (lv_at hl 3 rfl) ?_
      refine lv_iconst (v := 3) hx hb nd_Law_law_290 (by decide) ?_
      refine lv_iadd hx hb nd_Law_law_291 ?_
      have e_92 : ((nI (6 * k)) + (3 : Int32)).toInt = (nI (6 * k)).toInt + (3 : Int32).toInt := cr_add (by omega)
      have b_93 : vp_in ((nI (6 * k)) + (3 : Int32)) L := vp_in_iff.mpr (by omega)
      refine va_sld hx hb hX hbl hbA hS b_93 nd_Law_law_292 ?_
      refine lv_aload_n hx hb nd_Law_law_293 rfl (lv_at hl 0 rfl) ?_
      refine lv_iload_n hx hb nd_Law_law_294 rfl (lv_at hl 3 rfl) ?_
      refine lv_iconst (v := 4) hx hb nd_Law_law_295 (by decide) ?_
      refine lv_iadd hx hb nd_Law_law_296 ?_
      have e_94 : ((nI (6 * k)) + (4 : Int32)).toInt = (nI (6 * k)).toInt + (4 : Int32).toInt := cr_add (by omega)
      have b_95 : vp_in ((nI (6 * k)) + (4 : Int32)) L := vp_in_iff.mpr (by omega)
      refine va_sld hx hb hX hbl hbA hS b_95 nd_Law_law_297 ?_
      refine lv_i2l (v := (xs ((nI (6 * k)) + (4 : Int32)).toNatClampNeg).toInt64) hx hb nd_Law_law_298 rfl ?_
      refine lv_bipush (v := 32) hx hb nd_Law_law_299 (by decide) ?_
      refine lv_lshl (v := ((xs ((nI (6 * k)) + (4 : Int32)).toNatClampNeg).toInt64 <<< ((32 : Int32).toInt64 &&& 63))) hx hb nd_Law_law_301 rfl ?_
      refine lv_aload_n hx hb nd_Law_law_302 rfl (lv_at hl 0 rfl) ?_
      refine lv_iload_n hx hb nd_Law_law_303 rfl (lv_at hl 3 rfl) ?_
      refine lv_iconst (v := 5) hx hb nd_Law_law_304 (by decide) ?_
      refine lv_iadd hx hb nd_Law_law_305 ?_
      have e_96 : ((nI (6 * k)) + (5 : Int32)).toInt = (nI (6 * k)).toInt + (5 : Int32).toInt := cr_add (by omega)
      have b_97 : vp_in ((nI (6 * k)) + (5 : Int32)) L := vp_in_iff.mpr (by omega)
      refine va_sld hx hb hX hbl hbA hS b_97 nd_Law_law_306 ?_
      refine lv_i2l (v := (xs ((nI (6 * k)) + (5 : Int32)).toNatClampNeg).toInt64) hx hb nd_Law_law_307 rfl ?_
      refine lv_ldc2 (v := 4294967295) hx hb hown (hts _ tw_594) nd_Law_law_308 ?_
      refine lv_land hx hb nd_Law_law_311 ?_
      refine lv_lor hx hb nd_Law_law_312 ?_
      have hPc := cr_PR hP
      have hDc := cr_DR hD
      have hFc := cr_FW hDc hS hA
      refine va_calli (va_runV (As := [.int (xs ((nI (6 * k)) + (1 : Int32)).toNatClampNeg), .int (xs ((nI (6 * k)) + (2 : Int32)).toNatClampNeg), .int (xs ((nI (6 * k)) + (3 : Int32)).toNatClampNeg), .long (((xs ((nI (6 * k)) + (4 : Int32)).toNatClampNeg).toInt64 <<< ((32 : Int32).toInt64 &&& 63)) ||| ((xs ((nI (6 * k)) + (5 : Int32)).toNatClampNeg).toInt64 &&& (4294967295 : Int64)))]) (rest := [.int r_79]) ⟨hx, hb, hml, hown, hts⟩ (ct_Ref_step l dC dI cI cZ cJ arf H.size rf lat ln (xs ((nI (6 * k)) + (1 : Int32)).toNatClampNeg) (xs ((nI (6 * k)) + (2 : Int32)).toNatClampNeg) (xs ((nI (6 * k)) + (3 : Int32)).toNatClampNeg) (((xs ((nI (6 * k)) + (4 : Int32)).toNatClampNeg).toInt64 <<< ((32 : Int32).toInt64 &&& 63)) ||| ((xs ((nI (6 * k)) + (5 : Int32)).toNatClampNeg).toInt64 &&& (4294967295 : Int64))) hR_rf) (cwV 4 hts (ng_V tw_510 tw_511 tw_512 tw_6 tw_513) rfl rfl rfl (by decide +kernel) ⟨Nat.le_of_ble_eq_true rfl, Nat.le_of_ble_eq_true rfl⟩) ⟨fun a U g mk q => by obtain ⟨q0, q1, qP, qK, qD⟩ := q; exact ⟨q0, q1, qP, va_K.moved (u := U) (U := U.calling g mk a) (Vm.Alike.refl U.vm) qK, qD⟩, va_recv hKr hPc (ci := 5) (q0 := 0) rfl rfl, fun U hU hW => ⟨rfl, by rw [hU], by rw [hU]; exact hPc, va_K.moved hW.alike hKr, hDc.weaken (fun _ _ _ _ => trivial)⟩⟩ rfl rfl hl.1 rfl (lv_room (Nat.le_of_ble_eq_true rfl)) nd_Law_law_313 ⟨Nat.le_of_ble_eq_true rfl, Nat.le_of_ble_eq_true rfl⟩) hS (fun q _ h => hFc q h) hFc (fun r_98 u t H1 locs ht hvm hw hB hz1 hk1 hS => ?_)
      obtain ⟨hP1, hK1, hD1⟩ := hB
      rw [ht] at hP1
      obtain ⟨rfq_100, latq_102⟩ := u
      dsimp only at hw hP1 hD1
      obtain ⟨w_99, w_101, w_103, hR_104⟩ := hw
      obtain ⟨hP, hD⟩ := cr_jR hP hD hk1 hFc hP1 hD1
      generalize H1 = H at hP hS ⊢
      have hs9 := s_step k mn lt pl bd lk tr tb rf lat ln (xs ((nI (6 * k)) + (1 : Int32)).toNatClampNeg) (xs ((nI (6 * k)) + (2 : Int32)).toNatClampNeg) (xs ((nI (6 * k)) + (3 : Int32)).toNatClampNeg) (((xs ((nI (6 * k)) + (4 : Int32)).toNatClampNeg).toInt64 <<< ((32 : Int32).toInt64 &&& 63)) ||| ((xs ((nI (6 * k)) + (5 : Int32)).toNatClampNeg).toInt64 &&& (4294967295 : Int64))) (by omega) hsim
      try rw [← w_80] at hs9
      try rw [← w_82] at hs9
      try rw [← w_84] at hs9
      try rw [← w_86] at hs9
      try rw [← w_99] at hs9
      try rw [← w_101] at hs9
      try rw [← w_103] at hs9
      obtain ⟨heq, hsim⟩ := hs9
      refine lv_icmp_eq (tgt := 523) hx hb nd_Law_law_316 (by decide) (fun c_9 => ?_) (fun c_9 => absurd heq c_9)
      refine lv_iinc (v := nI (6 * (k + 1))) (lv' := [(3, .int (nI (6 * (k + 1)))), (0, .ref b), (1, .ref (amn 0)), (2, .ref (arf 0))]) hx hb nd_Law_law_523 hl (k := 3) rfl (by rw [show (Int32.ofInt 6) = nI 6 by decide, nI_add]; congr 1) (by decide) rfl (fun ls hl => ?_)
      refine lv_goto (tgt := 18) hx hb nd_Law_law_526 (by decide) ?_
      exact ih (k + 1) (by omega) (by omega) mnq_81 ltq_83 pl bdq_85 lk tr tb rfq_100 latq_102 ln hsim _ _ hK hP hD hS _ (lv_sub hl [1, 2, 3, 0] rfl)
    have c_68t := cr_ne c_68
    by_cases c_105 : ((xs (nI (6 * k)).toNatClampNeg) &&& (15 : Int32)) = 5
    · have c_105t := cr_eq c_105
      refine lv_tableIn (tgt := 321) hx hb nd_Law_law_33 (by omega) (by omega) (by rw [show (((xs (nI (6 * k)).toNatClampNeg) &&& (15 : Int32)).toInt - 0).toNat = 5 by omega]; rfl) (by decide) ?_
      refine lv_aload_n hx hb nd_Law_law_321 rfl (lv_at hl 1 rfl) ?_
      refine lv_aload_n hx hb nd_Law_law_322 rfl (lv_at hl 0 rfl) ?_
      refine lv_iload_n hx hb nd_Law_law_323 rfl (lv_at hl 3 rfl) ?_
      refine lv_iconst (v := 1) hx hb nd_Law_law_324 (by decide) ?_
      refine lv_iadd hx hb nd_Law_law_325 ?_
      have e_106 : ((nI (6 * k)) + (1 : Int32)).toInt = (nI (6 * k)).toInt + (1 : Int32).toInt := cr_add (by omega)
      have b_107 : vp_in ((nI (6 * k)) + (1 : Int32)) L := vp_in_iff.mpr (by omega)
      refine va_sld hx hb hX hbl hbA hS b_107 nd_Law_law_326 ?_
      have hPc := cr_PL hP
      have hDc := cr_DL hD
      have hFc := cr_FW hDc hS hA
      refine va_calli (va_runV (As := [.int (xs ((nI (6 * k)) + (1 : Int32)).toNatClampNeg)]) (rest := []) ⟨hx, hb, hml, hown, hts⟩ (ct_Main_rank l dC dI cI cZ cO amn apl abd alk atr atb H.size mn lt pl bd lk tr tb (xs ((nI (6 * k)) + (1 : Int32)).toNatClampNeg) hR_tb hR_lk hR_bd hR_pl) (cwV 1 hts (ng_V tw_285 tw_286 tw_287 tw_1 tw_288) rfl rfl rfl (by decide +kernel) ⟨Nat.le_of_ble_eq_true rfl, Nat.le_of_ble_eq_true rfl⟩) ⟨fun a U g mk q => by obtain ⟨q0, q1, qP, qK, qD⟩ := q; exact ⟨q0, q1, qP, va_K.moved (u := U) (U := U.calling g mk a) (Vm.Alike.refl U.vm) qK, qD⟩, va_recv hKc hPc (ci := 4) (q0 := 0) rfl rfl, fun U hU hW => ⟨rfl, by rw [hU], by rw [hU]; exact hPc, va_K.moved hW.alike hKc, hDc.weaken (fun _ _ _ _ => trivial)⟩⟩ rfl rfl hl.1 rfl (lv_room (Nat.le_of_ble_eq_true rfl)) nd_Law_law_327 ⟨Nat.le_of_ble_eq_true rfl, Nat.le_of_ble_eq_true rfl⟩) hS (fun q _ h => hFc q h) hFc (fun r_108 u t H1 locs ht hvm hw hB hz1 hk1 hS => ?_)
      obtain ⟨hP1, hK1, hD1⟩ := hB
      rw [ht] at hP1
      have w_109 := hw
      obtain ⟨hP, hD⟩ := cr_jL hP hD hk1 hFc hP1 hD1
      generalize H1 = H at hP hS ⊢
      refine lv_aload_n hx hb nd_Law_law_330 rfl (lv_at hl 2 rfl) ?_
      refine lv_aload_n hx hb nd_Law_law_331 rfl (lv_at hl 0 rfl) ?_
      refine lv_iload_n hx hb nd_Law_law_332 rfl (lv_at hl 3 rfl) ?_
      refine lv_iconst (v := 1) hx hb nd_Law_law_333 (by decide) ?_
      refine lv_iadd hx hb nd_Law_law_334 ?_
      have e_110 : ((nI (6 * k)) + (1 : Int32)).toInt = (nI (6 * k)).toInt + (1 : Int32).toInt := cr_add (by omega)
      have b_111 : vp_in ((nI (6 * k)) + (1 : Int32)) L := vp_in_iff.mpr (by omega)
      refine va_sld hx hb hX hbl hbA hS b_111 nd_Law_law_335 ?_
      have hPc := cr_PR hP
      have hDc := cr_DR hD
      have hFc := cr_FW hDc hS hA
      refine va_calli (va_runV (As := [.int (xs ((nI (6 * k)) + (1 : Int32)).toNatClampNeg)]) (rest := [.int r_108]) ⟨hx, hb, hml, hown, hts⟩ (ct_Ref_rank l dC dI cI cZ cJ arf H.size rf lat ln (xs ((nI (6 * k)) + (1 : Int32)).toNatClampNeg) hR_rf) (cwV 1 hts (ng_V tw_539 tw_540 tw_541 tw_6 tw_542) rfl rfl rfl (by decide +kernel) ⟨Nat.le_of_ble_eq_true rfl, Nat.le_of_ble_eq_true rfl⟩) ⟨fun a U g mk q => by obtain ⟨q0, q1, qP, qK, qD⟩ := q; exact ⟨q0, q1, qP, va_K.moved (u := U) (U := U.calling g mk a) (Vm.Alike.refl U.vm) qK, qD⟩, va_recv hKr hPc (ci := 5) (q0 := 0) rfl rfl, fun U hU hW => ⟨rfl, by rw [hU], by rw [hU]; exact hPc, va_K.moved hW.alike hKr, hDc.weaken (fun _ _ _ _ => trivial)⟩⟩ rfl rfl hl.1 rfl (lv_room (Nat.le_of_ble_eq_true rfl)) nd_Law_law_336 ⟨Nat.le_of_ble_eq_true rfl, Nat.le_of_ble_eq_true rfl⟩) hS (fun q _ h => hFc q h) hFc (fun r_112 u t H1 locs ht hvm hw hB hz1 hk1 hS => ?_)
      obtain ⟨hP1, hK1, hD1⟩ := hB
      rw [ht] at hP1
      have w_113 := hw
      obtain ⟨hP, hD⟩ := cr_jR hP hD hk1 hFc hP1 hD1
      generalize H1 = H at hP hS ⊢
      have hs9 := s_rank k mn lt pl bd lk tr tb rf lat ln (xs ((nI (6 * k)) + (1 : Int32)).toNatClampNeg) (by omega) hsim
      try rw [← w_109] at hs9
      try rw [← w_113] at hs9
      have heq := hs9
      have hsim := s_skip k _ _ _ _ _ _ _ _ _ _ hsim
      refine lv_icmp_eq (tgt := 523) hx hb nd_Law_law_339 (by decide) (fun c_9 => ?_) (fun c_9 => absurd heq c_9)
      refine lv_iinc (v := nI (6 * (k + 1))) (lv' := [(3, .int (nI (6 * (k + 1)))), (0, .ref b), (1, .ref (amn 0)), (2, .ref (arf 0))]) hx hb nd_Law_law_523 hl (k := 3) rfl (by rw [show (Int32.ofInt 6) = nI 6 by decide, nI_add]; congr 1) (by decide) rfl (fun ls hl => ?_)
      refine lv_goto (tgt := 18) hx hb nd_Law_law_526 (by decide) ?_
      exact ih (k + 1) (by omega) (by omega) mn lt pl bd lk tr tb rf lat ln hsim _ _ hK hP hD hS _ (lv_sub hl [1, 2, 3, 0] rfl)
    have c_105t := cr_ne c_105
    by_cases c_114 : ((xs (nI (6 * k)).toNatClampNeg) &&& (15 : Int32)) = 6
    · have c_114t := cr_eq c_114
      refine lv_tableIn (tgt := 344) hx hb nd_Law_law_33 (by omega) (by omega) (by rw [show (((xs (nI (6 * k)).toNatClampNeg) &&& (15 : Int32)).toInt - 0).toNat = 6 by omega]; rfl) (by decide) ?_
      refine lv_aload_n hx hb nd_Law_law_344 rfl (lv_at hl 1 rfl) ?_
      refine lv_aload_n hx hb nd_Law_law_345 rfl (lv_at hl 0 rfl) ?_
      refine lv_iload_n hx hb nd_Law_law_346 rfl (lv_at hl 3 rfl) ?_
      refine lv_iconst (v := 1) hx hb nd_Law_law_347 (by decide) ?_
      refine lv_iadd hx hb nd_Law_law_348 ?_
      have e_115 : ((nI (6 * k)) + (1 : Int32)).toInt = (nI (6 * k)).toInt + (1 : Int32).toInt := cr_add (by omega)
      have b_116 : vp_in ((nI (6 * k)) + (1 : Int32)) L := vp_in_iff.mpr (by omega)
      refine va_sld hx hb hX hbl hbA hS b_116 nd_Law_law_349 ?_
      have hPc := cr_PL hP
      have hDc := cr_DL hD
      have hFc := cr_FW hDc hS hA
      refine va_calli (va_runV (As := [.int (xs ((nI (6 * k)) + (1 : Int32)).toNatClampNeg)]) (rest := []) ⟨hx, hb, hml, hown, hts⟩ (ct_Main_holder l dC dI cI cZ cO amn apl abd alk atr atb H.size mn lt pl bd lk tr tb (xs ((nI (6 * k)) + (1 : Int32)).toNatClampNeg) hR_tb hR_lk hR_bd hR_pl) (cwV 1 hts (ng_V tw_290 tw_291 tw_292 tw_1 tw_293) rfl rfl rfl (by decide +kernel) ⟨Nat.le_of_ble_eq_true rfl, Nat.le_of_ble_eq_true rfl⟩) ⟨fun a U g mk q => by obtain ⟨q0, q1, qP, qK, qD⟩ := q; exact ⟨q0, q1, qP, va_K.moved (u := U) (U := U.calling g mk a) (Vm.Alike.refl U.vm) qK, qD⟩, va_recv hKc hPc (ci := 4) (q0 := 0) rfl rfl, fun U hU hW => ⟨rfl, by rw [hU], by rw [hU]; exact hPc, va_K.moved hW.alike hKc, hDc.weaken (fun _ _ _ _ => trivial)⟩⟩ rfl rfl hl.1 rfl (lv_room (Nat.le_of_ble_eq_true rfl)) nd_Law_law_350 ⟨Nat.le_of_ble_eq_true rfl, Nat.le_of_ble_eq_true rfl⟩) hS (fun q _ h => hFc q h) hFc (fun r_117 u t H1 locs ht hvm hw hB hz1 hk1 hS => ?_)
      obtain ⟨hP1, hK1, hD1⟩ := hB
      rw [ht] at hP1
      have w_118 := hw
      obtain ⟨hP, hD⟩ := cr_jL hP hD hk1 hFc hP1 hD1
      generalize H1 = H at hP hS ⊢
      refine lv_aload_n hx hb nd_Law_law_353 rfl (lv_at hl 2 rfl) ?_
      refine lv_aload_n hx hb nd_Law_law_354 rfl (lv_at hl 0 rfl) ?_
      refine lv_iload_n hx hb nd_Law_law_355 rfl (lv_at hl 3 rfl) ?_
      refine lv_iconst (v := 1) hx hb nd_Law_law_356 (by decide) ?_
      refine lv_iadd hx hb nd_Law_law_357 ?_
      have e_119 : ((nI (6 * k)) + (1 : Int32)).toInt = (nI (6 * k)).toInt + (1 : Int32).toInt := cr_add (by omega)
      have b_120 : vp_in ((nI (6 * k)) + (1 : Int32)) L := vp_in_iff.mpr (by omega)
      refine va_sld hx hb hX hbl hbA hS b_120 nd_Law_law_358 ?_
      have hPc := cr_PR hP
      have hDc := cr_DR hD
      have hFc := cr_FW hDc hS hA
      refine va_calli (va_runV (As := [.int (xs ((nI (6 * k)) + (1 : Int32)).toNatClampNeg)]) (rest := [.int r_117]) ⟨hx, hb, hml, hown, hts⟩ (ct_Ref_holder l dC dI cI cZ cJ arf H.size rf lat ln (xs ((nI (6 * k)) + (1 : Int32)).toNatClampNeg) hR_rf) (cwV 1 hts (ng_V tw_543 tw_544 tw_545 tw_6 tw_546) rfl rfl rfl (by decide +kernel) ⟨Nat.le_of_ble_eq_true rfl, Nat.le_of_ble_eq_true rfl⟩) ⟨fun a U g mk q => by obtain ⟨q0, q1, qP, qK, qD⟩ := q; exact ⟨q0, q1, qP, va_K.moved (u := U) (U := U.calling g mk a) (Vm.Alike.refl U.vm) qK, qD⟩, va_recv hKr hPc (ci := 5) (q0 := 0) rfl rfl, fun U hU hW => ⟨rfl, by rw [hU], by rw [hU]; exact hPc, va_K.moved hW.alike hKr, hDc.weaken (fun _ _ _ _ => trivial)⟩⟩ rfl rfl hl.1 rfl (lv_room (Nat.le_of_ble_eq_true rfl)) nd_Law_law_359 ⟨Nat.le_of_ble_eq_true rfl, Nat.le_of_ble_eq_true rfl⟩) hS (fun q _ h => hFc q h) hFc (fun r_121 u t H1 locs ht hvm hw hB hz1 hk1 hS => ?_)
      obtain ⟨hP1, hK1, hD1⟩ := hB
      rw [ht] at hP1
      have w_122 := hw
      obtain ⟨hP, hD⟩ := cr_jR hP hD hk1 hFc hP1 hD1
      generalize H1 = H at hP hS ⊢
      have hs9 := s_holder k mn lt pl bd lk tr tb rf lat ln (xs ((nI (6 * k)) + (1 : Int32)).toNatClampNeg) (by omega) hsim
      try rw [← w_118] at hs9
      try rw [← w_122] at hs9
      have heq := hs9
      have hsim := s_skip k _ _ _ _ _ _ _ _ _ _ hsim
      refine lv_icmp_eq (tgt := 523) hx hb nd_Law_law_362 (by decide) (fun c_9 => ?_) (fun c_9 => absurd heq c_9)
      refine lv_iinc (v := nI (6 * (k + 1))) (lv' := [(3, .int (nI (6 * (k + 1)))), (0, .ref b), (1, .ref (amn 0)), (2, .ref (arf 0))]) hx hb nd_Law_law_523 hl (k := 3) rfl (by rw [show (Int32.ofInt 6) = nI 6 by decide, nI_add]; congr 1) (by decide) rfl (fun ls hl => ?_)
      refine lv_goto (tgt := 18) hx hb nd_Law_law_526 (by decide) ?_
      exact ih (k + 1) (by omega) (by omega) mn lt pl bd lk tr tb rf lat ln hsim _ _ hK hP hD hS _ (lv_sub hl [1, 2, 3, 0] rfl)
    have c_114t := cr_ne c_114
    by_cases c_123 : ((xs (nI (6 * k)).toNatClampNeg) &&& (15 : Int32)) = 7
    · have c_123t := cr_eq c_123
      refine lv_tableIn (tgt := 367) hx hb nd_Law_law_33 (by omega) (by omega) (by rw [show (((xs (nI (6 * k)).toNatClampNeg) &&& (15 : Int32)).toInt - 0).toNat = 7 by omega]; rfl) (by decide) ?_
      refine lv_aload_n hx hb nd_Law_law_367 rfl (lv_at hl 1 rfl) ?_
      refine lv_aload_n hx hb nd_Law_law_368 rfl (lv_at hl 0 rfl) ?_
      refine lv_iload_n hx hb nd_Law_law_369 rfl (lv_at hl 3 rfl) ?_
      refine lv_iconst (v := 1) hx hb nd_Law_law_370 (by decide) ?_
      refine lv_iadd hx hb nd_Law_law_371 ?_
      have e_124 : ((nI (6 * k)) + (1 : Int32)).toInt = (nI (6 * k)).toInt + (1 : Int32).toInt := cr_add (by omega)
      have b_125 : vp_in ((nI (6 * k)) + (1 : Int32)) L := vp_in_iff.mpr (by omega)
      refine va_sld hx hb hX hbl hbA hS b_125 nd_Law_law_372 ?_
      have hPc := cr_PL hP
      have hDc := cr_DL hD
      have hFc := cr_FW hDc hS hA
      refine va_calll (va_runV (As := [.int (xs ((nI (6 * k)) + (1 : Int32)).toNatClampNeg)]) (rest := []) ⟨hx, hb, hml, hown, hts⟩ (ct_Main_blocking l dC dI cI cZ cO amn apl abd alk atr atb H.size mn lt pl bd lk tr tb (xs ((nI (6 * k)) + (1 : Int32)).toNatClampNeg) hR_tb hR_lk hR_bd hR_pl) (cwV 1 hts (ng_V tw_294 tw_295 tw_296 tw_1 tw_297) rfl rfl rfl (by decide +kernel) ⟨Nat.le_of_ble_eq_true rfl, Nat.le_of_ble_eq_true rfl⟩) ⟨fun a U g mk q => by obtain ⟨q0, q1, qP, qK, qD⟩ := q; exact ⟨q0, q1, qP, va_K.moved (u := U) (U := U.calling g mk a) (Vm.Alike.refl U.vm) qK, qD⟩, va_recv hKc hPc (ci := 4) (q0 := 0) rfl rfl, fun U hU hW => ⟨rfl, by rw [hU], by rw [hU]; exact hPc, va_K.moved hW.alike hKc, hDc.weaken (fun _ _ _ _ => trivial)⟩⟩ rfl rfl hl.1 rfl (lv_room (Nat.le_of_ble_eq_true rfl)) nd_Law_law_373 ⟨Nat.le_of_ble_eq_true rfl, Nat.le_of_ble_eq_true rfl⟩) hS (fun q _ h => hFc q h) hFc (fun r_126 u t H1 locs ht hvm hw hB hz1 hk1 hS => ?_)
      obtain ⟨hP1, hK1, hD1⟩ := hB
      rw [ht] at hP1
      have w_127 := hw
      obtain ⟨hP, hD⟩ := cr_jL hP hD hk1 hFc hP1 hD1
      generalize H1 = H at hP hS ⊢
      refine lv_aload_n hx hb nd_Law_law_376 rfl (lv_at hl 2 rfl) ?_
      refine lv_aload_n hx hb nd_Law_law_377 rfl (lv_at hl 0 rfl) ?_
      refine lv_iload_n hx hb nd_Law_law_378 rfl (lv_at hl 3 rfl) ?_
      refine lv_iconst (v := 1) hx hb nd_Law_law_379 (by decide) ?_
      refine lv_iadd hx hb nd_Law_law_380 ?_
      have e_128 : ((nI (6 * k)) + (1 : Int32)).toInt = (nI (6 * k)).toInt + (1 : Int32).toInt := cr_add (by omega)
      have b_129 : vp_in ((nI (6 * k)) + (1 : Int32)) L := vp_in_iff.mpr (by omega)
      refine va_sld hx hb hX hbl hbA hS b_129 nd_Law_law_381 ?_
      have hPc := cr_PR hP
      have hDc := cr_DR hD
      have hFc := cr_FW hDc hS hA
      refine va_calll (va_runV (As := [.int (xs ((nI (6 * k)) + (1 : Int32)).toNatClampNeg)]) (rest := [.long r_126]) ⟨hx, hb, hml, hown, hts⟩ (ct_Ref_blocking l dC dI cI cZ cJ arf H.size rf lat ln (xs ((nI (6 * k)) + (1 : Int32)).toNatClampNeg) hR_rf) (cwV 1 hts (ng_V tw_547 tw_548 tw_549 tw_6 tw_550) rfl rfl rfl (by decide +kernel) ⟨Nat.le_of_ble_eq_true rfl, Nat.le_of_ble_eq_true rfl⟩) ⟨fun a U g mk q => by obtain ⟨q0, q1, qP, qK, qD⟩ := q; exact ⟨q0, q1, qP, va_K.moved (u := U) (U := U.calling g mk a) (Vm.Alike.refl U.vm) qK, qD⟩, va_recv hKr hPc (ci := 5) (q0 := 0) rfl rfl, fun U hU hW => ⟨rfl, by rw [hU], by rw [hU]; exact hPc, va_K.moved hW.alike hKr, hDc.weaken (fun _ _ _ _ => trivial)⟩⟩ rfl rfl hl.1 rfl (lv_room (Nat.le_of_ble_eq_true rfl)) nd_Law_law_382 ⟨Nat.le_of_ble_eq_true rfl, Nat.le_of_ble_eq_true rfl⟩) hS (fun q _ h => hFc q h) hFc (fun r_130 u t H1 locs ht hvm hw hB hz1 hk1 hS => ?_)
      obtain ⟨hP1, hK1, hD1⟩ := hB
      rw [ht] at hP1
      have w_131 := hw
      obtain ⟨hP, hD⟩ := cr_jR hP hD hk1 hFc hP1 hD1
      generalize H1 = H at hP hS ⊢
      refine W.lcmp hx hb nd_Law_law_385 ?_
      have hs9 := s_blocking k mn lt pl bd lk tr tb rf lat ln (xs ((nI (6 * k)) + (1 : Int32)).toNatClampNeg) (by omega) hsim
      try rw [← w_127] at hs9
      try rw [← w_131] at hs9
      have heq := hs9
      have hsim := s_skip k _ _ _ _ _ _ _ _ _ _ hsim
      refine lv_if_eq (tgt := 523) hx hb nd_Law_law_386 (by decide) (fun c_9 => ?_) (fun c_9 => absurd (by rw [heq]; exact cr_cmp _) c_9)
      refine lv_iinc (v := nI (6 * (k + 1))) (lv' := [(3, .int (nI (6 * (k + 1)))), (0, .ref b), (1, .ref (amn 0)), (2, .ref (arf 0))]) hx hb nd_Law_law_523 hl (k := 3) rfl (by rw [show (Int32.ofInt 6) = nI 6 by decide, nI_add]; congr 1) (by decide) rfl (fun ls hl => ?_)
      refine lv_goto (tgt := 18) hx hb nd_Law_law_526 (by decide) ?_
      exact ih (k + 1) (by omega) (by omega) mn lt pl bd lk tr tb rf lat ln hsim _ _ hK hP hD hS _ (lv_sub hl [1, 2, 3, 0] rfl)
    have c_123t := cr_ne c_123
    by_cases c_132 : ((xs (nI (6 * k)).toNatClampNeg) &&& (15 : Int32)) = 8
    · have c_132t := cr_eq c_132
      refine lv_tableIn (tgt := 391) hx hb nd_Law_law_33 (by omega) (by omega) (by rw [show (((xs (nI (6 * k)).toNatClampNeg) &&& (15 : Int32)).toInt - 0).toNat = 8 by omega]; rfl) (by decide) ?_
      refine lv_aload_n hx hb nd_Law_law_391 rfl (lv_at hl 1 rfl) ?_
      refine lv_aload_n hx hb nd_Law_law_392 rfl (lv_at hl 0 rfl) ?_
      refine lv_iload_n hx hb nd_Law_law_393 rfl (lv_at hl 3 rfl) ?_
      refine lv_iconst (v := 1) hx hb nd_Law_law_394 (by decide) ?_
      refine lv_iadd hx hb nd_Law_law_395 ?_
      have e_133 : ((nI (6 * k)) + (1 : Int32)).toInt = (nI (6 * k)).toInt + (1 : Int32).toInt := cr_add (by omega)
      have b_134 : vp_in ((nI (6 * k)) + (1 : Int32)) L := vp_in_iff.mpr (by omega)
      refine va_sld hx hb hX hbl hbA hS b_134 nd_Law_law_396 ?_
      refine lv_aload_n hx hb nd_Law_law_397 rfl (lv_at hl 0 rfl) ?_
      refine lv_iload_n hx hb nd_Law_law_398 rfl (lv_at hl 3 rfl) ?_
      refine lv_iconst (v := 2) hx hb nd_Law_law_399 (by decide) ?_
      refine lv_iadd hx hb nd_Law_law_400 ?_
      have e_135 : ((nI (6 * k)) + (2 : Int32)).toInt = (nI (6 * k)).toInt + (2 : Int32).toInt := cr_add (by omega)
      have b_136 : vp_in ((nI (6 * k)) + (2 : Int32)) L := vp_in_iff.mpr (by omega)
      refine va_sld hx hb hX hbl hbA hS b_136 nd_Law_law_401 ?_
      have hPc := cr_PL hP
      have hDc := cr_DL hD
      have hFc := cr_FW hDc hS hA
      refine va_calli (va_runV (As := [.int (xs ((nI (6 * k)) + (1 : Int32)).toNatClampNeg), .int (xs ((nI (6 * k)) + (2 : Int32)).toNatClampNeg)]) (rest := []) ⟨hx, hb, hml, hown, hts⟩ (ct_Main_lock l dC dI cI cZ cO amn apl abd alk atr atb H.size mn lt pl bd lk tr tb (xs ((nI (6 * k)) + (1 : Int32)).toNatClampNeg) (xs ((nI (6 * k)) + (2 : Int32)).toNatClampNeg) hR_tb hR_lk hR_bd hR_pl) (cwV 2 hts (ng_V tw_308 tw_309 tw_310 tw_1 tw_311) rfl rfl rfl (by decide +kernel) ⟨Nat.le_of_ble_eq_true rfl, Nat.le_of_ble_eq_true rfl⟩) ⟨fun a U g mk q => by obtain ⟨q0, q1, qP, qK, qD⟩ := q; exact ⟨q0, q1, qP, va_K.moved (u := U) (U := U.calling g mk a) (Vm.Alike.refl U.vm) qK, qD⟩, va_recv hKc hPc (ci := 4) (q0 := 0) rfl rfl, fun U hU hW => ⟨rfl, by rw [hU], by rw [hU]; exact hPc, va_K.moved hW.alike hKc, hDc.weaken (fun _ _ _ _ => trivial)⟩⟩ rfl rfl hl.1 rfl (lv_room (Nat.le_of_ble_eq_true rfl)) nd_Law_law_402 ⟨Nat.le_of_ble_eq_true rfl, Nat.le_of_ble_eq_true rfl⟩) hS (fun q _ h => hFc q h) hFc (fun r_137 u t H1 locs ht hvm hw hB hz1 hk1 hS => ?_)
      obtain ⟨hP1, hK1, hD1⟩ := hB
      rw [ht] at hP1
      obtain ⟨lkq_139, rfl⟩ : ∃ z, z = u := ⟨_, rfl⟩
      obtain ⟨w_138, w_140, hR_141⟩ := hw
      obtain ⟨hP, hD⟩ := cr_jL hP hD hk1 hFc hP1 hD1
      generalize H1 = H at hP hS ⊢
      refine lv_aload_n hx hb nd_Law_law_405 rfl (lv_at hl 2 rfl) ?_
      refine lv_aload_n hx hb nd_Law_law_406 rfl (lv_at hl 0 rfl) ?_
      refine lv_iload_n hx hb nd_Law_law_407 rfl (lv_at hl 3 rfl) ?_
      refine lv_iconst (v := 1) hx hb nd_Law_law_408 (by decide) ?_
      refine lv_iadd hx hb nd_Law_law_409 ?_
      have e_142 : ((nI (6 * k)) + (1 : Int32)).toInt = (nI (6 * k)).toInt + (1 : Int32).toInt := cr_add (by omega)
      have b_143 : vp_in ((nI (6 * k)) + (1 : Int32)) L := vp_in_iff.mpr (by omega)
      refine va_sld hx hb hX hbl hbA hS b_143 nd_Law_law_410 ?_
      refine lv_aload_n hx hb nd_Law_law_411 rfl (lv_at hl 0 rfl) ?_
      refine lv_iload_n hx hb nd_Law_law_412 rfl (lv_at hl 3 rfl) ?_
      refine lv_iconst (v := 2) hx hb nd_Law_law_413 (by decide) ?_
      refine lv_iadd hx hb nd_Law_law_414 ?_
      have e_144 : ((nI (6 * k)) + (2 : Int32)).toInt = (nI (6 * k)).toInt + (2 : Int32).toInt := cr_add (by omega)
      have b_145 : vp_in ((nI (6 * k)) + (2 : Int32)) L := vp_in_iff.mpr (by omega)
      refine va_sld hx hb hX hbl hbA hS b_145 nd_Law_law_415 ?_
      have hPc := cr_PR hP
      have hDc := cr_DR hD
      have hFc := cr_FW hDc hS hA
      refine va_calli (va_runV (As := [.int (xs ((nI (6 * k)) + (1 : Int32)).toNatClampNeg), .int (xs ((nI (6 * k)) + (2 : Int32)).toNatClampNeg)]) (rest := [.int r_137]) ⟨hx, hb, hml, hown, hts⟩ (ct_Ref_lock l dC dI cI cZ cJ arf H.size rf lat ln (xs ((nI (6 * k)) + (1 : Int32)).toNatClampNeg) (xs ((nI (6 * k)) + (2 : Int32)).toNatClampNeg) hR_rf) (cwV 2 hts (ng_V tw_560 tw_561 tw_562 tw_6 tw_563) rfl rfl rfl (by decide +kernel) ⟨Nat.le_of_ble_eq_true rfl, Nat.le_of_ble_eq_true rfl⟩) ⟨fun a U g mk q => by obtain ⟨q0, q1, qP, qK, qD⟩ := q; exact ⟨q0, q1, qP, va_K.moved (u := U) (U := U.calling g mk a) (Vm.Alike.refl U.vm) qK, qD⟩, va_recv hKr hPc (ci := 5) (q0 := 0) rfl rfl, fun U hU hW => ⟨rfl, by rw [hU], by rw [hU]; exact hPc, va_K.moved hW.alike hKr, hDc.weaken (fun _ _ _ _ => trivial)⟩⟩ rfl rfl hl.1 rfl (lv_room (Nat.le_of_ble_eq_true rfl)) nd_Law_law_416 ⟨Nat.le_of_ble_eq_true rfl, Nat.le_of_ble_eq_true rfl⟩) hS (fun q _ h => hFc q h) hFc (fun r_146 u t H1 locs ht hvm hw hB hz1 hk1 hS => ?_)
      obtain ⟨hP1, hK1, hD1⟩ := hB
      rw [ht] at hP1
      obtain ⟨rfq_148, rfl⟩ : ∃ z, z = u := ⟨_, rfl⟩
      obtain ⟨w_147, w_149, hR_150⟩ := hw
      obtain ⟨hP, hD⟩ := cr_jR hP hD hk1 hFc hP1 hD1
      generalize H1 = H at hP hS ⊢
      have hs9 := s_lock k mn lt pl bd lk tr tb rf lat ln (xs ((nI (6 * k)) + (1 : Int32)).toNatClampNeg) (xs ((nI (6 * k)) + (2 : Int32)).toNatClampNeg) (by omega) hsim
      try rw [← w_138] at hs9
      try rw [← w_140] at hs9
      try rw [← w_147] at hs9
      try rw [← w_149] at hs9
      obtain ⟨heq, hsim⟩ := hs9
      refine lv_icmp_eq (tgt := 523) hx hb nd_Law_law_419 (by decide) (fun c_9 => ?_) (fun c_9 => absurd heq c_9)
      refine lv_iinc (v := nI (6 * (k + 1))) (lv' := [(3, .int (nI (6 * (k + 1)))), (0, .ref b), (1, .ref (amn 0)), (2, .ref (arf 0))]) hx hb nd_Law_law_523 hl (k := 3) rfl (by rw [show (Int32.ofInt 6) = nI 6 by decide, nI_add]; congr 1) (by decide) rfl (fun ls hl => ?_)
      refine lv_goto (tgt := 18) hx hb nd_Law_law_526 (by decide) ?_
      exact ih (k + 1) (by omega) (by omega) mn lt pl bd lkq_139 tr tb rfq_148 lat ln hsim _ _ hK hP hD hS _ (lv_sub hl [1, 2, 3, 0] rfl)
    have c_132t := cr_ne c_132
    by_cases c_151 : ((xs (nI (6 * k)).toNatClampNeg) &&& (15 : Int32)) = 9
    · have c_151t := cr_eq c_151
      refine lv_tableIn (tgt := 424) hx hb nd_Law_law_33 (by omega) (by omega) (by rw [show (((xs (nI (6 * k)).toNatClampNeg) &&& (15 : Int32)).toInt - 0).toNat = 9 by omega]; rfl) (by decide) ?_
      refine lv_aload_n hx hb nd_Law_law_424 rfl (lv_at hl 1 rfl) ?_
      have hPc := cr_PL hP
      have hDc := cr_DL hD
      have hFc := cr_FW hDc hS hA
      refine va_calli (va_runV (As := []) (rest := []) ⟨hx, hb, hml, hown, hts⟩ (ct_Main_ring l dC dI cI cZ cO amn apl abd alk atr atb H.size mn lt pl bd lk tr tb  hR_tb hR_lk hR_bd hR_pl) (cwV 0 hts (ng_V tw_328 tw_329 tw_330 tw_1 tw_331) rfl rfl rfl (by decide +kernel) ⟨Nat.le_of_ble_eq_true rfl, Nat.le_of_ble_eq_true rfl⟩) ⟨fun a U g mk q => by obtain ⟨q0, q1, qP, qK, qD⟩ := q; exact ⟨q0, q1, qP, va_K.moved (u := U) (U := U.calling g mk a) (Vm.Alike.refl U.vm) qK, qD⟩, va_recv hKc hPc (ci := 4) (q0 := 0) rfl rfl, fun U hU hW => ⟨rfl, by rw [hU], by rw [hU]; exact hPc, va_K.moved hW.alike hKc, hDc.weaken (fun _ _ _ _ => trivial)⟩⟩ rfl rfl hl.1 rfl (lv_room (Nat.le_of_ble_eq_true rfl)) nd_Law_law_425 ⟨Nat.le_of_ble_eq_true rfl, Nat.le_of_ble_eq_true rfl⟩) hS (fun q _ h => hFc q h) hFc (fun r_152 u t H1 locs ht hvm hw hB hz1 hk1 hS => ?_)
      obtain ⟨hP1, hK1, hD1⟩ := hB
      rw [ht] at hP1
      have w_153 := hw
      obtain ⟨hP, hD⟩ := cr_jL hP hD hk1 hFc hP1 hD1
      generalize H1 = H at hP hS ⊢
      refine lv_aload_n hx hb nd_Law_law_428 rfl (lv_at hl 2 rfl) ?_
      have hPc := cr_PR hP
      have hDc := cr_DR hD
      have hFc := cr_FW hDc hS hA
      refine va_calli (va_runV (As := []) (rest := [.int r_152]) ⟨hx, hb, hml, hown, hts⟩ (ct_Ref_ring l dC dI cI cZ cJ arf H.size rf lat ln  hR_rf) (cwV 0 hts (ng_V tw_572 tw_573 tw_574 tw_6 tw_575) rfl rfl rfl (by decide +kernel) ⟨Nat.le_of_ble_eq_true rfl, Nat.le_of_ble_eq_true rfl⟩) ⟨fun a U g mk q => by obtain ⟨q0, q1, qP, qK, qD⟩ := q; exact ⟨q0, q1, qP, va_K.moved (u := U) (U := U.calling g mk a) (Vm.Alike.refl U.vm) qK, qD⟩, va_recv hKr hPc (ci := 5) (q0 := 0) rfl rfl, fun U hU hW => ⟨rfl, by rw [hU], by rw [hU]; exact hPc, va_K.moved hW.alike hKr, hDc.weaken (fun _ _ _ _ => trivial)⟩⟩ rfl rfl hl.1 rfl (lv_room (Nat.le_of_ble_eq_true rfl)) nd_Law_law_429 ⟨Nat.le_of_ble_eq_true rfl, Nat.le_of_ble_eq_true rfl⟩) hS (fun q _ h => hFc q h) hFc (fun r_154 u t H1 locs ht hvm hw hB hz1 hk1 hS => ?_)
      obtain ⟨hP1, hK1, hD1⟩ := hB
      rw [ht] at hP1
      have w_155 := hw
      obtain ⟨hP, hD⟩ := cr_jR hP hD hk1 hFc hP1 hD1
      generalize H1 = H at hP hS ⊢
      have hs9 := s_ring k mn lt pl bd lk tr tb rf lat ln (by omega) hsim
      try rw [← w_153] at hs9
      try rw [← w_155] at hs9
      have heq := hs9
      have hsim := s_skip k _ _ _ _ _ _ _ _ _ _ hsim
      refine lv_icmp_eq (tgt := 523) hx hb nd_Law_law_432 (by decide) (fun c_9 => ?_) (fun c_9 => absurd heq c_9)
      refine lv_iinc (v := nI (6 * (k + 1))) (lv' := [(3, .int (nI (6 * (k + 1)))), (0, .ref b), (1, .ref (amn 0)), (2, .ref (arf 0))]) hx hb nd_Law_law_523 hl (k := 3) rfl (by rw [show (Int32.ofInt 6) = nI 6 by decide, nI_add]; congr 1) (by decide) rfl (fun ls hl => ?_)
      refine lv_goto (tgt := 18) hx hb nd_Law_law_526 (by decide) ?_
      exact ih (k + 1) (by omega) (by omega) mn lt pl bd lk tr tb rf lat ln hsim _ _ hK hP hD hS _ (lv_sub hl [1, 2, 3, 0] rfl)
    have c_151t := cr_ne c_151
    by_cases c_156 : ((xs (nI (6 * k)).toNatClampNeg) &&& (15 : Int32)) = 10
    · have c_156t := cr_eq c_156
      refine lv_tableIn (tgt := 437) hx hb nd_Law_law_33 (by omega) (by omega) (by rw [show (((xs (nI (6 * k)).toNatClampNeg) &&& (15 : Int32)).toInt - 0).toNat = 10 by omega]; rfl) (by decide) ?_
      refine lv_aload_n hx hb nd_Law_law_437 rfl (lv_at hl 1 rfl) ?_
      refine lv_aload_n hx hb nd_Law_law_438 rfl (lv_at hl 0 rfl) ?_
      refine lv_iload_n hx hb nd_Law_law_439 rfl (lv_at hl 3 rfl) ?_
      refine lv_iconst (v := 1) hx hb nd_Law_law_440 (by decide) ?_
      refine lv_iadd hx hb nd_Law_law_441 ?_
      have e_157 : ((nI (6 * k)) + (1 : Int32)).toInt = (nI (6 * k)).toInt + (1 : Int32).toInt := cr_add (by omega)
      have b_158 : vp_in ((nI (6 * k)) + (1 : Int32)) L := vp_in_iff.mpr (by omega)
      refine va_sld hx hb hX hbl hbA hS b_158 nd_Law_law_442 ?_
      refine lv_aload_n hx hb nd_Law_law_443 rfl (lv_at hl 0 rfl) ?_
      refine lv_iload_n hx hb nd_Law_law_444 rfl (lv_at hl 3 rfl) ?_
      refine lv_iconst (v := 2) hx hb nd_Law_law_445 (by decide) ?_
      refine lv_iadd hx hb nd_Law_law_446 ?_
      have e_159 : ((nI (6 * k)) + (2 : Int32)).toInt = (nI (6 * k)).toInt + (2 : Int32).toInt := cr_add (by omega)
      have b_160 : vp_in ((nI (6 * k)) + (2 : Int32)) L := vp_in_iff.mpr (by omega)
      refine va_sld hx hb hX hbl hbA hS b_160 nd_Law_law_447 ?_
      have hPc := cr_PL hP
      have hDc := cr_DL hD
      have hFc := cr_FW hDc hS hA
      refine va_calli (va_runV (As := [.int (xs ((nI (6 * k)) + (1 : Int32)).toNatClampNeg), .int (xs ((nI (6 * k)) + (2 : Int32)).toNatClampNeg)]) (rest := []) ⟨hx, hb, hml, hown, hts⟩ (ct_Main_lower l dC dI cI cZ cO amn apl abd alk atr atb H.size mn lt pl bd lk tr tb (xs ((nI (6 * k)) + (1 : Int32)).toNatClampNeg) (xs ((nI (6 * k)) + (2 : Int32)).toNatClampNeg) hR_tb hR_lk hR_bd hR_pl) (cwV 2 hts (ng_V tw_337 tw_338 tw_339 tw_1 tw_340) rfl rfl rfl (by decide +kernel) ⟨Nat.le_of_ble_eq_true rfl, Nat.le_of_ble_eq_true rfl⟩) ⟨fun a U g mk q => by obtain ⟨q0, q1, qP, qK, qD⟩ := q; exact ⟨q0, q1, qP, va_K.moved (u := U) (U := U.calling g mk a) (Vm.Alike.refl U.vm) qK, qD⟩, va_recv hKc hPc (ci := 4) (q0 := 0) rfl rfl, fun U hU hW => ⟨rfl, by rw [hU], by rw [hU]; exact hPc, va_K.moved hW.alike hKc, hDc.weaken (fun _ _ _ _ => trivial)⟩⟩ rfl rfl hl.1 rfl (lv_room (Nat.le_of_ble_eq_true rfl)) nd_Law_law_448 ⟨Nat.le_of_ble_eq_true rfl, Nat.le_of_ble_eq_true rfl⟩) hS (fun q _ h => hFc q h) hFc (fun r_161 u t H1 locs ht hvm hw hB hz1 hk1 hS => ?_)
      obtain ⟨hP1, hK1, hD1⟩ := hB
      rw [ht] at hP1
      have w_162 := hw
      obtain ⟨hP, hD⟩ := cr_jL hP hD hk1 hFc hP1 hD1
      generalize H1 = H at hP hS ⊢
      refine lv_aload_n hx hb nd_Law_law_451 rfl (lv_at hl 2 rfl) ?_
      refine lv_aload_n hx hb nd_Law_law_452 rfl (lv_at hl 0 rfl) ?_
      refine lv_iload_n hx hb nd_Law_law_453 rfl (lv_at hl 3 rfl) ?_
      refine lv_iconst (v := 1) hx hb nd_Law_law_454 (by decide) ?_
      refine lv_iadd hx hb nd_Law_law_455 ?_
      have e_163 : ((nI (6 * k)) + (1 : Int32)).toInt = (nI (6 * k)).toInt + (1 : Int32).toInt := cr_add (by omega)
      have b_164 : vp_in ((nI (6 * k)) + (1 : Int32)) L := vp_in_iff.mpr (by omega)
      refine va_sld hx hb hX hbl hbA hS b_164 nd_Law_law_456 ?_
      refine lv_aload_n hx hb nd_Law_law_457 rfl (lv_at hl 0 rfl) ?_
      refine lv_iload_n hx hb nd_Law_law_458 rfl (lv_at hl 3 rfl) ?_
      refine lv_iconst (v := 2) hx hb nd_Law_law_459 (by decide) ?_
      refine lv_iadd hx hb nd_Law_law_460 ?_
      have e_165 : ((nI (6 * k)) + (2 : Int32)).toInt = (nI (6 * k)).toInt + (2 : Int32).toInt := cr_add (by omega)
      have b_166 : vp_in ((nI (6 * k)) + (2 : Int32)) L := vp_in_iff.mpr (by omega)
      refine va_sld hx hb hX hbl hbA hS b_166 nd_Law_law_461 ?_
      have hPc := cr_PR hP
      have hDc := cr_DR hD
      have hFc := cr_FW hDc hS hA
      refine va_calli (va_runV (As := [.int (xs ((nI (6 * k)) + (1 : Int32)).toNatClampNeg), .int (xs ((nI (6 * k)) + (2 : Int32)).toNatClampNeg)]) (rest := [.int r_161]) ⟨hx, hb, hml, hown, hts⟩ (ct_Ref_lower l dC dI cI cZ cJ arf H.size rf lat ln (xs ((nI (6 * k)) + (1 : Int32)).toNatClampNeg) (xs ((nI (6 * k)) + (2 : Int32)).toNatClampNeg) hR_rf) (cwV 2 hts (ng_V tw_556 tw_557 tw_558 tw_6 tw_559) rfl rfl rfl (by decide +kernel) ⟨Nat.le_of_ble_eq_true rfl, Nat.le_of_ble_eq_true rfl⟩) ⟨fun a U g mk q => by obtain ⟨q0, q1, qP, qK, qD⟩ := q; exact ⟨q0, q1, qP, va_K.moved (u := U) (U := U.calling g mk a) (Vm.Alike.refl U.vm) qK, qD⟩, va_recv hKr hPc (ci := 5) (q0 := 0) rfl rfl, fun U hU hW => ⟨rfl, by rw [hU], by rw [hU]; exact hPc, va_K.moved hW.alike hKr, hDc.weaken (fun _ _ _ _ => trivial)⟩⟩ rfl rfl hl.1 rfl (lv_room (Nat.le_of_ble_eq_true rfl)) nd_Law_law_462 ⟨Nat.le_of_ble_eq_true rfl, Nat.le_of_ble_eq_true rfl⟩) hS (fun q _ h => hFc q h) hFc (fun r_167 u t H1 locs ht hvm hw hB hz1 hk1 hS => ?_)
      obtain ⟨hP1, hK1, hD1⟩ := hB
      rw [ht] at hP1
      have w_168 := hw
      obtain ⟨hP, hD⟩ := cr_jR hP hD hk1 hFc hP1 hD1
      generalize H1 = H at hP hS ⊢
      have hs9 := s_lower k mn lt pl bd lk tr tb rf lat ln (xs ((nI (6 * k)) + (1 : Int32)).toNatClampNeg) (xs ((nI (6 * k)) + (2 : Int32)).toNatClampNeg) (by omega) hsim
      try rw [← w_162] at hs9
      try rw [← w_168] at hs9
      have heq := hs9
      have hsim := s_skip k _ _ _ _ _ _ _ _ _ _ hsim
      refine lv_icmp_eq (tgt := 523) hx hb nd_Law_law_465 (by decide) (fun c_9 => ?_) (fun c_9 => absurd heq c_9)
      refine lv_iinc (v := nI (6 * (k + 1))) (lv' := [(3, .int (nI (6 * (k + 1)))), (0, .ref b), (1, .ref (amn 0)), (2, .ref (arf 0))]) hx hb nd_Law_law_523 hl (k := 3) rfl (by rw [show (Int32.ofInt 6) = nI 6 by decide, nI_add]; congr 1) (by decide) rfl (fun ls hl => ?_)
      refine lv_goto (tgt := 18) hx hb nd_Law_law_526 (by decide) ?_
      exact ih (k + 1) (by omega) (by omega) mn lt pl bd lk tr tb rf lat ln hsim _ _ hK hP hD hS _ (lv_sub hl [1, 2, 3, 0] rfl)
    have c_156t := cr_ne c_156
    by_cases c_169 : ((xs (nI (6 * k)).toNatClampNeg) &&& (15 : Int32)) = 11
    · have c_169t := cr_eq c_169
      refine lv_tableIn (tgt := 470) hx hb nd_Law_law_33 (by omega) (by omega) (by rw [show (((xs (nI (6 * k)).toNatClampNeg) &&& (15 : Int32)).toInt - 0).toNat = 11 by omega]; rfl) (by decide) ?_
      refine lv_aload_n hx hb nd_Law_law_470 rfl (lv_at hl 1 rfl) ?_
      refine lv_aload_n hx hb nd_Law_law_471 rfl (lv_at hl 0 rfl) ?_
      refine lv_iload_n hx hb nd_Law_law_472 rfl (lv_at hl 3 rfl) ?_
      refine lv_iconst (v := 1) hx hb nd_Law_law_473 (by decide) ?_
      refine lv_iadd hx hb nd_Law_law_474 ?_
      have e_170 : ((nI (6 * k)) + (1 : Int32)).toInt = (nI (6 * k)).toInt + (1 : Int32).toInt := cr_add (by omega)
      have b_171 : vp_in ((nI (6 * k)) + (1 : Int32)) L := vp_in_iff.mpr (by omega)
      refine va_sld hx hb hX hbl hbA hS b_171 nd_Law_law_475 ?_
      refine lv_i2l (v := (xs ((nI (6 * k)) + (1 : Int32)).toNatClampNeg).toInt64) hx hb nd_Law_law_476 rfl ?_
      refine lv_bipush (v := 32) hx hb nd_Law_law_477 (by decide) ?_
      refine lv_lshl (v := ((xs ((nI (6 * k)) + (1 : Int32)).toNatClampNeg).toInt64 <<< ((32 : Int32).toInt64 &&& 63))) hx hb nd_Law_law_479 rfl ?_
      refine lv_aload_n hx hb nd_Law_law_480 rfl (lv_at hl 0 rfl) ?_
      refine lv_iload_n hx hb nd_Law_law_481 rfl (lv_at hl 3 rfl) ?_
      refine lv_iconst (v := 2) hx hb nd_Law_law_482 (by decide) ?_
      refine lv_iadd hx hb nd_Law_law_483 ?_
      have e_172 : ((nI (6 * k)) + (2 : Int32)).toInt = (nI (6 * k)).toInt + (2 : Int32).toInt := cr_add (by omega)
      have b_173 : vp_in ((nI (6 * k)) + (2 : Int32)) L := vp_in_iff.mpr (by omega)
      refine va_sld hx hb hX hbl hbA hS b_173 nd_Law_law_484 ?_
      refine lv_i2l (v := (xs ((nI (6 * k)) + (2 : Int32)).toNatClampNeg).toInt64) hx hb nd_Law_law_485 rfl ?_
      refine lv_ldc2 (v := 4294967295) hx hb hown (hts _ tw_594) nd_Law_law_486 ?_
      refine lv_land hx hb nd_Law_law_489 ?_
      refine lv_lor hx hb nd_Law_law_490 ?_
      have hPc := cr_PL hP
      have hDc := cr_DL hD
      have hFc := cr_FW hDc hS hA
      refine va_calli (va_runV (As := [.long (((xs ((nI (6 * k)) + (1 : Int32)).toNatClampNeg).toInt64 <<< ((32 : Int32).toInt64 &&& 63)) ||| ((xs ((nI (6 * k)) + (2 : Int32)).toNatClampNeg).toInt64 &&& (4294967295 : Int64)))]) (rest := []) ⟨hx, hb, hml, hown, hts⟩ (ct_Main_plain l dC dI cI cZ cO amn apl abd alk atr atb H.size mn lt pl bd lk tr tb (((xs ((nI (6 * k)) + (1 : Int32)).toNatClampNeg).toInt64 <<< ((32 : Int32).toInt64 &&& 63)) ||| ((xs ((nI (6 * k)) + (2 : Int32)).toNatClampNeg).toInt64 &&& (4294967295 : Int64))) hR_tb hR_lk hR_bd hR_pl) (cwV 1 hts (ng_V tw_341 tw_342 tw_343 tw_1 tw_344) rfl rfl rfl (by decide +kernel) ⟨Nat.le_of_ble_eq_true rfl, Nat.le_of_ble_eq_true rfl⟩) ⟨fun a U g mk q => by obtain ⟨q0, q1, qP, qK, qD⟩ := q; exact ⟨q0, q1, qP, va_K.moved (u := U) (U := U.calling g mk a) (Vm.Alike.refl U.vm) qK, qD⟩, va_recv hKc hPc (ci := 4) (q0 := 0) rfl rfl, fun U hU hW => ⟨rfl, by rw [hU], by rw [hU]; exact hPc, va_K.moved hW.alike hKc, hDc.weaken (fun _ _ _ _ => trivial)⟩⟩ rfl rfl hl.1 rfl (lv_room (Nat.le_of_ble_eq_true rfl)) nd_Law_law_491 ⟨Nat.le_of_ble_eq_true rfl, Nat.le_of_ble_eq_true rfl⟩) hS (fun q _ h => hFc q h) hFc (fun r_174 u t H1 locs ht hvm hw hB hz1 hk1 hS => ?_)
      obtain ⟨hP1, hK1, hD1⟩ := hB
      rw [ht] at hP1
      obtain ⟨trq_176, tbq_178⟩ := u
      dsimp only at hw hP1 hD1
      obtain ⟨w_175, w_177, w_179, hR_180⟩ := hw
      obtain ⟨hP, hD⟩ := cr_jL hP hD hk1 hFc hP1 hD1
      generalize H1 = H at hP hS ⊢
      refine lv_aload_n hx hb nd_Law_law_494 rfl (lv_at hl 2 rfl) ?_
      refine lv_aload_n hx hb nd_Law_law_495 rfl (lv_at hl 0 rfl) ?_
      refine lv_iload_n hx hb nd_Law_law_496 rfl (lv_at hl 3 rfl) ?_
      refine lv_iconst (v := 1) hx hb nd_Law_law_497 (by decide) ?_
      refine lv_iadd hx hb nd_Law_law_498 ?_
      have e_181 : ((nI (6 * k)) + (1 : Int32)).toInt = (nI (6 * k)).toInt + (1 : Int32).toInt := cr_add (by omega)
      have b_182 : vp_in ((nI (6 * k)) + (1 : Int32)) L := vp_in_iff.mpr (by omega)
      refine va_sld hx hb hX hbl hbA hS b_182 nd_Law_law_499 ?_
      refine lv_i2l (v := (xs ((nI (6 * k)) + (1 : Int32)).toNatClampNeg).toInt64) hx hb nd_Law_law_500 rfl ?_
      refine lv_bipush (v := 32) hx hb nd_Law_law_501 (by decide) ?_
      refine lv_lshl (v := ((xs ((nI (6 * k)) + (1 : Int32)).toNatClampNeg).toInt64 <<< ((32 : Int32).toInt64 &&& 63))) hx hb nd_Law_law_503 rfl ?_
      refine lv_aload_n hx hb nd_Law_law_504 rfl (lv_at hl 0 rfl) ?_
      refine lv_iload_n hx hb nd_Law_law_505 rfl (lv_at hl 3 rfl) ?_
      refine lv_iconst (v := 2) hx hb nd_Law_law_506 (by decide) ?_
      refine lv_iadd hx hb nd_Law_law_507 ?_
      have e_183 : ((nI (6 * k)) + (2 : Int32)).toInt = (nI (6 * k)).toInt + (2 : Int32).toInt := cr_add (by omega)
      have b_184 : vp_in ((nI (6 * k)) + (2 : Int32)) L := vp_in_iff.mpr (by omega)
      refine va_sld hx hb hX hbl hbA hS b_184 nd_Law_law_508 ?_
      refine lv_i2l (v := (xs ((nI (6 * k)) + (2 : Int32)).toNatClampNeg).toInt64) hx hb nd_Law_law_509 rfl ?_
      refine lv_ldc2 (v := 4294967295) hx hb hown (hts _ tw_594) nd_Law_law_510 ?_
      refine lv_land hx hb nd_Law_law_513 ?_
      refine lv_lor hx hb nd_Law_law_514 ?_
      have hPc := cr_PR hP
      have hDc := cr_DR hD
      have hFc := cr_FW hDc hS hA
      refine va_calli (va_runV (As := [.long (((xs ((nI (6 * k)) + (1 : Int32)).toNatClampNeg).toInt64 <<< ((32 : Int32).toInt64 &&& 63)) ||| ((xs ((nI (6 * k)) + (2 : Int32)).toNatClampNeg).toInt64 &&& (4294967295 : Int64)))]) (rest := [.int r_174]) ⟨hx, hb, hml, hown, hts⟩ (ct_Ref_plain l dC dI cI cZ cJ arf H.size rf lat ln (((xs ((nI (6 * k)) + (1 : Int32)).toNatClampNeg).toInt64 <<< ((32 : Int32).toInt64 &&& 63)) ||| ((xs ((nI (6 * k)) + (2 : Int32)).toNatClampNeg).toInt64 &&& (4294967295 : Int64))) hR_rf) (cwV 1 hts (ng_V tw_576 tw_577 tw_578 tw_6 tw_579) rfl rfl rfl (by decide +kernel) ⟨Nat.le_of_ble_eq_true rfl, Nat.le_of_ble_eq_true rfl⟩) ⟨fun a U g mk q => by obtain ⟨q0, q1, qP, qK, qD⟩ := q; exact ⟨q0, q1, qP, va_K.moved (u := U) (U := U.calling g mk a) (Vm.Alike.refl U.vm) qK, qD⟩, va_recv hKr hPc (ci := 5) (q0 := 0) rfl rfl, fun U hU hW => ⟨rfl, by rw [hU], by rw [hU]; exact hPc, va_K.moved hW.alike hKr, hDc.weaken (fun _ _ _ _ => trivial)⟩⟩ rfl rfl hl.1 rfl (lv_room (Nat.le_of_ble_eq_true rfl)) nd_Law_law_515 ⟨Nat.le_of_ble_eq_true rfl, Nat.le_of_ble_eq_true rfl⟩) hS (fun q _ h => hFc q h) hFc (fun r_185 u t H1 locs ht hvm hw hB hz1 hk1 hS => ?_)
      obtain ⟨hP1, hK1, hD1⟩ := hB
      rw [ht] at hP1
      obtain ⟨rfq_187, rfl⟩ : ∃ z, z = u := ⟨_, rfl⟩
      obtain ⟨w_186, w_188, hR_189⟩ := hw
      obtain ⟨hP, hD⟩ := cr_jR hP hD hk1 hFc hP1 hD1
      generalize H1 = H at hP hS ⊢
      have hs9 := s_plain k mn lt pl bd lk tr tb rf lat ln (((xs ((nI (6 * k)) + (1 : Int32)).toNatClampNeg).toInt64 <<< ((32 : Int32).toInt64 &&& 63)) ||| ((xs ((nI (6 * k)) + (2 : Int32)).toNatClampNeg).toInt64 &&& (4294967295 : Int64))) (by omega) hsim
      try rw [← w_175] at hs9
      try rw [← w_177] at hs9
      try rw [← w_179] at hs9
      try rw [← w_186] at hs9
      try rw [← w_188] at hs9
      obtain ⟨heq, hsim⟩ := hs9
      refine lv_icmp_eq (tgt := 523) hx hb nd_Law_law_518 (by decide) (fun c_9 => ?_) (fun c_9 => absurd heq c_9)
      refine lv_iinc (v := nI (6 * (k + 1))) (lv' := [(3, .int (nI (6 * (k + 1)))), (0, .ref b), (1, .ref (amn 0)), (2, .ref (arf 0))]) hx hb nd_Law_law_523 hl (k := 3) rfl (by rw [show (Int32.ofInt 6) = nI 6 by decide, nI_add]; congr 1) (by decide) rfl (fun ls hl => ?_)
      refine lv_goto (tgt := 18) hx hb nd_Law_law_526 (by decide) ?_
      exact ih (k + 1) (by omega) (by omega) mn lt pl bd lk trq_176 tbq_178 rfq_187 lat ln hsim _ _ hK hP hD hS _ (lv_sub hl [1, 2, 3, 0] rfl)
    have c_169t := cr_ne c_169
    refine lv_tableOut (tgt := 523) hx hb nd_Law_law_33 (by omega) (by decide) ?_
    have hsim := s_skip k _ _ _ _ _ _ _ _ _ _ hsim
    refine lv_iinc (v := nI (6 * (k + 1))) (lv' := [(3, .int (nI (6 * (k + 1)))), (0, .ref b), (1, .ref (amn 0)), (2, .ref (arf 0))]) hx hb nd_Law_law_523 hl (k := 3) rfl (by rw [show (Int32.ofInt 6) = nI 6 by decide, nI_add]; congr 1) (by decide) rfl (fun ls hl => ?_)
    refine lv_goto (tgt := 18) hx hb nd_Law_law_526 (by decide) ?_
    exact ih (k + 1) (by omega) (by omega) mn lt pl bd lk tr tb rf lat ln hsim _ _ hK hP hD hS _ (lv_sub hl [1, 2, 3, 0] rfl)
