theorem nd_Main_rank_0 : decode prog_1_method_7_code 0 = .ok (.aload_n 0, 1) := by decide +kernel
theorem nd_Main_rank_1 : decode prog_1_method_7_code 1 = .ok (.getfield 12, 3) := by decide +kernel
theorem nd_Main_rank_4 : decode prog_1_method_7_code 4 = .ok (.iload_n 1, 1) := by decide +kernel
theorem nd_Main_rank_5 : decode prog_1_method_7_code 5 = .ok (.invokevirtual 66, 3) := by decide +kernel
theorem nd_Main_rank_8 : decode prog_1_method_7_code 8 = .ok (.ifCond .eq (14), 3) := by decide +kernel
theorem nd_Main_rank_11 : decode prog_1_method_7_code 11 = .ok (.aload_n 0, 1) := by decide +kernel
theorem nd_Main_rank_12 : decode prog_1_method_7_code 12 = .ok (.getfield 21, 3) := by decide +kernel
theorem nd_Main_rank_15 : decode prog_1_method_7_code 15 = .ok (.iload_n 1, 1) := by decide +kernel
theorem nd_Main_rank_16 : decode prog_1_method_7_code 16 = .ok (.invokevirtual 101, 3) := by decide +kernel
theorem nd_Main_rank_19 : decode prog_1_method_7_code 19 = .ok (.goto (4), 3) := by decide +kernel
theorem nd_Main_rank_22 : decode prog_1_method_7_code 22 = .ok (.iconst (-1), 1) := by decide +kernel
theorem nd_Main_rank_23 : decode prog_1_method_7_code 23 = .ok (.ireturn, 1) := by decide +kernel
abbrev pq_Main_rank (dC : Nat → ClassId) (dI : Nat → Nat → Nat) (cI cZ cO : ClassId) (amn apl abd alk atr atb : Nat → Nat) (mn : cr_S) (lt : Int64) (pl : cr_S) (bd : cr_S) (lk : cr_S) (tr : cr_S) (tb : cr_S) (x1 : Int32) (A : Nat → Prop) : Array Value → State → Outcome → State → Prop :=
  va_Qi (fun (r : Int32) (_ : Unit) => r = md_Main_rank mn lt pl bd lk tr tb x1) (fun (_ : Unit) t => va_P (dC, dI) vwCl (cw_Main cI cZ cO amn apl abd alk atr mn lt ++ cw_Plan cI cZ cO apl pl ++ cw_Board cI cZ cO abd apl bd ++ cw_Locks cI cZ cO alk lk ++ cw_Trial cI cZ cO atr apl atb tr ++ cw_Board cI cZ cO atb apl tb) t.heap ∧ va_K (dC, dI) vwCl [(cI, .int), (cZ, .boolean), (cO, .array .int)] t ∧ va_D A (cw_Main cI cZ cO amn apl abd alk atr mn lt ++ cw_Plan cI cZ cO apl pl ++ cw_Board cI cZ cO abd apl bd ++ cw_Locks cI cZ cO alk lk ++ cw_Trial cI cZ cO atr apl atb tr ++ cw_Board cI cZ cO atb apl tb)) A
set_option maxHeartbeats 4000000 in
set_option maxRecDepth 100000 in
theorem ct_Main_rank (l : Launch) (dC : Nat → ClassId) (dI : Nat → Nat → Nat) (cI cZ cO : ClassId) (amn apl abd alk atr atb : Nat → Nat) (sz : Nat) (mn : cr_S) (lt : Int64) (pl : cr_S) (bd : cr_S) (lk : cr_S) (tr : cr_S) (tb : cr_S) (x1 : Int32) (hR_tb : cr_RBoard tb) (hR_lk : cr_RLocks lk) (hR_bd : cr_RBoard bd) (hR_pl : cr_RPlan pl) : Met l ny_Main_rank nw_Main_rank ({ frames := 2, cells := 0, slots := 0, locals := 44 } : Room) (va_Pc [.ref (amn 0), .int x1] (fun U => U.heap.size = sz ∧ va_P (dC, dI) vwCl (cw_Main cI cZ cO amn apl abd alk atr mn lt ++ cw_Plan cI cZ cO apl pl ++ cw_Board cI cZ cO abd apl bd ++ cw_Locks cI cZ cO alk lk ++ cw_Trial cI cZ cO atr apl atb tr ++ cw_Board cI cZ cO atb apl tb) U.heap ∧ va_K (dC, dI) vwCl [(cI, .int), (cZ, .boolean), (cO, .array .int)] U ∧ va_D (fun _ => True) (cw_Main cI cZ cO amn apl abd alk atr mn lt ++ cw_Plan cI cZ cO apl pl ++ cw_Board cI cZ cO abd apl bd ++ cw_Locks cI cZ cO alk lk ++ cw_Trial cI cZ cO atr apl atb tr ++ cw_Board cI cZ cO atb apl tb))) (pq_Main_rank dC dI cI cZ cO amn apl abd alk atr atb mn lt pl bd lk tr tb x1 (va_A (cw_Main cI cZ cO amn apl abd alk atr mn lt ++ cw_Plan cI cZ cO apl pl ++ cw_Board cI cZ cO abd apl bd ++ cw_Locks cI cZ cO alk lk ++ cw_Trial cI cZ cO atr apl atb tr ++ cw_Board cI cZ cO atb apl tb) sz)) 0 0 (va_A (cw_Main cI cZ cO amn apl abd alk atr mn lt ++ cw_Plan cI cZ cO apl pl ++ cw_Board cI cZ cO abd apl bd ++ cw_Locks cI cZ cO alk lk ++ cw_Trial cI cZ cO atr apl atb tr ++ cw_Board cI cZ cO atb apl tb) sz) := by
  refine Met.ofW (cc := prog_1_method_7_code) (maxL := 2) (ret := (some .int)) (by decide) rfl ?_
  intro p e s m args below meth c s₁ B hml hv
  obtain ⟨rfl, hsz, hP, hK, hD0⟩ := hv
  have hx := B.exec
  have hb := B.bytes
  have hr := B.returns
  have hts0 := atoms_spec (ws := nw_Main_rank) B.pre
  have hts : ∀ w ∈ ng_tbl, w.before ([.ref (amn 0), .int x1] : List Value).toArray s = true := fun w h => hts0 w (List.mem_cons_of_mem _ h)
  have hown : s.vm.findClass "CeilingRows" = some m.cls := findClass_of_methodNamed B.named
  have hlocks := B.notSynchronized
  subst hsz
  have hD := hD0.self (sz := s.heap.size)
  generalize hAe : va_A (cw_Main cI cZ cO amn apl abd alk atr mn lt ++ cw_Plan cI cZ cO apl pl ++ cw_Board cI cZ cO abd apl bd ++ cw_Locks cI cZ cO alk lk ++ cw_Trial cI cZ cO atr apl atb tr ++ cw_Board cI cZ cO atb apl tb) s.heap.size = A at hD ⊢
  have hA : ∀ q : Nat, s.heap.size ≤ q → A q := fun q h => by rw [← hAe]; exact Or.inr h
  have hS : va_S A s.heap s.heap [] := va_S.rf
  have hP : va_P (dC, dI) vwCl (cw_Main cI cZ cO amn apl abd alk atr mn lt ++ cw_Plan cI cZ cO apl pl ++ cw_Board cI cZ cO abd apl bd ++ cw_Locks cI cZ cO alk lk ++ cw_Trial cI cZ cO atr apl atb tr ++ cw_Board cI cZ cO atb apl tb) s.heap := hP
  have hl := lv_entry ([.ref (amn 0), .int x1]) (n := 2) (Nat.le_of_ble_eq_true rfl)
  rw [lg_entry_eq]
  generalize (lg_sl ([.ref (amn 0), .int x1]) ++ List.replicate (2 - (lg_sl ([.ref (amn 0), .int x1])).length) Slot.unset).toArray = ls at hl ⊢
  have hl : lv_has ls 2 [(0, .ref (amn 0)), (1, .int x1)] := hl
  have f0_pl_0 := cr_rfo hR_pl.1
  have f0_pl_1 := cr_rfo hR_pl.2.1
  have k_m1 : (-1 : Int32).toInt = -1 := by decide
  have k_0 : (0 : Int32).toInt = 0 := by decide
  obtain ⟨tgt, hT⟩ : ∃ z, md_Main_rank mn lt pl bd lk tr tb x1 = z := ⟨_, rfl⟩
  have hM := hT
  unfold md_Main_rank at hM
  refine lv_aload_n hx hb nd_Main_rank_0 rfl (lv_at hl 0 rfl) ?_
  refine va_get (D := (dC, dI)) (ci := 4) (v := .ref (apl 0)) (C := "CeilingRows") (T := nf_Main) (N := 6) hx hb hts nin_Main hown hK hP 0 rfl rfl 0 (by decide) (hts _ tw_138) (fun _ h9 => h9) rfl nd_Main_rank_1 ?_
  refine lv_iload_n hx hb nd_Main_rank_4 rfl (lv_at hl 1 rfl) ?_
  have hPc := hP.sub (ws' := cw_Plan cI cZ cO apl pl) [2, 3, 4, 5, 6, 7, 8, 9, 10, 11, 12, 13, 14, 15, 16, 17, 18] rfl
  have hDc := hD.sub (ws' := cw_Plan cI cZ cO apl pl) [2, 3, 4, 5, 6, 7, 8, 9, 10, 11, 12, 13, 14, 15, 16, 17, 18] (by decide) rfl
  have hFc := va_free (wc := cw_Plan cI cZ cO apl pl) hD hS hA [2, 3, 4, 5, 6, 7, 8, 9, 10, 11, 12, 13, 14, 15, 16, 17, 18] rfl
  refine va_calli (va_runV (As := [.int x1]) (rest := []) ⟨hx, hb, hml, hown, hts⟩ (ct_Plan_hasTask l dC dI cI cZ cO apl s.heap.size pl x1 hR_pl) (cwV 1 hts (ng_V tw_181 tw_182 tw_183 tw_2 tw_184) rfl rfl rfl (by decide +kernel) ⟨Nat.le_of_ble_eq_true rfl, Nat.le_of_ble_eq_true rfl⟩) ⟨fun a U g mk q => by obtain ⟨q0, q1, qP, qK, qD⟩ := q; exact ⟨q0, q1, qP, va_K.moved (u := U) (U := U.calling g mk a) (Vm.Alike.refl U.vm) qK, qD⟩, va_recv hK hPc (ci := 0) (q0 := 0) rfl rfl, fun U hU hW => ⟨rfl, by rw [hU], by rw [hU]; exact hPc, va_K.moved hW.alike hK, hDc.weaken (fun _ _ _ _ => trivial)⟩⟩ rfl rfl hl.1 rfl (lv_room (Nat.le_of_ble_eq_true rfl)) nd_Main_rank_5 ⟨Nat.zero_le _, Nat.zero_le _⟩) hS (fun q _ h => hFc q h) hFc (fun r_1 u t H1 locs ht hvm hw hB hz1 hk1 hS => ?_)
  obtain ⟨hP1, hK1, hD1⟩ := hB
  rw [ht] at hP1
  obtain ⟨w_2, f_3⟩ := hw
  try rw [← w_2] at hM
  obtain ⟨hP, hD⟩ := va_join (wr := cw_Main cI cZ cO amn apl abd alk atr mn lt ++ cw_Board cI cZ cO abd apl bd ++ cw_Locks cI cZ cO alk lk ++ cw_Trial cI cZ cO atr apl atb tr ++ cw_Board cI cZ cO atb apl tb) (w1 := cw_Plan cI cZ cO apl pl) hP hD [2, 3, 4, 5, 6, 7, 8, 9, 10, 11, 12, 13, 14, 15, 16, 17, 18] [0, 1, 19, 20, 21, 22, 23, 24, 25, 26, 27, 28, 29, 30, 31, 32, 33, 34, 35, 36, 37, 38, 39, 40, 41, 42, 43, 44, 45, 46, 47, 48] rfl rfl (by decide) (by decide) hk1 hFc hP1 hD1
  have hP := hP.sub (ws' := cw_Main cI cZ cO amn apl abd alk atr mn lt ++ cw_Plan cI cZ cO apl pl ++ cw_Board cI cZ cO abd apl bd ++ cw_Locks cI cZ cO alk lk ++ cw_Trial cI cZ cO atr apl atb tr ++ cw_Board cI cZ cO atb apl tb) [0, 1, 32, 33, 34, 35, 36, 37, 38, 39, 40, 41, 42, 43, 44, 45, 46, 47, 48, 2, 3, 4, 5, 6, 7, 8, 9, 10, 11, 12, 13, 14, 15, 16, 17, 18, 19, 20, 21, 22, 23, 24, 25, 26, 27, 28, 29, 30, 31] rfl
  have hD := hD.sub (ws' := cw_Main cI cZ cO amn apl abd alk atr mn lt ++ cw_Plan cI cZ cO apl pl ++ cw_Board cI cZ cO abd apl bd ++ cw_Locks cI cZ cO alk lk ++ cw_Trial cI cZ cO atr apl atb tr ++ cw_Board cI cZ cO atb apl tb) [0, 1, 32, 33, 34, 35, 36, 37, 38, 39, 40, 41, 42, 43, 44, 45, 46, 47, 48, 2, 3, 4, 5, 6, 7, 8, 9, 10, 11, 12, 13, 14, 15, 16, 17, 18, 19, 20, 21, 22, 23, 24, 25, 26, 27, 28, 29, 30, 31] (by decide) rfl
  generalize H1 = H at hP hS ⊢
  refine lv_if_eq (tgt := 22) hx hb nd_Main_rank_8 (by decide) (fun c_4 => ?_) (fun c_4 => ?_)
  · have c_4t := cr_eq c_4
    rw [if_pos c_4] at hM
    refine lv_iconst (v := -1) hx hb nd_Main_rank_22 (by decide) ?_
    exact W.iret (v := (-1 : Int32)) hx hb hr (fun t ht hW => ⟨⟨(-1 : Int32), (), rfl, by rw [hT, ← hM], by rw [ht]; exact hP, va_K.moved hW.alike hK, hD⟩, hS.F ht⟩) hS.2.2 nd_Main_rank_23
  · have c_4t := cr_ne c_4
    rw [if_neg c_4] at hM
    refine lv_aload_n hx hb nd_Main_rank_11 rfl (lv_at hl 0 rfl) ?_
    refine va_get (D := (dC, dI)) (ci := 4) (v := .ref (abd 0)) (C := "CeilingRows") (T := nf_Main) (N := 6) hx hb hts nin_Main hown hK hP 0 rfl rfl 1 (by decide) (hts _ tw_139) (fun _ h9 => h9) rfl nd_Main_rank_12 ?_
    refine lv_iload_n hx hb nd_Main_rank_15 rfl (lv_at hl 1 rfl) ?_
    have hPc := hP.sub (ws' := cw_Plan cI cZ cO apl pl ++ cw_Board cI cZ cO abd apl bd) [2, 3, 4, 5, 6, 7, 8, 9, 10, 11, 12, 13, 14, 15, 16, 17, 18, 19, 20, 21, 22, 23, 24] rfl
    have hDc := hD.sub (ws' := cw_Plan cI cZ cO apl pl ++ cw_Board cI cZ cO abd apl bd) [2, 3, 4, 5, 6, 7, 8, 9, 10, 11, 12, 13, 14, 15, 16, 17, 18, 19, 20, 21, 22, 23, 24] (by decide) rfl
    have hFc := va_free (wc := cw_Plan cI cZ cO apl pl ++ cw_Board cI cZ cO abd apl bd) hD hS hA [2, 3, 4, 5, 6, 7, 8, 9, 10, 11, 12, 13, 14, 15, 16, 17, 18, 19, 20, 21, 22, 23, 24] rfl
    refine va_calli (va_runV (As := [.int x1]) (rest := []) ⟨hx, hb, hml, hown, hts⟩ (ct_Board_rankNow l dC dI cI cZ cO apl abd H.size pl bd x1 hR_bd hR_pl (by omega)) (cwV 1 hts (ng_V tw_289 tw_243 tw_244 tw_3 tw_245) rfl rfl rfl (by decide +kernel) ⟨Nat.le_of_ble_eq_true rfl, Nat.le_of_ble_eq_true rfl⟩) ⟨fun a U g mk q => by obtain ⟨q0, q1, qP, qK, qD⟩ := q; exact ⟨q0, q1, qP, va_K.moved (u := U) (U := U.calling g mk a) (Vm.Alike.refl U.vm) qK, qD⟩, va_recv hK hPc (ci := 1) (q0 := 17) rfl rfl, fun U hU hW => ⟨rfl, by rw [hU], by rw [hU]; exact hPc, va_K.moved hW.alike hK, hDc.weaken (fun _ _ _ _ => trivial)⟩⟩ rfl rfl hl.1 rfl (lv_room (Nat.le_of_ble_eq_true rfl)) nd_Main_rank_16 ⟨Nat.zero_le _, Nat.zero_le _⟩) hS (fun q _ h => hFc q h) hFc (fun r_5 u t H1 locs ht hvm hw hB hz1 hk1 hS => ?_)
    obtain ⟨hP1, hK1, hD1⟩ := hB
    rw [ht] at hP1
    have w_6 := hw
    try rw [← w_6] at hM
    obtain ⟨hP, hD⟩ := va_join (wr := cw_Main cI cZ cO amn apl abd alk atr mn lt ++ cw_Locks cI cZ cO alk lk ++ cw_Trial cI cZ cO atr apl atb tr ++ cw_Board cI cZ cO atb apl tb) (w1 := cw_Plan cI cZ cO apl pl ++ cw_Board cI cZ cO abd apl bd) hP hD [2, 3, 4, 5, 6, 7, 8, 9, 10, 11, 12, 13, 14, 15, 16, 17, 18, 19, 20, 21, 22, 23, 24] [0, 1, 25, 26, 27, 28, 29, 30, 31, 32, 33, 34, 35, 36, 37, 38, 39, 40, 41, 42, 43, 44, 45, 46, 47, 48] rfl rfl (by decide) (by decide) hk1 hFc hP1 hD1
    have hP := hP.sub (ws' := cw_Main cI cZ cO amn apl abd alk atr mn lt ++ cw_Plan cI cZ cO apl pl ++ cw_Board cI cZ cO abd apl bd ++ cw_Locks cI cZ cO alk lk ++ cw_Trial cI cZ cO atr apl atb tr ++ cw_Board cI cZ cO atb apl tb) [0, 1, 26, 27, 28, 29, 30, 31, 32, 33, 34, 35, 36, 37, 38, 39, 40, 41, 42, 43, 44, 45, 46, 47, 48, 2, 3, 4, 5, 6, 7, 8, 9, 10, 11, 12, 13, 14, 15, 16, 17, 18, 19, 20, 21, 22, 23, 24, 25] rfl
    have hD := hD.sub (ws' := cw_Main cI cZ cO amn apl abd alk atr mn lt ++ cw_Plan cI cZ cO apl pl ++ cw_Board cI cZ cO abd apl bd ++ cw_Locks cI cZ cO alk lk ++ cw_Trial cI cZ cO atr apl atb tr ++ cw_Board cI cZ cO atb apl tb) [0, 1, 26, 27, 28, 29, 30, 31, 32, 33, 34, 35, 36, 37, 38, 39, 40, 41, 42, 43, 44, 45, 46, 47, 48, 2, 3, 4, 5, 6, 7, 8, 9, 10, 11, 12, 13, 14, 15, 16, 17, 18, 19, 20, 21, 22, 23, 24, 25] (by decide) rfl
    generalize H1 = H at hP hS ⊢
    refine lv_goto (tgt := 23) hx hb nd_Main_rank_19 (by decide) ?_
    exact W.iret (v := r_5) hx hb hr (fun t ht hW => ⟨⟨r_5, (), rfl, by rw [hT, ← hM], by rw [ht]; exact hP, va_K.moved hW.alike hK, hD⟩, hS.F ht⟩) hS.2.2 nd_Main_rank_23

theorem nd_Main_holder_0 : decode prog_1_method_8_code 0 = .ok (.aload_n 0, 1) := by decide +kernel
theorem nd_Main_holder_1 : decode prog_1_method_8_code 1 = .ok (.getfield 12, 3) := by decide +kernel
theorem nd_Main_holder_4 : decode prog_1_method_8_code 4 = .ok (.iload_n 1, 1) := by decide +kernel
theorem nd_Main_holder_5 : decode prog_1_method_8_code 5 = .ok (.invokevirtual 69, 3) := by decide +kernel
theorem nd_Main_holder_8 : decode prog_1_method_8_code 8 = .ok (.ifCond .eq (15), 3) := by decide +kernel
theorem nd_Main_holder_11 : decode prog_1_method_8_code 11 = .ok (.aload_n 0, 1) := by decide +kernel
theorem nd_Main_holder_12 : decode prog_1_method_8_code 12 = .ok (.getfield 21, 3) := by decide +kernel
theorem nd_Main_holder_15 : decode prog_1_method_8_code 15 = .ok (.getfield 105, 3) := by decide +kernel
theorem nd_Main_holder_18 : decode prog_1_method_8_code 18 = .ok (.iload_n 1, 1) := by decide +kernel
theorem nd_Main_holder_19 : decode prog_1_method_8_code 19 = .ok (.iaload, 1) := by decide +kernel
theorem nd_Main_holder_20 : decode prog_1_method_8_code 20 = .ok (.goto (4), 3) := by decide +kernel
theorem nd_Main_holder_23 : decode prog_1_method_8_code 23 = .ok (.iconst (-1), 1) := by decide +kernel
theorem nd_Main_holder_24 : decode prog_1_method_8_code 24 = .ok (.ireturn, 1) := by decide +kernel
abbrev pq_Main_holder (dC : Nat → ClassId) (dI : Nat → Nat → Nat) (cI cZ cO : ClassId) (amn apl abd alk atr atb : Nat → Nat) (mn : cr_S) (lt : Int64) (pl : cr_S) (bd : cr_S) (lk : cr_S) (tr : cr_S) (tb : cr_S) (x1 : Int32) (A : Nat → Prop) : Array Value → State → Outcome → State → Prop :=
  va_Qi (fun (r : Int32) (_ : Unit) => r = md_Main_holder mn lt pl bd lk tr tb x1) (fun (_ : Unit) t => va_P (dC, dI) vwCl (cw_Main cI cZ cO amn apl abd alk atr mn lt ++ cw_Plan cI cZ cO apl pl ++ cw_Board cI cZ cO abd apl bd ++ cw_Locks cI cZ cO alk lk ++ cw_Trial cI cZ cO atr apl atb tr ++ cw_Board cI cZ cO atb apl tb) t.heap ∧ va_K (dC, dI) vwCl [(cI, .int), (cZ, .boolean), (cO, .array .int)] t ∧ va_D A (cw_Main cI cZ cO amn apl abd alk atr mn lt ++ cw_Plan cI cZ cO apl pl ++ cw_Board cI cZ cO abd apl bd ++ cw_Locks cI cZ cO alk lk ++ cw_Trial cI cZ cO atr apl atb tr ++ cw_Board cI cZ cO atb apl tb)) A
set_option maxHeartbeats 4000000 in
set_option maxRecDepth 100000 in
theorem ct_Main_holder (l : Launch) (dC : Nat → ClassId) (dI : Nat → Nat → Nat) (cI cZ cO : ClassId) (amn apl abd alk atr atb : Nat → Nat) (sz : Nat) (mn : cr_S) (lt : Int64) (pl : cr_S) (bd : cr_S) (lk : cr_S) (tr : cr_S) (tb : cr_S) (x1 : Int32) (hR_tb : cr_RBoard tb) (hR_lk : cr_RLocks lk) (hR_bd : cr_RBoard bd) (hR_pl : cr_RPlan pl) : Met l ny_Main_holder nw_Main_holder ({ frames := 1, cells := 0, slots := 0, locals := 21 } : Room) (va_Pc [.ref (amn 0), .int x1] (fun U => U.heap.size = sz ∧ va_P (dC, dI) vwCl (cw_Main cI cZ cO amn apl abd alk atr mn lt ++ cw_Plan cI cZ cO apl pl ++ cw_Board cI cZ cO abd apl bd ++ cw_Locks cI cZ cO alk lk ++ cw_Trial cI cZ cO atr apl atb tr ++ cw_Board cI cZ cO atb apl tb) U.heap ∧ va_K (dC, dI) vwCl [(cI, .int), (cZ, .boolean), (cO, .array .int)] U ∧ va_D (fun _ => True) (cw_Main cI cZ cO amn apl abd alk atr mn lt ++ cw_Plan cI cZ cO apl pl ++ cw_Board cI cZ cO abd apl bd ++ cw_Locks cI cZ cO alk lk ++ cw_Trial cI cZ cO atr apl atb tr ++ cw_Board cI cZ cO atb apl tb))) (pq_Main_holder dC dI cI cZ cO amn apl abd alk atr atb mn lt pl bd lk tr tb x1 (va_A (cw_Main cI cZ cO amn apl abd alk atr mn lt ++ cw_Plan cI cZ cO apl pl ++ cw_Board cI cZ cO abd apl bd ++ cw_Locks cI cZ cO alk lk ++ cw_Trial cI cZ cO atr apl atb tr ++ cw_Board cI cZ cO atb apl tb) sz)) 0 0 (va_A (cw_Main cI cZ cO amn apl abd alk atr mn lt ++ cw_Plan cI cZ cO apl pl ++ cw_Board cI cZ cO abd apl bd ++ cw_Locks cI cZ cO alk lk ++ cw_Trial cI cZ cO atr apl atb tr ++ cw_Board cI cZ cO atb apl tb) sz) := by
  refine Met.ofW (cc := prog_1_method_8_code) (maxL := 2) (ret := (some .int)) (by decide) rfl ?_
  intro p e s m args below meth c s₁ B hml hv
  obtain ⟨rfl, hsz, hP, hK, hD0⟩ := hv
  have hx := B.exec
  have hb := B.bytes
  have hr := B.returns
  have hts0 := atoms_spec (ws := nw_Main_holder) B.pre
  have hts : ∀ w ∈ ng_tbl, w.before ([.ref (amn 0), .int x1] : List Value).toArray s = true := fun w h => hts0 w (List.mem_cons_of_mem _ h)
  have hown : s.vm.findClass "CeilingRows" = some m.cls := findClass_of_methodNamed B.named
  have hlocks := B.notSynchronized
  subst hsz
  have hD := hD0.self (sz := s.heap.size)
  generalize hAe : va_A (cw_Main cI cZ cO amn apl abd alk atr mn lt ++ cw_Plan cI cZ cO apl pl ++ cw_Board cI cZ cO abd apl bd ++ cw_Locks cI cZ cO alk lk ++ cw_Trial cI cZ cO atr apl atb tr ++ cw_Board cI cZ cO atb apl tb) s.heap.size = A at hD ⊢
  have hA : ∀ q : Nat, s.heap.size ≤ q → A q := fun q h => by rw [← hAe]; exact Or.inr h
  have hS : va_S A s.heap s.heap [] := va_S.rf
  have hP : va_P (dC, dI) vwCl (cw_Main cI cZ cO amn apl abd alk atr mn lt ++ cw_Plan cI cZ cO apl pl ++ cw_Board cI cZ cO abd apl bd ++ cw_Locks cI cZ cO alk lk ++ cw_Trial cI cZ cO atr apl atb tr ++ cw_Board cI cZ cO atb apl tb) s.heap := hP
  have hl := lv_entry ([.ref (amn 0), .int x1]) (n := 2) (Nat.le_of_ble_eq_true rfl)
  rw [lg_entry_eq]
  generalize (lg_sl ([.ref (amn 0), .int x1]) ++ List.replicate (2 - (lg_sl ([.ref (amn 0), .int x1])).length) Slot.unset).toArray = ls at hl ⊢
  have hl : lv_has ls 2 [(0, .ref (amn 0)), (1, .int x1)] := hl
  have f0_pl_0 := cr_rfo hR_pl.1
  have f0_pl_1 := cr_rfo hR_pl.2.1
  have k_m1 : (-1 : Int32).toInt = -1 := by decide
  have k_0 : (0 : Int32).toInt = 0 := by decide
  obtain ⟨tgt, hT⟩ : ∃ z, md_Main_holder mn lt pl bd lk tr tb x1 = z := ⟨_, rfl⟩
  have hM := hT
  unfold md_Main_holder at hM
  refine lv_aload_n hx hb nd_Main_holder_0 rfl (lv_at hl 0 rfl) ?_
  refine va_get (D := (dC, dI)) (ci := 4) (v := .ref (apl 0)) (C := "CeilingRows") (T := nf_Main) (N := 6) hx hb hts nin_Main hown hK hP 0 rfl rfl 0 (by decide) (hts _ tw_138) (fun _ h9 => h9) rfl nd_Main_holder_1 ?_
  refine lv_iload_n hx hb nd_Main_holder_4 rfl (lv_at hl 1 rfl) ?_
  have hPc := hP.sub (ws' := cw_Plan cI cZ cO apl pl) [2, 3, 4, 5, 6, 7, 8, 9, 10, 11, 12, 13, 14, 15, 16, 17, 18] rfl
  have hDc := hD.sub (ws' := cw_Plan cI cZ cO apl pl) [2, 3, 4, 5, 6, 7, 8, 9, 10, 11, 12, 13, 14, 15, 16, 17, 18] (by decide) rfl
  have hFc := va_free (wc := cw_Plan cI cZ cO apl pl) hD hS hA [2, 3, 4, 5, 6, 7, 8, 9, 10, 11, 12, 13, 14, 15, 16, 17, 18] rfl
  refine va_calli (va_runV (As := [.int x1]) (rest := []) ⟨hx, hb, hml, hown, hts⟩ (ct_Plan_hasResource l dC dI cI cZ cO apl s.heap.size pl x1 hR_pl) (cwV 1 hts (ng_V tw_185 tw_186 tw_187 tw_2 tw_188) rfl rfl rfl (by decide +kernel) ⟨Nat.le_of_ble_eq_true rfl, Nat.le_of_ble_eq_true rfl⟩) ⟨fun a U g mk q => by obtain ⟨q0, q1, qP, qK, qD⟩ := q; exact ⟨q0, q1, qP, va_K.moved (u := U) (U := U.calling g mk a) (Vm.Alike.refl U.vm) qK, qD⟩, va_recv hK hPc (ci := 0) (q0 := 0) rfl rfl, fun U hU hW => ⟨rfl, by rw [hU], by rw [hU]; exact hPc, va_K.moved hW.alike hK, hDc.weaken (fun _ _ _ _ => trivial)⟩⟩ rfl rfl hl.1 rfl (lv_room (Nat.le_of_ble_eq_true rfl)) nd_Main_holder_5 ⟨Nat.zero_le _, Nat.zero_le _⟩) hS (fun q _ h => hFc q h) hFc (fun r_1 u t H1 locs ht hvm hw hB hz1 hk1 hS => ?_)
  obtain ⟨hP1, hK1, hD1⟩ := hB
  rw [ht] at hP1
  obtain ⟨w_2, f_3⟩ := hw
  try rw [← w_2] at hM
  obtain ⟨hP, hD⟩ := va_join (wr := cw_Main cI cZ cO amn apl abd alk atr mn lt ++ cw_Board cI cZ cO abd apl bd ++ cw_Locks cI cZ cO alk lk ++ cw_Trial cI cZ cO atr apl atb tr ++ cw_Board cI cZ cO atb apl tb) (w1 := cw_Plan cI cZ cO apl pl) hP hD [2, 3, 4, 5, 6, 7, 8, 9, 10, 11, 12, 13, 14, 15, 16, 17, 18] [0, 1, 19, 20, 21, 22, 23, 24, 25, 26, 27, 28, 29, 30, 31, 32, 33, 34, 35, 36, 37, 38, 39, 40, 41, 42, 43, 44, 45, 46, 47, 48] rfl rfl (by decide) (by decide) hk1 hFc hP1 hD1
  have hP := hP.sub (ws' := cw_Main cI cZ cO amn apl abd alk atr mn lt ++ cw_Plan cI cZ cO apl pl ++ cw_Board cI cZ cO abd apl bd ++ cw_Locks cI cZ cO alk lk ++ cw_Trial cI cZ cO atr apl atb tr ++ cw_Board cI cZ cO atb apl tb) [0, 1, 32, 33, 34, 35, 36, 37, 38, 39, 40, 41, 42, 43, 44, 45, 46, 47, 48, 2, 3, 4, 5, 6, 7, 8, 9, 10, 11, 12, 13, 14, 15, 16, 17, 18, 19, 20, 21, 22, 23, 24, 25, 26, 27, 28, 29, 30, 31] rfl
  have hD := hD.sub (ws' := cw_Main cI cZ cO amn apl abd alk atr mn lt ++ cw_Plan cI cZ cO apl pl ++ cw_Board cI cZ cO abd apl bd ++ cw_Locks cI cZ cO alk lk ++ cw_Trial cI cZ cO atr apl atb tr ++ cw_Board cI cZ cO atb apl tb) [0, 1, 32, 33, 34, 35, 36, 37, 38, 39, 40, 41, 42, 43, 44, 45, 46, 47, 48, 2, 3, 4, 5, 6, 7, 8, 9, 10, 11, 12, 13, 14, 15, 16, 17, 18, 19, 20, 21, 22, 23, 24, 25, 26, 27, 28, 29, 30, 31] (by decide) rfl
  generalize H1 = H at hP hS ⊢
  refine lv_if_eq (tgt := 23) hx hb nd_Main_holder_8 (by decide) (fun c_4 => ?_) (fun c_4 => ?_)
  · have c_4t := cr_eq c_4
    rw [if_pos c_4] at hM
    refine lv_iconst (v := -1) hx hb nd_Main_holder_23 (by decide) ?_
    exact W.iret (v := (-1 : Int32)) hx hb hr (fun t ht hW => ⟨⟨(-1 : Int32), (), rfl, by rw [hT, ← hM], by rw [ht]; exact hP, va_K.moved hW.alike hK, hD⟩, hS.F ht⟩) hS.2.2 nd_Main_holder_24
  · have c_4t := cr_ne c_4
    rw [if_neg c_4] at hM
    refine lv_aload_n hx hb nd_Main_holder_11 rfl (lv_at hl 0 rfl) ?_
    refine va_get (D := (dC, dI)) (ci := 4) (v := .ref (abd 0)) (C := "CeilingRows") (T := nf_Main) (N := 6) hx hb hts nin_Main hown hK hP 0 rfl rfl 1 (by decide) (hts _ tw_139) (fun _ h9 => h9) rfl nd_Main_holder_12 ?_
    refine va_get (D := (dC, dI)) (ci := 1) (v := .ref (abd 4)) (C := "CeilingRows$Board") (T := nf_Board) (N := 7) hx hb hts nin_Board hown hK hP 19 rfl rfl 5 (by decide) (hts _ tw_77) (fun _ h9 => h9) rfl nd_Main_holder_15 ?_
    refine lv_iload_n hx hb nd_Main_holder_18 rfl (lv_at hl 1 rfl) ?_
    have b_5 : vp_in x1 9 := vp_in_iff.mpr (by omega)
    refine va_iald hx hb hK hP 23 0 rfl rfl b_5 nd_Main_holder_19 ?_
    refine lv_goto (tgt := 24) hx hb nd_Main_holder_20 (by decide) ?_
    exact W.iret (v := (bd 4 x1.toNatClampNeg)) hx hb hr (fun t ht hW => ⟨⟨(bd 4 x1.toNatClampNeg), (), rfl, by rw [hT, ← hM], by rw [ht]; exact hP, va_K.moved hW.alike hK, hD⟩, hS.F ht⟩) hS.2.2 nd_Main_holder_24

theorem nd_Main_blocking_0 : decode prog_1_method_9_code 0 = .ok (.aload_n 0, 1) := by decide +kernel
theorem nd_Main_blocking_1 : decode prog_1_method_9_code 1 = .ok (.getfield 12, 3) := by decide +kernel
theorem nd_Main_blocking_4 : decode prog_1_method_9_code 4 = .ok (.iload_n 1, 1) := by decide +kernel
theorem nd_Main_blocking_5 : decode prog_1_method_9_code 5 = .ok (.invokevirtual 66, 3) := by decide +kernel
theorem nd_Main_blocking_8 : decode prog_1_method_9_code 8 = .ok (.ifCond .ne (7), 3) := by decide +kernel
theorem nd_Main_blocking_11 : decode prog_1_method_9_code 11 = .ok (.ldc2_w 108, 3) := by decide +kernel
theorem nd_Main_blocking_14 : decode prog_1_method_9_code 14 = .ok (.lreturn, 1) := by decide +kernel
theorem nd_Main_blocking_15 : decode prog_1_method_9_code 15 = .ok (.iconst 0, 1) := by decide +kernel
theorem nd_Main_blocking_16 : decode prog_1_method_9_code 16 = .ok (.istore_n 2, 1) := by decide +kernel
theorem nd_Main_blocking_17 : decode prog_1_method_9_code 17 = .ok (.iconst 1, 1) := by decide +kernel
theorem nd_Main_blocking_18 : decode prog_1_method_9_code 18 = .ok (.istore_n 3, 1) := by decide +kernel
theorem nd_Main_blocking_19 : decode prog_1_method_9_code 19 = .ok (.iload_n 3, 1) := by decide +kernel
theorem nd_Main_blocking_20 : decode prog_1_method_9_code 20 = .ok (.aload_n 0, 1) := by decide +kernel
theorem nd_Main_blocking_21 : decode prog_1_method_9_code 21 = .ok (.getfield 12, 3) := by decide +kernel
theorem nd_Main_blocking_24 : decode prog_1_method_9_code 24 = .ok (.getfield 51, 3) := by decide +kernel
theorem nd_Main_blocking_27 : decode prog_1_method_9_code 27 = .ok (.if_icmp .gt (23), 3) := by decide +kernel
theorem nd_Main_blocking_30 : decode prog_1_method_9_code 30 = .ok (.iload_n 2, 1) := by decide +kernel
theorem nd_Main_blocking_31 : decode prog_1_method_9_code 31 = .ok (.aload_n 0, 1) := by decide +kernel
theorem nd_Main_blocking_32 : decode prog_1_method_9_code 32 = .ok (.getfield 12, 3) := by decide +kernel
theorem nd_Main_blocking_35 : decode prog_1_method_9_code 35 = .ok (.iload_n 1, 1) := by decide +kernel
theorem nd_Main_blocking_36 : decode prog_1_method_9_code 36 = .ok (.iload_n 3, 1) := by decide +kernel
theorem nd_Main_blocking_37 : decode prog_1_method_9_code 37 = .ok (.invokevirtual 110, 3) := by decide +kernel
theorem nd_Main_blocking_40 : decode prog_1_method_9_code 40 = .ok (.invokestatic 113, 3) := by decide +kernel
theorem nd_Main_blocking_43 : decode prog_1_method_9_code 43 = .ok (.istore_n 2, 1) := by decide +kernel
theorem nd_Main_blocking_44 : decode prog_1_method_9_code 44 = .ok (.iinc 3 1, 3) := by decide +kernel
theorem nd_Main_blocking_47 : decode prog_1_method_9_code 47 = .ok (.goto (-28), 3) := by decide +kernel
theorem nd_Main_blocking_50 : decode prog_1_method_9_code 50 = .ok (.iload_n 2, 1) := by decide +kernel
theorem nd_Main_blocking_51 : decode prog_1_method_9_code 51 = .ok (.i2l, 1) := by decide +kernel
theorem nd_Main_blocking_52 : decode prog_1_method_9_code 52 = .ok (.lreturn, 1) := by decide +kernel
abbrev pq_Main_blocking (dC : Nat → ClassId) (dI : Nat → Nat → Nat) (cI cZ cO : ClassId) (amn apl abd alk atr atb : Nat → Nat) (mn : cr_S) (lt : Int64) (pl : cr_S) (bd : cr_S) (lk : cr_S) (tr : cr_S) (tb : cr_S) (x1 : Int32) (A : Nat → Prop) : Array Value → State → Outcome → State → Prop :=
  va_Ql (fun (r : Int64) (_ : Unit) => r = md_Main_blocking mn lt pl bd lk tr tb x1) (fun (_ : Unit) t => va_P (dC, dI) vwCl (cw_Main cI cZ cO amn apl abd alk atr mn lt ++ cw_Plan cI cZ cO apl pl ++ cw_Board cI cZ cO abd apl bd ++ cw_Locks cI cZ cO alk lk ++ cw_Trial cI cZ cO atr apl atb tr ++ cw_Board cI cZ cO atb apl tb) t.heap ∧ va_K (dC, dI) vwCl [(cI, .int), (cZ, .boolean), (cO, .array .int)] t ∧ va_D A (cw_Main cI cZ cO amn apl abd alk atr mn lt ++ cw_Plan cI cZ cO apl pl ++ cw_Board cI cZ cO abd apl bd ++ cw_Locks cI cZ cO alk lk ++ cw_Trial cI cZ cO atr apl atb tr ++ cw_Board cI cZ cO atb apl tb)) A
set_option maxHeartbeats 4000000 in
set_option maxRecDepth 100000 in
theorem ct_Main_blocking (l : Launch) (dC : Nat → ClassId) (dI : Nat → Nat → Nat) (cI cZ cO : ClassId) (amn apl abd alk atr atb : Nat → Nat) (sz : Nat) (mn : cr_S) (lt : Int64) (pl : cr_S) (bd : cr_S) (lk : cr_S) (tr : cr_S) (tb : cr_S) (x1 : Int32) (hR_tb : cr_RBoard tb) (hR_lk : cr_RLocks lk) (hR_bd : cr_RBoard bd) (hR_pl : cr_RPlan pl) : Met l ny_Main_blocking nw_Main_blocking ({ frames := 2, cells := 0, slots := 0, locals := 46 } : Room) (va_Pc [.ref (amn 0), .int x1] (fun U => U.heap.size = sz ∧ va_P (dC, dI) vwCl (cw_Main cI cZ cO amn apl abd alk atr mn lt ++ cw_Plan cI cZ cO apl pl ++ cw_Board cI cZ cO abd apl bd ++ cw_Locks cI cZ cO alk lk ++ cw_Trial cI cZ cO atr apl atb tr ++ cw_Board cI cZ cO atb apl tb) U.heap ∧ va_K (dC, dI) vwCl [(cI, .int), (cZ, .boolean), (cO, .array .int)] U ∧ va_D (fun _ => True) (cw_Main cI cZ cO amn apl abd alk atr mn lt ++ cw_Plan cI cZ cO apl pl ++ cw_Board cI cZ cO abd apl bd ++ cw_Locks cI cZ cO alk lk ++ cw_Trial cI cZ cO atr apl atb tr ++ cw_Board cI cZ cO atb apl tb))) (pq_Main_blocking dC dI cI cZ cO amn apl abd alk atr atb mn lt pl bd lk tr tb x1 (va_A (cw_Main cI cZ cO amn apl abd alk atr mn lt ++ cw_Plan cI cZ cO apl pl ++ cw_Board cI cZ cO abd apl bd ++ cw_Locks cI cZ cO alk lk ++ cw_Trial cI cZ cO atr apl atb tr ++ cw_Board cI cZ cO atb apl tb) sz)) 0 0 (va_A (cw_Main cI cZ cO amn apl abd alk atr mn lt ++ cw_Plan cI cZ cO apl pl ++ cw_Board cI cZ cO abd apl bd ++ cw_Locks cI cZ cO alk lk ++ cw_Trial cI cZ cO atr apl atb tr ++ cw_Board cI cZ cO atb apl tb) sz) := by
  refine Met.ofW (cc := prog_1_method_9_code) (maxL := 4) (ret := (some .long)) (by decide) rfl ?_
  intro p e s m args below meth c s₁ B hml hv
  obtain ⟨rfl, hsz, hP, hK, hD0⟩ := hv
  have hx := B.exec
  have hb := B.bytes
  have hr := B.returns
  have hts0 := atoms_spec (ws := nw_Main_blocking) B.pre
  have hts : ∀ w ∈ ng_tbl, w.before ([.ref (amn 0), .int x1] : List Value).toArray s = true := fun w h => hts0 w (List.mem_cons_of_mem _ h)
  have hown : s.vm.findClass "CeilingRows" = some m.cls := findClass_of_methodNamed B.named
  have hlocks := B.notSynchronized
  subst hsz
  have hD := hD0.self (sz := s.heap.size)
  generalize hAe : va_A (cw_Main cI cZ cO amn apl abd alk atr mn lt ++ cw_Plan cI cZ cO apl pl ++ cw_Board cI cZ cO abd apl bd ++ cw_Locks cI cZ cO alk lk ++ cw_Trial cI cZ cO atr apl atb tr ++ cw_Board cI cZ cO atb apl tb) s.heap.size = A at hD ⊢
  have hA : ∀ q : Nat, s.heap.size ≤ q → A q := fun q h => by rw [← hAe]; exact Or.inr h
  have hS : va_S A s.heap s.heap [] := va_S.rf
  have hP : va_P (dC, dI) vwCl (cw_Main cI cZ cO amn apl abd alk atr mn lt ++ cw_Plan cI cZ cO apl pl ++ cw_Board cI cZ cO abd apl bd ++ cw_Locks cI cZ cO alk lk ++ cw_Trial cI cZ cO atr apl atb tr ++ cw_Board cI cZ cO atb apl tb) s.heap := hP
  have hl := lv_entry ([.ref (amn 0), .int x1]) (n := 4) (Nat.le_of_ble_eq_true rfl)
  rw [lg_entry_eq]
  generalize (lg_sl ([.ref (amn 0), .int x1]) ++ List.replicate (4 - (lg_sl ([.ref (amn 0), .int x1])).length) Slot.unset).toArray = ls at hl ⊢
  have hl : lv_has ls 4 [(0, .ref (amn 0)), (1, .int x1)] := hl
  have f0_pl_0 := cr_rfo hR_pl.1
  have f0_pl_1 := cr_rfo hR_pl.2.1
  have k_0 : (0 : Int32).toInt = 0 := by decide
  have k_1 : (1 : Int32).toInt = 1 := by decide
  obtain ⟨tgt, hT⟩ : ∃ z, md_Main_blocking mn lt pl bd lk tr tb x1 = z := ⟨_, rfl⟩
  have hM := hT
  unfold md_Main_blocking at hM
  refine lv_aload_n hx hb nd_Main_blocking_0 rfl (lv_at hl 0 rfl) ?_
  refine va_get (D := (dC, dI)) (ci := 4) (v := .ref (apl 0)) (C := "CeilingRows") (T := nf_Main) (N := 6) hx hb hts nin_Main hown hK hP 0 rfl rfl 0 (by decide) (hts _ tw_138) (fun _ h9 => h9) rfl nd_Main_blocking_1 ?_
  refine lv_iload_n hx hb nd_Main_blocking_4 rfl (lv_at hl 1 rfl) ?_
  have hPc := hP.sub (ws' := cw_Plan cI cZ cO apl pl) [2, 3, 4, 5, 6, 7, 8, 9, 10, 11, 12, 13, 14, 15, 16, 17, 18] rfl
  have hDc := hD.sub (ws' := cw_Plan cI cZ cO apl pl) [2, 3, 4, 5, 6, 7, 8, 9, 10, 11, 12, 13, 14, 15, 16, 17, 18] (by decide) rfl
  have hFc := va_free (wc := cw_Plan cI cZ cO apl pl) hD hS hA [2, 3, 4, 5, 6, 7, 8, 9, 10, 11, 12, 13, 14, 15, 16, 17, 18] rfl
  refine va_calli (va_runV (As := [.int x1]) (rest := []) ⟨hx, hb, hml, hown, hts⟩ (ct_Plan_hasTask l dC dI cI cZ cO apl s.heap.size pl x1 hR_pl) (cwV 1 hts (ng_V tw_181 tw_182 tw_183 tw_2 tw_184) rfl rfl rfl (by decide +kernel) ⟨Nat.le_of_ble_eq_true rfl, Nat.le_of_ble_eq_true rfl⟩) ⟨fun a U g mk q => by obtain ⟨q0, q1, qP, qK, qD⟩ := q; exact ⟨q0, q1, qP, va_K.moved (u := U) (U := U.calling g mk a) (Vm.Alike.refl U.vm) qK, qD⟩, va_recv hK hPc (ci := 0) (q0 := 0) rfl rfl, fun U hU hW => ⟨rfl, by rw [hU], by rw [hU]; exact hPc, va_K.moved hW.alike hK, hDc.weaken (fun _ _ _ _ => trivial)⟩⟩ rfl rfl hl.1 rfl (lv_room (Nat.le_of_ble_eq_true rfl)) nd_Main_blocking_5 ⟨Nat.zero_le _, Nat.zero_le _⟩) hS (fun q _ h => hFc q h) hFc (fun r_1 u t H1 locs ht hvm hw hB hz1 hk1 hS => ?_)
  obtain ⟨hP1, hK1, hD1⟩ := hB
  rw [ht] at hP1
  obtain ⟨w_2, f_3⟩ := hw
  try rw [← w_2] at hM
  obtain ⟨hP, hD⟩ := va_join (wr := cw_Main cI cZ cO amn apl abd alk atr mn lt ++ cw_Board cI cZ cO abd apl bd ++ cw_Locks cI cZ cO alk lk ++ cw_Trial cI cZ cO atr apl atb tr ++ cw_Board cI cZ cO atb apl tb) (w1 := cw_Plan cI cZ cO apl pl) hP hD [2, 3, 4, 5, 6, 7, 8, 9, 10, 11, 12, 13, 14, 15, 16, 17, 18] [0, 1, 19, 20, 21, 22, 23, 24, 25, 26, 27, 28, 29, 30, 31, 32, 33, 34, 35, 36, 37, 38, 39, 40, 41, 42, 43, 44, 45, 46, 47, 48] rfl rfl (by decide) (by decide) hk1 hFc hP1 hD1
  have hP := hP.sub (ws' := cw_Main cI cZ cO amn apl abd alk atr mn lt ++ cw_Plan cI cZ cO apl pl ++ cw_Board cI cZ cO abd apl bd ++ cw_Locks cI cZ cO alk lk ++ cw_Trial cI cZ cO atr apl atb tr ++ cw_Board cI cZ cO atb apl tb) [0, 1, 32, 33, 34, 35, 36, 37, 38, 39, 40, 41, 42, 43, 44, 45, 46, 47, 48, 2, 3, 4, 5, 6, 7, 8, 9, 10, 11, 12, 13, 14, 15, 16, 17, 18, 19, 20, 21, 22, 23, 24, 25, 26, 27, 28, 29, 30, 31] rfl
  have hD := hD.sub (ws' := cw_Main cI cZ cO amn apl abd alk atr mn lt ++ cw_Plan cI cZ cO apl pl ++ cw_Board cI cZ cO abd apl bd ++ cw_Locks cI cZ cO alk lk ++ cw_Trial cI cZ cO atr apl atb tr ++ cw_Board cI cZ cO atb apl tb) [0, 1, 32, 33, 34, 35, 36, 37, 38, 39, 40, 41, 42, 43, 44, 45, 46, 47, 48, 2, 3, 4, 5, 6, 7, 8, 9, 10, 11, 12, 13, 14, 15, 16, 17, 18, 19, 20, 21, 22, 23, 24, 25, 26, 27, 28, 29, 30, 31] (by decide) rfl
  generalize H1 = H at hP hS ⊢
  refine lv_if_ne (tgt := 15) hx hb nd_Main_blocking_8 (by decide) (fun c_4 => ?_) (fun c_4 => ?_)
  · have c_4t := cr_ne c_4
    rw [if_neg c_4] at hM
    refine lv_iconst (v := 0) hx hb nd_Main_blocking_15 (by decide) ?_
    refine lv_istore_n (lv' := [(2, .int (0 : Int32)), (0, .ref (amn 0)), (1, .int x1)]) hx hb nd_Main_blocking_16 rfl hl (by decide) rfl (fun ls hl => ?_)
    refine lv_iconst (v := 1) hx hb nd_Main_blocking_17 (by decide) ?_
    refine lv_istore_n (lv' := [(3, .int (1 : Int32)), (2, .int (0 : Int32)), (0, .ref (amn 0)), (1, .int x1)]) hx hb nd_Main_blocking_18 rfl hl (by decide) rfl (fun ls hl => ?_)
    have hl := lv_sub hl [2, 3, 1, 0] rfl
    have lp_19 : ∀ (n_19 : Nat) (v2_19 : Int32) (v3_19 : Int32), (1 ≤ v3_19.toInt ∧ v3_19.toInt ≤ 11) → (11 < v3_19.toInt + (n_19 : Int)) → lo_Main_blocking_19 mn lt pl bd lk tr tb x1 n_19 v2_19 v3_19 = tgt → ∀ (H : Heap) (locs : List Loc), va_P (dC, dI) vwCl (cw_Main cI cZ cO amn apl abd alk atr mn lt ++ cw_Plan cI cZ cO apl pl ++ cw_Board cI cZ cO abd apl bd ++ cw_Locks cI cZ cO alk lk ++ cw_Trial cI cZ cO atr apl atb tr ++ cw_Board cI cZ cO atb apl tb) H → va_D A (cw_Main cI cZ cO amn apl abd alk atr mn lt ++ cw_Plan cI cZ cO apl pl ++ cw_Board cI cZ cO abd apl bd ++ cw_Locks cI cZ cO alk lk ++ cw_Trial cI cZ cO atr apl atb tr ++ cw_Board cI cZ cO atb apl tb) → va_S A s.heap H locs → ∀ ls : Array Slot, lv_has ls 4 [(0, .ref (amn 0)), (1, .int x1), (2, .int v2_19), (3, .int v3_19)] → W p l e (headSpec nw_Main_blocking ({ frames := 2, cells := 0, slots := 0, locals := 46 } : Room)).room s m ([.ref (amn 0), .int x1] : List Value).toArray below meth c H locs 0 0 (MQ below (pq_Main_blocking dC dI cI cZ cO amn apl abd alk atr atb mn lt pl bd lk tr tb x1 A) ([.ref (amn 0), .int x1] : List Value).toArray s 0 0 A) (F0 m 19 ls []) := by
      intro n_19
      induction n_19 with
      | zero =>
        intro v2_19 v3_19 hv3_19 hn_19
        exfalso; omega
      | succ n_19 ih_19 =>
        intro v2_19 v3_19 hv3_19 hn_19 hM H locs hP hD hS ls hl
        have hn_19 : 11 < v3_19.toInt + ((n_19 : Int) + 1) := by omega
        rw [lo_Main_blocking_19] at hM
        refine lv_iload_n hx hb nd_Main_blocking_19 rfl (lv_at hl 3 rfl) ?_
        refine lv_aload_n hx hb nd_Main_blocking_20 rfl (lv_at hl 0 rfl) ?_
        refine va_get (D := (dC, dI)) (ci := 4) (v := .ref (apl 0)) (C := "CeilingRows") (T := nf_Main) (N := 6) hx hb hts nin_Main hown hK hP 0 rfl rfl 0 (by decide) (hts _ tw_138) (fun _ h9 => h9) rfl nd_Main_blocking_21 ?_
        refine va_get (D := (dC, dI)) (ci := 0) (v := .int (pl 0 0)) (C := "CeilingRows$Plan") (T := nf_Plan) (N := 7) hx hb hts nin_Plan hown hK hP 2 rfl rfl 0 (by decide) (hts _ tw_28) (fun _ h9 => h9) rfl nd_Main_blocking_24 ?_
        have f_5 := cr_rfo hR_pl.1
        refine lv_icmp_gt (tgt := 50) hx hb nd_Main_blocking_27 (by decide) (fun c_6 => ?_) (fun c_6 => ?_)
        · have c_6t := cr_lt c_6
          rw [if_pos c_6] at hM
          refine lv_iload_n hx hb nd_Main_blocking_50 rfl (lv_at hl 2 rfl) ?_
          refine lv_i2l (v := v2_19.toInt64) hx hb nd_Main_blocking_51 rfl ?_
          exact W.lret (v := v2_19.toInt64) hx hb hr (fun t ht hW => ⟨⟨v2_19.toInt64, (), rfl, by rw [hT, ← hM], by rw [ht]; exact hP, va_K.moved hW.alike hK, hD⟩, hS.F ht⟩) hS.2.2 nd_Main_blocking_52
        · have c_6t := cr_nlt c_6
          rw [if_neg c_6] at hM
          refine lv_iload_n hx hb nd_Main_blocking_30 rfl (lv_at hl 2 rfl) ?_
          refine lv_aload_n hx hb nd_Main_blocking_31 rfl (lv_at hl 0 rfl) ?_
          refine va_get (D := (dC, dI)) (ci := 4) (v := .ref (apl 0)) (C := "CeilingRows") (T := nf_Main) (N := 6) hx hb hts nin_Main hown hK hP 0 rfl rfl 0 (by decide) (hts _ tw_138) (fun _ h9 => h9) rfl nd_Main_blocking_32 ?_
          refine lv_iload_n hx hb nd_Main_blocking_35 rfl (lv_at hl 1 rfl) ?_
          refine lv_iload_n hx hb nd_Main_blocking_36 rfl (lv_at hl 3 rfl) ?_
          have hPc := hP.sub (ws' := cw_Plan cI cZ cO apl pl) [2, 3, 4, 5, 6, 7, 8, 9, 10, 11, 12, 13, 14, 15, 16, 17, 18] rfl
          have hDc := hD.sub (ws' := cw_Plan cI cZ cO apl pl) [2, 3, 4, 5, 6, 7, 8, 9, 10, 11, 12, 13, 14, 15, 16, 17, 18] (by decide) rfl
          have hFc := va_free (wc := cw_Plan cI cZ cO apl pl) hD hS hA [2, 3, 4, 5, 6, 7, 8, 9, 10, 11, 12, 13, 14, 15, 16, 17, 18] rfl
          refine va_calli (va_runV (As := [.int x1, .int v3_19]) (rest := [.int v2_19]) ⟨hx, hb, hml, hown, hts⟩ (ct_Plan_longestDelay l dC dI cI cZ cO apl H.size pl x1 v3_19 hR_pl (by omega) (by omega)) (cwV 2 hts (ng_V tw_299 tw_300 tw_301 tw_2 tw_302) rfl rfl rfl (by decide +kernel) ⟨Nat.le_of_ble_eq_true rfl, Nat.le_of_ble_eq_true rfl⟩) ⟨fun a U g mk q => by obtain ⟨q0, q1, qP, qK, qD⟩ := q; exact ⟨q0, q1, qP, va_K.moved (u := U) (U := U.calling g mk a) (Vm.Alike.refl U.vm) qK, qD⟩, va_recv hK hPc (ci := 0) (q0 := 0) rfl rfl, fun U hU hW => ⟨rfl, by rw [hU], by rw [hU]; exact hPc, va_K.moved hW.alike hK, hDc.weaken (fun _ _ _ _ => trivial)⟩⟩ rfl rfl hl.1 rfl (lv_room (Nat.le_of_ble_eq_true rfl)) nd_Main_blocking_37 ⟨Nat.zero_le _, Nat.zero_le _⟩) hS (fun q _ h => hFc q h) hFc (fun r_7 u t H1 locs ht hvm hw hB hz1 hk1 hS => ?_)
          obtain ⟨hP1, hK1, hD1⟩ := hB
          rw [ht] at hP1
          have w_8 := hw
          try rw [← w_8] at hM
          obtain ⟨hP, hD⟩ := va_join (wr := cw_Main cI cZ cO amn apl abd alk atr mn lt ++ cw_Board cI cZ cO abd apl bd ++ cw_Locks cI cZ cO alk lk ++ cw_Trial cI cZ cO atr apl atb tr ++ cw_Board cI cZ cO atb apl tb) (w1 := cw_Plan cI cZ cO apl pl) hP hD [2, 3, 4, 5, 6, 7, 8, 9, 10, 11, 12, 13, 14, 15, 16, 17, 18] [0, 1, 19, 20, 21, 22, 23, 24, 25, 26, 27, 28, 29, 30, 31, 32, 33, 34, 35, 36, 37, 38, 39, 40, 41, 42, 43, 44, 45, 46, 47, 48] rfl rfl (by decide) (by decide) hk1 hFc hP1 hD1
          have hP := hP.sub (ws' := cw_Main cI cZ cO amn apl abd alk atr mn lt ++ cw_Plan cI cZ cO apl pl ++ cw_Board cI cZ cO abd apl bd ++ cw_Locks cI cZ cO alk lk ++ cw_Trial cI cZ cO atr apl atb tr ++ cw_Board cI cZ cO atb apl tb) [0, 1, 32, 33, 34, 35, 36, 37, 38, 39, 40, 41, 42, 43, 44, 45, 46, 47, 48, 2, 3, 4, 5, 6, 7, 8, 9, 10, 11, 12, 13, 14, 15, 16, 17, 18, 19, 20, 21, 22, 23, 24, 25, 26, 27, 28, 29, 30, 31] rfl
          have hD := hD.sub (ws' := cw_Main cI cZ cO amn apl abd alk atr mn lt ++ cw_Plan cI cZ cO apl pl ++ cw_Board cI cZ cO abd apl bd ++ cw_Locks cI cZ cO alk lk ++ cw_Trial cI cZ cO atr apl atb tr ++ cw_Board cI cZ cO atb apl tb) [0, 1, 32, 33, 34, 35, 36, 37, 38, 39, 40, 41, 42, 43, 44, 45, 46, 47, 48, 2, 3, 4, 5, 6, 7, 8, 9, 10, 11, 12, 13, 14, 15, 16, 17, 18, 19, 20, 21, 22, 23, 24, 25, 26, 27, 28, 29, 30, 31] (by decide) rfl
          generalize H1 = H at hP hS ⊢
          refine va_mmax hx hb (by rw [hml]; exact hl.1.symm) hown (hts _ tw_307) (hts _ tw_207) (hts _ tw_7) (hts _ tw_208) (Nat.le_of_ble_eq_true rfl) (Nat.le_of_ble_eq_true rfl) (Nat.zero_le _) (Nat.zero_le _) nd_Main_blocking_40 ?_
          refine lv_istore_n (lv' := [(2, .int (cr_max v2_19 r_7)), (0, .ref (amn 0)), (1, .int x1), (3, .int v3_19)]) hx hb nd_Main_blocking_43 rfl hl (by decide) rfl (fun ls hl => ?_)
          have e_9 : (v3_19 + (1 : Int32)).toInt = v3_19.toInt + (1 : Int32).toInt := cr_add (by omega)
          refine lv_iinc (v := (v3_19 + (1 : Int32))) (lv' := [(3, .int (v3_19 + (1 : Int32))), (2, .int (cr_max v2_19 r_7)), (0, .ref (amn 0)), (1, .int x1)]) hx hb nd_Main_blocking_44 hl (k := 3) rfl (by rfl) (by decide) rfl (fun ls hl => ?_)
          refine lv_goto (tgt := 19) hx hb nd_Main_blocking_47 (by decide) ?_
          exact ih_19 (cr_max v2_19 r_7) (v3_19 + (1 : Int32)) (by omega) (by omega) hM _ _ hP hD hS _ (lv_sub hl [2, 3, 1, 0] rfl)
    exact lp_19 11 (0 : Int32) (1 : Int32) (by omega) (by omega) hM _ _ hP hD hS _ hl
  · have c_4t := cr_eq c_4
    rw [if_pos c_4] at hM
    refine lv_ldc2 (v := -1) hx hb hown (hts _ tw_298) nd_Main_blocking_11 ?_
    exact W.lret (v := (-1 : Int64)) hx hb hr (fun t ht hW => ⟨⟨(-1 : Int64), (), rfl, by rw [hT, ← hM], by rw [ht]; exact hP, va_K.moved hW.alike hK, hD⟩, hS.F ht⟩) hS.2.2 nd_Main_blocking_14

theorem nd_Main_lock_0 : decode prog_1_method_10_code 0 = .ok (.iload_n 1, 1) := by decide +kernel
theorem nd_Main_lock_1 : decode prog_1_method_10_code 1 = .ok (.invokestatic 47, 3) := by decide +kernel
theorem nd_Main_lock_4 : decode prog_1_method_10_code 4 = .ok (.ifCond .ne (5), 3) := by decide +kernel
theorem nd_Main_lock_7 : decode prog_1_method_10_code 7 = .ok (.iconst (-1), 1) := by decide +kernel
theorem nd_Main_lock_8 : decode prog_1_method_10_code 8 = .ok (.ireturn, 1) := by decide +kernel
theorem nd_Main_lock_9 : decode prog_1_method_10_code 9 = .ok (.iload_n 2, 1) := by decide +kernel
theorem nd_Main_lock_10 : decode prog_1_method_10_code 10 = .ok (.ifCond .eq (15), 3) := by decide +kernel
theorem nd_Main_lock_13 : decode prog_1_method_10_code 13 = .ok (.iload_n 2, 1) := by decide +kernel
theorem nd_Main_lock_14 : decode prog_1_method_10_code 14 = .ok (.bipush (-8), 2) := by decide +kernel
theorem nd_Main_lock_16 : decode prog_1_method_10_code 16 = .ok (.if_icmp .lt (9), 3) := by decide +kernel
theorem nd_Main_lock_19 : decode prog_1_method_10_code 19 = .ok (.iload_n 2, 1) := by decide +kernel
theorem nd_Main_lock_20 : decode prog_1_method_10_code 20 = .ok (.bipush 8, 2) := by decide +kernel
theorem nd_Main_lock_22 : decode prog_1_method_10_code 22 = .ok (.if_icmp .le (6), 3) := by decide +kernel
theorem nd_Main_lock_25 : decode prog_1_method_10_code 25 = .ok (.bipush (-2), 2) := by decide +kernel
theorem nd_Main_lock_27 : decode prog_1_method_10_code 27 = .ok (.ireturn, 1) := by decide +kernel
theorem nd_Main_lock_28 : decode prog_1_method_10_code 28 = .ok (.aload_n 0, 1) := by decide +kernel
theorem nd_Main_lock_29 : decode prog_1_method_10_code 29 = .ok (.getfield 28, 3) := by decide +kernel
theorem nd_Main_lock_32 : decode prog_1_method_10_code 32 = .ok (.iload_n 1, 1) := by decide +kernel
theorem nd_Main_lock_33 : decode prog_1_method_10_code 33 = .ok (.invokevirtual 118, 3) := by decide +kernel
theorem nd_Main_lock_36 : decode prog_1_method_10_code 36 = .ok (.ifCond .eq (6), 3) := by decide +kernel
theorem nd_Main_lock_39 : decode prog_1_method_10_code 39 = .ok (.bipush (-3), 2) := by decide +kernel
theorem nd_Main_lock_41 : decode prog_1_method_10_code 41 = .ok (.ireturn, 1) := by decide +kernel
theorem nd_Main_lock_42 : decode prog_1_method_10_code 42 = .ok (.iload_n 2, 1) := by decide +kernel
theorem nd_Main_lock_43 : decode prog_1_method_10_code 43 = .ok (.ifCond .le (15), 3) := by decide +kernel
theorem nd_Main_lock_46 : decode prog_1_method_10_code 46 = .ok (.aload_n 0, 1) := by decide +kernel
theorem nd_Main_lock_47 : decode prog_1_method_10_code 47 = .ok (.getfield 28, 3) := by decide +kernel
theorem nd_Main_lock_50 : decode prog_1_method_10_code 50 = .ok (.iload_n 1, 1) := by decide +kernel
theorem nd_Main_lock_51 : decode prog_1_method_10_code 51 = .ok (.iload_n 2, 1) := by decide +kernel
theorem nd_Main_lock_52 : decode prog_1_method_10_code 52 = .ok (.invokevirtual 121, 3) := by decide +kernel
theorem nd_Main_lock_55 : decode prog_1_method_10_code 55 = .ok (.goto (13), 3) := by decide +kernel
theorem nd_Main_lock_58 : decode prog_1_method_10_code 58 = .ok (.aload_n 0, 1) := by decide +kernel
theorem nd_Main_lock_59 : decode prog_1_method_10_code 59 = .ok (.getfield 28, 3) := by decide +kernel
theorem nd_Main_lock_62 : decode prog_1_method_10_code 62 = .ok (.iload_n 1, 1) := by decide +kernel
theorem nd_Main_lock_63 : decode prog_1_method_10_code 63 = .ok (.iload_n 2, 1) := by decide +kernel
theorem nd_Main_lock_64 : decode prog_1_method_10_code 64 = .ok (.ineg, 1) := by decide +kernel
theorem nd_Main_lock_65 : decode prog_1_method_10_code 65 = .ok (.invokevirtual 124, 3) := by decide +kernel
theorem nd_Main_lock_68 : decode prog_1_method_10_code 68 = .ok (.ireturn, 1) := by decide +kernel
abbrev pq_Main_lock (dC : Nat → ClassId) (dI : Nat → Nat → Nat) (cI cZ cO : ClassId) (amn apl abd alk atr atb : Nat → Nat) (mn : cr_S) (lt : Int64) (pl : cr_S) (bd : cr_S) (lk : cr_S) (tr : cr_S) (tb : cr_S) (x1 : Int32) (x2 : Int32) (A : Nat → Prop) : Array Value → State → Outcome → State → Prop :=
  va_Qi (fun (r : Int32) (lk' : cr_S) => r = (md_Main_lock mn lt pl bd lk tr tb x1 x2).1 ∧ lk' = (md_Main_lock mn lt pl bd lk tr tb x1 x2).2 ∧ cr_RLocks lk') (fun (lk' : cr_S) t => va_P (dC, dI) vwCl (cw_Main cI cZ cO amn apl abd alk atr mn lt ++ cw_Plan cI cZ cO apl pl ++ cw_Board cI cZ cO abd apl bd ++ cw_Locks cI cZ cO alk lk' ++ cw_Trial cI cZ cO atr apl atb tr ++ cw_Board cI cZ cO atb apl tb) t.heap ∧ va_K (dC, dI) vwCl [(cI, .int), (cZ, .boolean), (cO, .array .int)] t ∧ va_D A (cw_Main cI cZ cO amn apl abd alk atr mn lt ++ cw_Plan cI cZ cO apl pl ++ cw_Board cI cZ cO abd apl bd ++ cw_Locks cI cZ cO alk lk' ++ cw_Trial cI cZ cO atr apl atb tr ++ cw_Board cI cZ cO atb apl tb)) A
set_option maxHeartbeats 4000000 in
set_option maxRecDepth 100000 in
theorem ct_Main_lock (l : Launch) (dC : Nat → ClassId) (dI : Nat → Nat → Nat) (cI cZ cO : ClassId) (amn apl abd alk atr atb : Nat → Nat) (sz : Nat) (mn : cr_S) (lt : Int64) (pl : cr_S) (bd : cr_S) (lk : cr_S) (tr : cr_S) (tb : cr_S) (x1 : Int32) (x2 : Int32) (hR_tb : cr_RBoard tb) (hR_lk : cr_RLocks lk) (hR_bd : cr_RBoard bd) (hR_pl : cr_RPlan pl) : Met l ny_Main_lock nw_Main_lock ({ frames := 2, cells := 0, slots := 0, locals := 47 } : Room) (va_Pc [.ref (amn 0), .int x1, .int x2] (fun U => U.heap.size = sz ∧ va_P (dC, dI) vwCl (cw_Main cI cZ cO amn apl abd alk atr mn lt ++ cw_Plan cI cZ cO apl pl ++ cw_Board cI cZ cO abd apl bd ++ cw_Locks cI cZ cO alk lk ++ cw_Trial cI cZ cO atr apl atb tr ++ cw_Board cI cZ cO atb apl tb) U.heap ∧ va_K (dC, dI) vwCl [(cI, .int), (cZ, .boolean), (cO, .array .int)] U ∧ va_D (fun _ => True) (cw_Main cI cZ cO amn apl abd alk atr mn lt ++ cw_Plan cI cZ cO apl pl ++ cw_Board cI cZ cO abd apl bd ++ cw_Locks cI cZ cO alk lk ++ cw_Trial cI cZ cO atr apl atb tr ++ cw_Board cI cZ cO atb apl tb))) (pq_Main_lock dC dI cI cZ cO amn apl abd alk atr atb mn lt pl bd lk tr tb x1 x2 (va_A (cw_Main cI cZ cO amn apl abd alk atr mn lt ++ cw_Plan cI cZ cO apl pl ++ cw_Board cI cZ cO abd apl bd ++ cw_Locks cI cZ cO alk lk ++ cw_Trial cI cZ cO atr apl atb tr ++ cw_Board cI cZ cO atb apl tb) sz)) 0 0 (va_A (cw_Main cI cZ cO amn apl abd alk atr mn lt ++ cw_Plan cI cZ cO apl pl ++ cw_Board cI cZ cO abd apl bd ++ cw_Locks cI cZ cO alk lk ++ cw_Trial cI cZ cO atr apl atb tr ++ cw_Board cI cZ cO atb apl tb) sz) := by
  refine Met.ofW (cc := prog_1_method_10_code) (maxL := 3) (ret := (some .int)) (by decide) rfl ?_
  intro p e s m args below meth c s₁ B hml hv
  obtain ⟨rfl, hsz, hP, hK, hD0⟩ := hv
  have hx := B.exec
  have hb := B.bytes
  have hr := B.returns
  have hts0 := atoms_spec (ws := nw_Main_lock) B.pre
  have hts : ∀ w ∈ ng_tbl, w.before ([.ref (amn 0), .int x1, .int x2] : List Value).toArray s = true := fun w h => hts0 w (List.mem_cons_of_mem _ h)
  have hown : s.vm.findClass "CeilingRows" = some m.cls := findClass_of_methodNamed B.named
  have hlocks := B.notSynchronized
  subst hsz
  have hD := hD0.self (sz := s.heap.size)
  generalize hAe : va_A (cw_Main cI cZ cO amn apl abd alk atr mn lt ++ cw_Plan cI cZ cO apl pl ++ cw_Board cI cZ cO abd apl bd ++ cw_Locks cI cZ cO alk lk ++ cw_Trial cI cZ cO atr apl atb tr ++ cw_Board cI cZ cO atb apl tb) s.heap.size = A at hD ⊢
  have hA : ∀ q : Nat, s.heap.size ≤ q → A q := fun q h => by rw [← hAe]; exact Or.inr h
  have hS : va_S A s.heap s.heap [] := va_S.rf
  have hP : va_P (dC, dI) vwCl (cw_Main cI cZ cO amn apl abd alk atr mn lt ++ cw_Plan cI cZ cO apl pl ++ cw_Board cI cZ cO abd apl bd ++ cw_Locks cI cZ cO alk lk ++ cw_Trial cI cZ cO atr apl atb tr ++ cw_Board cI cZ cO atb apl tb) s.heap := hP
  have hl := lv_entry ([.ref (amn 0), .int x1, .int x2]) (n := 3) (Nat.le_of_ble_eq_true rfl)
  rw [lg_entry_eq]
  generalize (lg_sl ([.ref (amn 0), .int x1, .int x2]) ++ List.replicate (3 - (lg_sl ([.ref (amn 0), .int x1, .int x2])).length) Slot.unset).toArray = ls at hl ⊢
  have hl : lv_has ls 3 [(0, .ref (amn 0)), (1, .int x1), (2, .int x2)] := hl
  have f0_pl_0 := cr_rfo hR_pl.1
  have f0_pl_1 := cr_rfo hR_pl.2.1
  have k_m8 : (-8 : Int32).toInt = -8 := by decide
  have k_m3 : (-3 : Int32).toInt = -3 := by decide
  have k_m2 : (-2 : Int32).toInt = -2 := by decide
  have k_m1 : (-1 : Int32).toInt = -1 := by decide
  have k_0 : (0 : Int32).toInt = 0 := by decide
  have k_8 : (8 : Int32).toInt = 8 := by decide
  obtain ⟨tgt, hT⟩ : ∃ z, md_Main_lock mn lt pl bd lk tr tb x1 x2 = z := ⟨_, rfl⟩
  have hM := hT
  unfold md_Main_lock at hM
  refine lv_iload_n hx hb nd_Main_lock_0 rfl (lv_at hl 1 rfl) ?_
  have hPc := hP.sub (ws' := ([] : va_W)) [] rfl
  have hDc := hD.sub (ws' := ([] : va_W)) [] (by decide) rfl
  have hFc := va_free (wc := ([] : va_W)) hD hS hA [] rfl
  refine va_calli (va_runS (As := [.int x1]) (rest := []) ⟨hx, hb, hml, hown, hts⟩ (ct_Main_isCore l dC dI cI cZ cO  s.heap.size  x1 ) (va_cwS 1 hts (ng_S tw_162 tw_163 tw_1 tw_164) rfl rfl rfl (by decide +kernel) ⟨Nat.le_of_ble_eq_true rfl, Nat.le_of_ble_eq_true rfl⟩) ⟨fun a U g mk q => by obtain ⟨q0, q1, qP, qK, qD⟩ := q; exact ⟨q0, q1, qP, va_K.moved (u := U) (U := U.calling g mk a) (Vm.Alike.refl U.vm) qK, qD⟩, fun U hU hW => ⟨rfl, by rw [hU], by rw [hU]; exact hPc, va_K.moved hW.alike hK, hDc.weaken (fun _ _ _ _ => trivial)⟩⟩ rfl rfl hl.1 rfl (lv_room (Nat.le_of_ble_eq_true rfl)) nd_Main_lock_1 ⟨Nat.zero_le _, Nat.zero_le _⟩) hS (fun q _ h => hFc q h) hFc (fun r_1 u t H1 locs ht hvm hw hB hz1 hk1 hS => ?_)
  obtain ⟨hP1, hK1, hD1⟩ := hB
  rw [ht] at hP1
  obtain ⟨w_2, f_3⟩ := hw
  try rw [← w_2] at hM
  obtain ⟨hP, hD⟩ := va_join (wr := cw_Main cI cZ cO amn apl abd alk atr mn lt ++ cw_Plan cI cZ cO apl pl ++ cw_Board cI cZ cO abd apl bd ++ cw_Locks cI cZ cO alk lk ++ cw_Trial cI cZ cO atr apl atb tr ++ cw_Board cI cZ cO atb apl tb) (w1 := ([] : va_W)) hP hD [] [0, 1, 2, 3, 4, 5, 6, 7, 8, 9, 10, 11, 12, 13, 14, 15, 16, 17, 18, 19, 20, 21, 22, 23, 24, 25, 26, 27, 28, 29, 30, 31, 32, 33, 34, 35, 36, 37, 38, 39, 40, 41, 42, 43, 44, 45, 46, 47, 48] rfl rfl (by decide) (by decide) hk1 hFc hP1 hD1
  have hP := hP.sub (ws' := cw_Main cI cZ cO amn apl abd alk atr mn lt ++ cw_Plan cI cZ cO apl pl ++ cw_Board cI cZ cO abd apl bd ++ cw_Locks cI cZ cO alk lk ++ cw_Trial cI cZ cO atr apl atb tr ++ cw_Board cI cZ cO atb apl tb) [0, 1, 2, 3, 4, 5, 6, 7, 8, 9, 10, 11, 12, 13, 14, 15, 16, 17, 18, 19, 20, 21, 22, 23, 24, 25, 26, 27, 28, 29, 30, 31, 32, 33, 34, 35, 36, 37, 38, 39, 40, 41, 42, 43, 44, 45, 46, 47, 48] rfl
  have hD := hD.sub (ws' := cw_Main cI cZ cO amn apl abd alk atr mn lt ++ cw_Plan cI cZ cO apl pl ++ cw_Board cI cZ cO abd apl bd ++ cw_Locks cI cZ cO alk lk ++ cw_Trial cI cZ cO atr apl atb tr ++ cw_Board cI cZ cO atb apl tb) [0, 1, 2, 3, 4, 5, 6, 7, 8, 9, 10, 11, 12, 13, 14, 15, 16, 17, 18, 19, 20, 21, 22, 23, 24, 25, 26, 27, 28, 29, 30, 31, 32, 33, 34, 35, 36, 37, 38, 39, 40, 41, 42, 43, 44, 45, 46, 47, 48] (by decide) rfl
  generalize H1 = H at hP hS ⊢
  refine lv_if_ne (tgt := 9) hx hb nd_Main_lock_4 (by decide) (fun c_4 => ?_) (fun c_4 => ?_)
  · have c_4t := cr_ne c_4
    rw [if_neg c_4] at hM
    refine lv_iload_n hx hb nd_Main_lock_9 rfl (lv_at hl 2 rfl) ?_
    refine lv_if_eq (tgt := 25) hx hb nd_Main_lock_10 (by decide) (fun c_5 => ?_) (fun c_5 => ?_)
    · have c_5t := cr_eq c_5
      rw [if_pos c_5] at hM
      refine lv_bipush (v := -2) hx hb nd_Main_lock_25 (by decide) ?_
      exact W.iret (v := (-2 : Int32)) hx hb hr (fun t ht hW => ⟨⟨(-2 : Int32), lk, rfl, ⟨by rw [hT, ← hM], by rw [hT, ← hM], hR_lk⟩, by rw [ht]; exact hP, va_K.moved hW.alike hK, hD⟩, hS.F ht⟩) hS.2.2 nd_Main_lock_27
    · have c_5t := cr_ne c_5
      rw [if_neg c_5] at hM
      refine lv_iload_n hx hb nd_Main_lock_13 rfl (lv_at hl 2 rfl) ?_
      refine lv_bipush (v := -8) hx hb nd_Main_lock_14 (by decide) ?_
      refine lv_icmp_lt (tgt := 25) hx hb nd_Main_lock_16 (by decide) (fun c_6 => ?_) (fun c_6 => ?_)
      · have c_6t := cr_lt c_6
        rw [if_pos c_6] at hM
        refine lv_bipush (v := -2) hx hb nd_Main_lock_25 (by decide) ?_
        exact W.iret (v := (-2 : Int32)) hx hb hr (fun t ht hW => ⟨⟨(-2 : Int32), lk, rfl, ⟨by rw [hT, ← hM], by rw [hT, ← hM], hR_lk⟩, by rw [ht]; exact hP, va_K.moved hW.alike hK, hD⟩, hS.F ht⟩) hS.2.2 nd_Main_lock_27
      · have c_6t := cr_nlt c_6
        rw [if_neg c_6] at hM
        refine lv_iload_n hx hb nd_Main_lock_19 rfl (lv_at hl 2 rfl) ?_
        refine lv_bipush (v := 8) hx hb nd_Main_lock_20 (by decide) ?_
        refine lv_icmp_le (tgt := 28) hx hb nd_Main_lock_22 (by decide) (fun c_7 => ?_) (fun c_7 => ?_)
        · have c_7t := cr_le c_7
          rw [if_pos c_7] at hM
          refine lv_aload_n hx hb nd_Main_lock_28 rfl (lv_at hl 0 rfl) ?_
          refine va_get (D := (dC, dI)) (ci := 4) (v := .ref (alk 0)) (C := "CeilingRows") (T := nf_Main) (N := 6) hx hb hts nin_Main hown hK hP 0 rfl rfl 2 (by decide) (hts _ tw_140) (fun _ h9 => h9) rfl nd_Main_lock_29 ?_
          refine lv_iload_n hx hb nd_Main_lock_32 rfl (lv_at hl 1 rfl) ?_
          have hPc := hP.sub (ws' := cw_Locks cI cZ cO alk lk) [25, 26, 27, 28] rfl
          have hDc := hD.sub (ws' := cw_Locks cI cZ cO alk lk) [25, 26, 27, 28] (by decide) rfl
          have hFc := va_free (wc := cw_Locks cI cZ cO alk lk) hD hS hA [25, 26, 27, 28] rfl
          refine va_calli (va_runV (As := [.int x1]) (rest := []) ⟨hx, hb, hml, hown, hts⟩ (ct_Locks_spins l dC dI cI cZ cO alk H.size lk x1 hR_lk (by omega)) (cwV 1 hts (ng_V tw_234 tw_235 tw_236 tw_4 tw_237) rfl rfl rfl (by decide +kernel) ⟨Nat.le_of_ble_eq_true rfl, Nat.le_of_ble_eq_true rfl⟩) ⟨fun a U g mk q => by obtain ⟨q0, q1, qP, qK, qD⟩ := q; exact ⟨q0, q1, qP, va_K.moved (u := U) (U := U.calling g mk a) (Vm.Alike.refl U.vm) qK, qD⟩, va_recv hK hPc (ci := 2) (q0 := 0) rfl rfl, fun U hU hW => ⟨rfl, by rw [hU], by rw [hU]; exact hPc, va_K.moved hW.alike hK, hDc.weaken (fun _ _ _ _ => trivial)⟩⟩ rfl rfl hl.1 rfl (lv_room (Nat.le_of_ble_eq_true rfl)) nd_Main_lock_33 ⟨Nat.zero_le _, Nat.zero_le _⟩) hS (fun q _ h => hFc q h) hFc (fun r_8 u t H1 locs ht hvm hw hB hz1 hk1 hS => ?_)
          obtain ⟨hP1, hK1, hD1⟩ := hB
          rw [ht] at hP1
          have w_9 := hw
          try rw [← w_9] at hM
          obtain ⟨hP, hD⟩ := va_join (wr := cw_Main cI cZ cO amn apl abd alk atr mn lt ++ cw_Plan cI cZ cO apl pl ++ cw_Board cI cZ cO abd apl bd ++ cw_Trial cI cZ cO atr apl atb tr ++ cw_Board cI cZ cO atb apl tb) (w1 := cw_Locks cI cZ cO alk lk) hP hD [25, 26, 27, 28] [0, 1, 2, 3, 4, 5, 6, 7, 8, 9, 10, 11, 12, 13, 14, 15, 16, 17, 18, 19, 20, 21, 22, 23, 24, 29, 30, 31, 32, 33, 34, 35, 36, 37, 38, 39, 40, 41, 42, 43, 44, 45, 46, 47, 48] rfl rfl (by decide) (by decide) hk1 hFc hP1 hD1
          have hP := hP.sub (ws' := cw_Main cI cZ cO amn apl abd alk atr mn lt ++ cw_Plan cI cZ cO apl pl ++ cw_Board cI cZ cO abd apl bd ++ cw_Locks cI cZ cO alk lk ++ cw_Trial cI cZ cO atr apl atb tr ++ cw_Board cI cZ cO atb apl tb) [0, 1, 2, 3, 4, 5, 6, 7, 8, 9, 10, 11, 12, 13, 14, 15, 16, 17, 18, 19, 20, 21, 22, 23, 24, 45, 46, 47, 48, 25, 26, 27, 28, 29, 30, 31, 32, 33, 34, 35, 36, 37, 38, 39, 40, 41, 42, 43, 44] rfl
          have hD := hD.sub (ws' := cw_Main cI cZ cO amn apl abd alk atr mn lt ++ cw_Plan cI cZ cO apl pl ++ cw_Board cI cZ cO abd apl bd ++ cw_Locks cI cZ cO alk lk ++ cw_Trial cI cZ cO atr apl atb tr ++ cw_Board cI cZ cO atb apl tb) [0, 1, 2, 3, 4, 5, 6, 7, 8, 9, 10, 11, 12, 13, 14, 15, 16, 17, 18, 19, 20, 21, 22, 23, 24, 45, 46, 47, 48, 25, 26, 27, 28, 29, 30, 31, 32, 33, 34, 35, 36, 37, 38, 39, 40, 41, 42, 43, 44] (by decide) rfl
          generalize H1 = H at hP hS ⊢
          refine lv_if_eq (tgt := 42) hx hb nd_Main_lock_36 (by decide) (fun c_10 => ?_) (fun c_10 => ?_)
          · have c_10t := cr_eq c_10
            rw [if_pos c_10] at hM
            refine lv_iload_n hx hb nd_Main_lock_42 rfl (lv_at hl 2 rfl) ?_
            refine lv_if_le (tgt := 58) hx hb nd_Main_lock_43 (by decide) (fun c_11 => ?_) (fun c_11 => ?_)
            · have c_11t := cr_le c_11
              rw [if_pos c_11] at hM
              refine lv_aload_n hx hb nd_Main_lock_58 rfl (lv_at hl 0 rfl) ?_
              refine va_get (D := (dC, dI)) (ci := 4) (v := .ref (alk 0)) (C := "CeilingRows") (T := nf_Main) (N := 6) hx hb hts nin_Main hown hK hP 0 rfl rfl 2 (by decide) (hts _ tw_140) (fun _ h9 => h9) rfl nd_Main_lock_59 ?_
              refine lv_iload_n hx hb nd_Main_lock_62 rfl (lv_at hl 1 rfl) ?_
              refine lv_iload_n hx hb nd_Main_lock_63 rfl (lv_at hl 2 rfl) ?_
              refine lv_ineg hx hb nd_Main_lock_64 ?_
              have e_12 : (-x2).toInt = -(x2.toInt) := cr_neg (by omega)
              have hPc := hP.sub (ws' := cw_Locks cI cZ cO alk lk) [25, 26, 27, 28] rfl
              have hDc := hD.sub (ws' := cw_Locks cI cZ cO alk lk) [25, 26, 27, 28] (by decide) rfl
              have hFc := va_free (wc := cw_Locks cI cZ cO alk lk) hD hS hA [25, 26, 27, 28] rfl
              refine va_calli (va_runV (As := [.int x1, .int (-x2)]) (rest := []) ⟨hx, hb, hml, hown, hts⟩ (ct_Locks_release l dC dI cI cZ cO alk H.size lk x1 (-x2) hR_lk (by omega) (by omega)) (cwV 2 hts (ng_V tw_320 tw_321 tw_322 tw_4 tw_323) rfl rfl rfl (by decide +kernel) ⟨Nat.le_of_ble_eq_true rfl, Nat.le_of_ble_eq_true rfl⟩) ⟨fun a U g mk q => by obtain ⟨q0, q1, qP, qK, qD⟩ := q; exact ⟨q0, q1, qP, va_K.moved (u := U) (U := U.calling g mk a) (Vm.Alike.refl U.vm) qK, qD⟩, va_recv hK hPc (ci := 2) (q0 := 0) rfl rfl, fun U hU hW => ⟨rfl, by rw [hU], by rw [hU]; exact hPc, va_K.moved hW.alike hK, hDc.weaken (fun _ _ _ _ => trivial)⟩⟩ rfl rfl hl.1 rfl (lv_room (Nat.le_of_ble_eq_true rfl)) nd_Main_lock_65 ⟨Nat.zero_le _, Nat.zero_le _⟩) hS (fun q _ h => hFc q h) hFc (fun r_13 u t H1 locs ht hvm hw hB hz1 hk1 hS => ?_)
              obtain ⟨hP1, hK1, hD1⟩ := hB
              rw [ht] at hP1
              obtain ⟨lkq_15, rfl⟩ : ∃ z, z = u := ⟨_, rfl⟩
              obtain ⟨w_14, w_16, hR_17⟩ := hw
              try rw [← w_14] at hM
              try rw [← w_16] at hM
              obtain ⟨hP, hD⟩ := va_join (wr := cw_Main cI cZ cO amn apl abd alk atr mn lt ++ cw_Plan cI cZ cO apl pl ++ cw_Board cI cZ cO abd apl bd ++ cw_Trial cI cZ cO atr apl atb tr ++ cw_Board cI cZ cO atb apl tb) (w1 := cw_Locks cI cZ cO alk lkq_15) hP hD [25, 26, 27, 28] [0, 1, 2, 3, 4, 5, 6, 7, 8, 9, 10, 11, 12, 13, 14, 15, 16, 17, 18, 19, 20, 21, 22, 23, 24, 29, 30, 31, 32, 33, 34, 35, 36, 37, 38, 39, 40, 41, 42, 43, 44, 45, 46, 47, 48] rfl rfl (by decide) (by decide) hk1 hFc hP1 hD1
              have hP := hP.sub (ws' := cw_Main cI cZ cO amn apl abd alk atr mn lt ++ cw_Plan cI cZ cO apl pl ++ cw_Board cI cZ cO abd apl bd ++ cw_Locks cI cZ cO alk lkq_15 ++ cw_Trial cI cZ cO atr apl atb tr ++ cw_Board cI cZ cO atb apl tb) [0, 1, 2, 3, 4, 5, 6, 7, 8, 9, 10, 11, 12, 13, 14, 15, 16, 17, 18, 19, 20, 21, 22, 23, 24, 45, 46, 47, 48, 25, 26, 27, 28, 29, 30, 31, 32, 33, 34, 35, 36, 37, 38, 39, 40, 41, 42, 43, 44] rfl
              have hD := hD.sub (ws' := cw_Main cI cZ cO amn apl abd alk atr mn lt ++ cw_Plan cI cZ cO apl pl ++ cw_Board cI cZ cO abd apl bd ++ cw_Locks cI cZ cO alk lkq_15 ++ cw_Trial cI cZ cO atr apl atb tr ++ cw_Board cI cZ cO atb apl tb) [0, 1, 2, 3, 4, 5, 6, 7, 8, 9, 10, 11, 12, 13, 14, 15, 16, 17, 18, 19, 20, 21, 22, 23, 24, 45, 46, 47, 48, 25, 26, 27, 28, 29, 30, 31, 32, 33, 34, 35, 36, 37, 38, 39, 40, 41, 42, 43, 44] (by decide) rfl
              generalize H1 = H at hP hS ⊢
              exact W.iret (v := r_13) hx hb hr (fun t ht hW => ⟨⟨r_13, lkq_15, rfl, ⟨by rw [hT, ← hM], by rw [hT, ← hM], hR_17⟩, by rw [ht]; exact hP, va_K.moved hW.alike hK, hD⟩, hS.F ht⟩) hS.2.2 nd_Main_lock_68
            · have c_11t := cr_nle c_11
              rw [if_neg c_11] at hM
              refine lv_aload_n hx hb nd_Main_lock_46 rfl (lv_at hl 0 rfl) ?_
              refine va_get (D := (dC, dI)) (ci := 4) (v := .ref (alk 0)) (C := "CeilingRows") (T := nf_Main) (N := 6) hx hb hts nin_Main hown hK hP 0 rfl rfl 2 (by decide) (hts _ tw_140) (fun _ h9 => h9) rfl nd_Main_lock_47 ?_
              refine lv_iload_n hx hb nd_Main_lock_50 rfl (lv_at hl 1 rfl) ?_
              refine lv_iload_n hx hb nd_Main_lock_51 rfl (lv_at hl 2 rfl) ?_
              have hPc := hP.sub (ws' := cw_Locks cI cZ cO alk lk) [25, 26, 27, 28] rfl
              have hDc := hD.sub (ws' := cw_Locks cI cZ cO alk lk) [25, 26, 27, 28] (by decide) rfl
              have hFc := va_free (wc := cw_Locks cI cZ cO alk lk) hD hS hA [25, 26, 27, 28] rfl
              refine va_calli (va_runV (As := [.int x1, .int x2]) (rest := []) ⟨hx, hb, hml, hown, hts⟩ (ct_Locks_acquire l dC dI cI cZ cO alk H.size lk x1 x2 hR_lk (by omega) (by omega)) (cwV 2 hts (ng_V tw_312 tw_313 tw_314 tw_4 tw_315) rfl rfl rfl (by decide +kernel) ⟨Nat.le_of_ble_eq_true rfl, Nat.le_of_ble_eq_true rfl⟩) ⟨fun a U g mk q => by obtain ⟨q0, q1, qP, qK, qD⟩ := q; exact ⟨q0, q1, qP, va_K.moved (u := U) (U := U.calling g mk a) (Vm.Alike.refl U.vm) qK, qD⟩, va_recv hK hPc (ci := 2) (q0 := 0) rfl rfl, fun U hU hW => ⟨rfl, by rw [hU], by rw [hU]; exact hPc, va_K.moved hW.alike hK, hDc.weaken (fun _ _ _ _ => trivial)⟩⟩ rfl rfl hl.1 rfl (lv_room (Nat.le_of_ble_eq_true rfl)) nd_Main_lock_52 ⟨Nat.zero_le _, Nat.zero_le _⟩) hS (fun q _ h => hFc q h) hFc (fun r_18 u t H1 locs ht hvm hw hB hz1 hk1 hS => ?_)
              obtain ⟨hP1, hK1, hD1⟩ := hB
              rw [ht] at hP1
              obtain ⟨lkq_20, rfl⟩ : ∃ z, z = u := ⟨_, rfl⟩
              obtain ⟨w_19, w_21, hR_22⟩ := hw
              try rw [← w_19] at hM
              try rw [← w_21] at hM
              obtain ⟨hP, hD⟩ := va_join (wr := cw_Main cI cZ cO amn apl abd alk atr mn lt ++ cw_Plan cI cZ cO apl pl ++ cw_Board cI cZ cO abd apl bd ++ cw_Trial cI cZ cO atr apl atb tr ++ cw_Board cI cZ cO atb apl tb) (w1 := cw_Locks cI cZ cO alk lkq_20) hP hD [25, 26, 27, 28] [0, 1, 2, 3, 4, 5, 6, 7, 8, 9, 10, 11, 12, 13, 14, 15, 16, 17, 18, 19, 20, 21, 22, 23, 24, 29, 30, 31, 32, 33, 34, 35, 36, 37, 38, 39, 40, 41, 42, 43, 44, 45, 46, 47, 48] rfl rfl (by decide) (by decide) hk1 hFc hP1 hD1
              have hP := hP.sub (ws' := cw_Main cI cZ cO amn apl abd alk atr mn lt ++ cw_Plan cI cZ cO apl pl ++ cw_Board cI cZ cO abd apl bd ++ cw_Locks cI cZ cO alk lkq_20 ++ cw_Trial cI cZ cO atr apl atb tr ++ cw_Board cI cZ cO atb apl tb) [0, 1, 2, 3, 4, 5, 6, 7, 8, 9, 10, 11, 12, 13, 14, 15, 16, 17, 18, 19, 20, 21, 22, 23, 24, 45, 46, 47, 48, 25, 26, 27, 28, 29, 30, 31, 32, 33, 34, 35, 36, 37, 38, 39, 40, 41, 42, 43, 44] rfl
              have hD := hD.sub (ws' := cw_Main cI cZ cO amn apl abd alk atr mn lt ++ cw_Plan cI cZ cO apl pl ++ cw_Board cI cZ cO abd apl bd ++ cw_Locks cI cZ cO alk lkq_20 ++ cw_Trial cI cZ cO atr apl atb tr ++ cw_Board cI cZ cO atb apl tb) [0, 1, 2, 3, 4, 5, 6, 7, 8, 9, 10, 11, 12, 13, 14, 15, 16, 17, 18, 19, 20, 21, 22, 23, 24, 45, 46, 47, 48, 25, 26, 27, 28, 29, 30, 31, 32, 33, 34, 35, 36, 37, 38, 39, 40, 41, 42, 43, 44] (by decide) rfl
              generalize H1 = H at hP hS ⊢
              refine lv_goto (tgt := 68) hx hb nd_Main_lock_55 (by decide) ?_
              exact W.iret (v := r_18) hx hb hr (fun t ht hW => ⟨⟨r_18, lkq_20, rfl, ⟨by rw [hT, ← hM], by rw [hT, ← hM], hR_22⟩, by rw [ht]; exact hP, va_K.moved hW.alike hK, hD⟩, hS.F ht⟩) hS.2.2 nd_Main_lock_68
          · have c_10t := cr_ne c_10
            rw [if_neg c_10] at hM
            refine lv_bipush (v := -3) hx hb nd_Main_lock_39 (by decide) ?_
            exact W.iret (v := (-3 : Int32)) hx hb hr (fun t ht hW => ⟨⟨(-3 : Int32), lk, rfl, ⟨by rw [hT, ← hM], by rw [hT, ← hM], hR_lk⟩, by rw [ht]; exact hP, va_K.moved hW.alike hK, hD⟩, hS.F ht⟩) hS.2.2 nd_Main_lock_41
        · have c_7t := cr_nle c_7
          rw [if_neg c_7] at hM
          refine lv_bipush (v := -2) hx hb nd_Main_lock_25 (by decide) ?_
          exact W.iret (v := (-2 : Int32)) hx hb hr (fun t ht hW => ⟨⟨(-2 : Int32), lk, rfl, ⟨by rw [hT, ← hM], by rw [hT, ← hM], hR_lk⟩, by rw [ht]; exact hP, va_K.moved hW.alike hK, hD⟩, hS.F ht⟩) hS.2.2 nd_Main_lock_27
  · have c_4t := cr_eq c_4
    rw [if_pos c_4] at hM
    refine lv_iconst (v := -1) hx hb nd_Main_lock_7 (by decide) ?_
    exact W.iret (v := (-1 : Int32)) hx hb hr (fun t ht hW => ⟨⟨(-1 : Int32), lk, rfl, ⟨by rw [hT, ← hM], by rw [hT, ← hM], hR_lk⟩, by rw [ht]; exact hP, va_K.moved hW.alike hK, hD⟩, hS.F ht⟩) hS.2.2 nd_Main_lock_8

theorem nd_Main_ring_0 : decode prog_1_method_11_code 0 = .ok (.iconst 1, 1) := by decide +kernel
theorem nd_Main_ring_1 : decode prog_1_method_11_code 1 = .ok (.istore_n 1, 1) := by decide +kernel
theorem nd_Main_ring_2 : decode prog_1_method_11_code 2 = .ok (.iload_n 1, 1) := by decide +kernel
theorem nd_Main_ring_3 : decode prog_1_method_11_code 3 = .ok (.iconst 3, 1) := by decide +kernel
theorem nd_Main_ring_4 : decode prog_1_method_11_code 4 = .ok (.if_icmp .gt (22), 3) := by decide +kernel
theorem nd_Main_ring_7 : decode prog_1_method_11_code 7 = .ok (.aload_n 0, 1) := by decide +kernel
theorem nd_Main_ring_8 : decode prog_1_method_11_code 8 = .ok (.getfield 28, 3) := by decide +kernel
theorem nd_Main_ring_11 : decode prog_1_method_11_code 11 = .ok (.iload_n 1, 1) := by decide +kernel
theorem nd_Main_ring_12 : decode prog_1_method_11_code 12 = .ok (.invokevirtual 127, 3) := by decide +kernel
theorem nd_Main_ring_15 : decode prog_1_method_11_code 15 = .ok (.ifCond .eq (5), 3) := by decide +kernel
theorem nd_Main_ring_18 : decode prog_1_method_11_code 18 = .ok (.iconst 1, 1) := by decide +kernel
theorem nd_Main_ring_19 : decode prog_1_method_11_code 19 = .ok (.ireturn, 1) := by decide +kernel
theorem nd_Main_ring_20 : decode prog_1_method_11_code 20 = .ok (.iinc 1 1, 3) := by decide +kernel
theorem nd_Main_ring_23 : decode prog_1_method_11_code 23 = .ok (.goto (-21), 3) := by decide +kernel
theorem nd_Main_ring_26 : decode prog_1_method_11_code 26 = .ok (.iconst 0, 1) := by decide +kernel
theorem nd_Main_ring_27 : decode prog_1_method_11_code 27 = .ok (.ireturn, 1) := by decide +kernel
abbrev pq_Main_ring (dC : Nat → ClassId) (dI : Nat → Nat → Nat) (cI cZ cO : ClassId) (amn apl abd alk atr atb : Nat → Nat) (mn : cr_S) (lt : Int64) (pl : cr_S) (bd : cr_S) (lk : cr_S) (tr : cr_S) (tb : cr_S)  (A : Nat → Prop) : Array Value → State → Outcome → State → Prop :=
  va_Qi (fun (r : Int32) (_ : Unit) => r = md_Main_ring mn lt pl bd lk tr tb) (fun (_ : Unit) t => va_P (dC, dI) vwCl (cw_Main cI cZ cO amn apl abd alk atr mn lt ++ cw_Plan cI cZ cO apl pl ++ cw_Board cI cZ cO abd apl bd ++ cw_Locks cI cZ cO alk lk ++ cw_Trial cI cZ cO atr apl atb tr ++ cw_Board cI cZ cO atb apl tb) t.heap ∧ va_K (dC, dI) vwCl [(cI, .int), (cZ, .boolean), (cO, .array .int)] t ∧ va_D A (cw_Main cI cZ cO amn apl abd alk atr mn lt ++ cw_Plan cI cZ cO apl pl ++ cw_Board cI cZ cO abd apl bd ++ cw_Locks cI cZ cO alk lk ++ cw_Trial cI cZ cO atr apl atb tr ++ cw_Board cI cZ cO atb apl tb)) A
set_option maxHeartbeats 4000000 in
set_option maxRecDepth 100000 in
theorem ct_Main_ring (l : Launch) (dC : Nat → ClassId) (dI : Nat → Nat → Nat) (cI cZ cO : ClassId) (amn apl abd alk atr atb : Nat → Nat) (sz : Nat) (mn : cr_S) (lt : Int64) (pl : cr_S) (bd : cr_S) (lk : cr_S) (tr : cr_S) (tb : cr_S)  (hR_tb : cr_RBoard tb) (hR_lk : cr_RLocks lk) (hR_bd : cr_RBoard bd) (hR_pl : cr_RPlan pl) : Met l ny_Main_ring nw_Main_ring ({ frames := 2, cells := 0, slots := 0, locals := 44 } : Room) (va_Pc [.ref (amn 0)] (fun U => U.heap.size = sz ∧ va_P (dC, dI) vwCl (cw_Main cI cZ cO amn apl abd alk atr mn lt ++ cw_Plan cI cZ cO apl pl ++ cw_Board cI cZ cO abd apl bd ++ cw_Locks cI cZ cO alk lk ++ cw_Trial cI cZ cO atr apl atb tr ++ cw_Board cI cZ cO atb apl tb) U.heap ∧ va_K (dC, dI) vwCl [(cI, .int), (cZ, .boolean), (cO, .array .int)] U ∧ va_D (fun _ => True) (cw_Main cI cZ cO amn apl abd alk atr mn lt ++ cw_Plan cI cZ cO apl pl ++ cw_Board cI cZ cO abd apl bd ++ cw_Locks cI cZ cO alk lk ++ cw_Trial cI cZ cO atr apl atb tr ++ cw_Board cI cZ cO atb apl tb))) (pq_Main_ring dC dI cI cZ cO amn apl abd alk atr atb mn lt pl bd lk tr tb  (va_A (cw_Main cI cZ cO amn apl abd alk atr mn lt ++ cw_Plan cI cZ cO apl pl ++ cw_Board cI cZ cO abd apl bd ++ cw_Locks cI cZ cO alk lk ++ cw_Trial cI cZ cO atr apl atb tr ++ cw_Board cI cZ cO atb apl tb) sz)) 0 0 (va_A (cw_Main cI cZ cO amn apl abd alk atr mn lt ++ cw_Plan cI cZ cO apl pl ++ cw_Board cI cZ cO abd apl bd ++ cw_Locks cI cZ cO alk lk ++ cw_Trial cI cZ cO atr apl atb tr ++ cw_Board cI cZ cO atb apl tb) sz) := by
  refine Met.ofW (cc := prog_1_method_11_code) (maxL := 2) (ret := (some .boolean)) (by decide) rfl ?_
  intro p e s m args below meth c s₁ B hml hv
  obtain ⟨rfl, hsz, hP, hK, hD0⟩ := hv
  have hx := B.exec
  have hb := B.bytes
  have hr := B.returns
  have hts0 := atoms_spec (ws := nw_Main_ring) B.pre
  have hts : ∀ w ∈ ng_tbl, w.before ([.ref (amn 0)] : List Value).toArray s = true := fun w h => hts0 w (List.mem_cons_of_mem _ h)
  have hown : s.vm.findClass "CeilingRows" = some m.cls := findClass_of_methodNamed B.named
  have hlocks := B.notSynchronized
  subst hsz
  have hD := hD0.self (sz := s.heap.size)
  generalize hAe : va_A (cw_Main cI cZ cO amn apl abd alk atr mn lt ++ cw_Plan cI cZ cO apl pl ++ cw_Board cI cZ cO abd apl bd ++ cw_Locks cI cZ cO alk lk ++ cw_Trial cI cZ cO atr apl atb tr ++ cw_Board cI cZ cO atb apl tb) s.heap.size = A at hD ⊢
  have hA : ∀ q : Nat, s.heap.size ≤ q → A q := fun q h => by rw [← hAe]; exact Or.inr h
  have hS : va_S A s.heap s.heap [] := va_S.rf
  have hP : va_P (dC, dI) vwCl (cw_Main cI cZ cO amn apl abd alk atr mn lt ++ cw_Plan cI cZ cO apl pl ++ cw_Board cI cZ cO abd apl bd ++ cw_Locks cI cZ cO alk lk ++ cw_Trial cI cZ cO atr apl atb tr ++ cw_Board cI cZ cO atb apl tb) s.heap := hP
  have hl := lv_entry ([.ref (amn 0)]) (n := 2) (Nat.le_of_ble_eq_true rfl)
  rw [lg_entry_eq]
  generalize (lg_sl ([.ref (amn 0)]) ++ List.replicate (2 - (lg_sl ([.ref (amn 0)])).length) Slot.unset).toArray = ls at hl ⊢
  have hl : lv_has ls 2 [(0, .ref (amn 0))] := hl
  have f0_pl_0 := cr_rfo hR_pl.1
  have f0_pl_1 := cr_rfo hR_pl.2.1
  have k_0 : (0 : Int32).toInt = 0 := by decide
  have k_1 : (1 : Int32).toInt = 1 := by decide
  have k_3 : (3 : Int32).toInt = 3 := by decide
  obtain ⟨tgt, hT⟩ : ∃ z, md_Main_ring mn lt pl bd lk tr tb = z := ⟨_, rfl⟩
  have hM := hT
  unfold md_Main_ring at hM
  refine lv_iconst (v := 1) hx hb nd_Main_ring_0 (by decide) ?_
  refine lv_istore_n (lv' := [(1, .int (1 : Int32)), (0, .ref (amn 0))]) hx hb nd_Main_ring_1 rfl hl (by decide) rfl (fun ls hl => ?_)
  have hl := lv_sub hl [1, 0] rfl
  have lp_2 : ∀ (n_2 : Nat) (v1_2 : Int32), (1 ≤ v1_2.toInt ∧ v1_2.toInt ≤ 4) → (4 < v1_2.toInt + (n_2 : Int)) → lo_Main_ring_2 mn lt pl bd lk tr tb n_2 v1_2 = tgt → ∀ (H : Heap) (locs : List Loc), va_P (dC, dI) vwCl (cw_Main cI cZ cO amn apl abd alk atr mn lt ++ cw_Plan cI cZ cO apl pl ++ cw_Board cI cZ cO abd apl bd ++ cw_Locks cI cZ cO alk lk ++ cw_Trial cI cZ cO atr apl atb tr ++ cw_Board cI cZ cO atb apl tb) H → va_D A (cw_Main cI cZ cO amn apl abd alk atr mn lt ++ cw_Plan cI cZ cO apl pl ++ cw_Board cI cZ cO abd apl bd ++ cw_Locks cI cZ cO alk lk ++ cw_Trial cI cZ cO atr apl atb tr ++ cw_Board cI cZ cO atb apl tb) → va_S A s.heap H locs → ∀ ls : Array Slot, lv_has ls 2 [(0, .ref (amn 0)), (1, .int v1_2)] → W p l e (headSpec nw_Main_ring ({ frames := 2, cells := 0, slots := 0, locals := 44 } : Room)).room s m ([.ref (amn 0)] : List Value).toArray below meth c H locs 0 0 (MQ below (pq_Main_ring dC dI cI cZ cO amn apl abd alk atr atb mn lt pl bd lk tr tb  A) ([.ref (amn 0)] : List Value).toArray s 0 0 A) (F0 m 2 ls []) := by
    intro n_2
    induction n_2 with
    | zero =>
      intro v1_2 hv1_2 hn_2
      exfalso; omega
    | succ n_2 ih_2 =>
      intro v1_2 hv1_2 hn_2 hM H locs hP hD hS ls hl
      have hn_2 : 4 < v1_2.toInt + ((n_2 : Int) + 1) := by omega
      rw [lo_Main_ring_2] at hM
      refine lv_iload_n hx hb nd_Main_ring_2 rfl (lv_at hl 1 rfl) ?_
      refine lv_iconst (v := 3) hx hb nd_Main_ring_3 (by decide) ?_
      refine lv_icmp_gt (tgt := 26) hx hb nd_Main_ring_4 (by decide) (fun c_1 => ?_) (fun c_1 => ?_)
      · have c_1t := cr_lt c_1
        rw [if_pos c_1] at hM
        refine lv_iconst (v := 0) hx hb nd_Main_ring_26 (by decide) ?_
        exact W.zret (v := (0 : Int32)) (ty := .boolean) hx hb hr (by decide) (fun t ht hW => ⟨⟨(0 : Int32), (), rfl, by rw [hT, ← hM], by rw [ht]; exact hP, va_K.moved hW.alike hK, hD⟩, hS.F ht⟩) hS.2.2 nd_Main_ring_27
      · have c_1t := cr_nlt c_1
        rw [if_neg c_1] at hM
        refine lv_aload_n hx hb nd_Main_ring_7 rfl (lv_at hl 0 rfl) ?_
        refine va_get (D := (dC, dI)) (ci := 4) (v := .ref (alk 0)) (C := "CeilingRows") (T := nf_Main) (N := 6) hx hb hts nin_Main hown hK hP 0 rfl rfl 2 (by decide) (hts _ tw_140) (fun _ h9 => h9) rfl nd_Main_ring_8 ?_
        refine lv_iload_n hx hb nd_Main_ring_11 rfl (lv_at hl 1 rfl) ?_
        have hPc := hP.sub (ws' := cw_Locks cI cZ cO alk lk) [25, 26, 27, 28] rfl
        have hDc := hD.sub (ws' := cw_Locks cI cZ cO alk lk) [25, 26, 27, 28] (by decide) rfl
        have hFc := va_free (wc := cw_Locks cI cZ cO alk lk) hD hS hA [25, 26, 27, 28] rfl
        refine va_calli (va_runV (As := [.int v1_2]) (rest := []) ⟨hx, hb, hml, hown, hts⟩ (ct_Locks_waitsForItself l dC dI cI cZ cO alk H.size lk v1_2 hR_lk (by omega)) (cwV 1 hts (ng_V tw_332 tw_333 tw_334 tw_4 tw_335) rfl rfl rfl (by decide +kernel) ⟨Nat.le_of_ble_eq_true rfl, Nat.le_of_ble_eq_true rfl⟩) ⟨fun a U g mk q => by obtain ⟨q0, q1, qP, qK, qD⟩ := q; exact ⟨q0, q1, qP, va_K.moved (u := U) (U := U.calling g mk a) (Vm.Alike.refl U.vm) qK, qD⟩, va_recv hK hPc (ci := 2) (q0 := 0) rfl rfl, fun U hU hW => ⟨rfl, by rw [hU], by rw [hU]; exact hPc, va_K.moved hW.alike hK, hDc.weaken (fun _ _ _ _ => trivial)⟩⟩ rfl rfl hl.1 rfl (lv_room (Nat.le_of_ble_eq_true rfl)) nd_Main_ring_12 ⟨Nat.zero_le _, Nat.zero_le _⟩) hS (fun q _ h => hFc q h) hFc (fun r_2 u t H1 locs ht hvm hw hB hz1 hk1 hS => ?_)
        obtain ⟨hP1, hK1, hD1⟩ := hB
        rw [ht] at hP1
        have w_3 := hw
        try rw [← w_3] at hM
        obtain ⟨hP, hD⟩ := va_join (wr := cw_Main cI cZ cO amn apl abd alk atr mn lt ++ cw_Plan cI cZ cO apl pl ++ cw_Board cI cZ cO abd apl bd ++ cw_Trial cI cZ cO atr apl atb tr ++ cw_Board cI cZ cO atb apl tb) (w1 := cw_Locks cI cZ cO alk lk) hP hD [25, 26, 27, 28] [0, 1, 2, 3, 4, 5, 6, 7, 8, 9, 10, 11, 12, 13, 14, 15, 16, 17, 18, 19, 20, 21, 22, 23, 24, 29, 30, 31, 32, 33, 34, 35, 36, 37, 38, 39, 40, 41, 42, 43, 44, 45, 46, 47, 48] rfl rfl (by decide) (by decide) hk1 hFc hP1 hD1
        have hP := hP.sub (ws' := cw_Main cI cZ cO amn apl abd alk atr mn lt ++ cw_Plan cI cZ cO apl pl ++ cw_Board cI cZ cO abd apl bd ++ cw_Locks cI cZ cO alk lk ++ cw_Trial cI cZ cO atr apl atb tr ++ cw_Board cI cZ cO atb apl tb) [0, 1, 2, 3, 4, 5, 6, 7, 8, 9, 10, 11, 12, 13, 14, 15, 16, 17, 18, 19, 20, 21, 22, 23, 24, 45, 46, 47, 48, 25, 26, 27, 28, 29, 30, 31, 32, 33, 34, 35, 36, 37, 38, 39, 40, 41, 42, 43, 44] rfl
        have hD := hD.sub (ws' := cw_Main cI cZ cO amn apl abd alk atr mn lt ++ cw_Plan cI cZ cO apl pl ++ cw_Board cI cZ cO abd apl bd ++ cw_Locks cI cZ cO alk lk ++ cw_Trial cI cZ cO atr apl atb tr ++ cw_Board cI cZ cO atb apl tb) [0, 1, 2, 3, 4, 5, 6, 7, 8, 9, 10, 11, 12, 13, 14, 15, 16, 17, 18, 19, 20, 21, 22, 23, 24, 45, 46, 47, 48, 25, 26, 27, 28, 29, 30, 31, 32, 33, 34, 35, 36, 37, 38, 39, 40, 41, 42, 43, 44] (by decide) rfl
        generalize H1 = H at hP hS ⊢
        refine lv_if_eq (tgt := 20) hx hb nd_Main_ring_15 (by decide) (fun c_4 => ?_) (fun c_4 => ?_)
        · have c_4t := cr_eq c_4
          rw [if_pos c_4] at hM
          have e_5 : (v1_2 + (1 : Int32)).toInt = v1_2.toInt + (1 : Int32).toInt := cr_add (by omega)
          refine lv_iinc (v := (v1_2 + (1 : Int32))) (lv' := [(1, .int (v1_2 + (1 : Int32))), (0, .ref (amn 0))]) hx hb nd_Main_ring_20 hl (k := 1) rfl (by rfl) (by decide) rfl (fun ls hl => ?_)
          refine lv_goto (tgt := 2) hx hb nd_Main_ring_23 (by decide) ?_
          exact ih_2 (v1_2 + (1 : Int32)) (by omega) (by omega) hM _ _ hP hD hS _ (lv_sub hl [1, 0] rfl)
        · have c_4t := cr_ne c_4
          rw [if_neg c_4] at hM
          refine lv_iconst (v := 1) hx hb nd_Main_ring_18 (by decide) ?_
          exact W.zret (v := (1 : Int32)) (ty := .boolean) hx hb hr (by decide) (fun t ht hW => ⟨⟨(1 : Int32), (), rfl, by rw [hT, ← hM], by rw [ht]; exact hP, va_K.moved hW.alike hK, hD⟩, hS.F ht⟩) hS.2.2 nd_Main_ring_19
  exact lp_2 4 (1 : Int32) (by omega) (by omega) hM _ _ hP hD hS _ hl

theorem nd_Main_lower_0 : decode prog_1_method_12_code 0 = .ok (.aload_n 0, 1) := by decide +kernel
theorem nd_Main_lower_1 : decode prog_1_method_12_code 1 = .ok (.getfield 12, 3) := by decide +kernel
theorem nd_Main_lower_4 : decode prog_1_method_12_code 4 = .ok (.iload_n 1, 1) := by decide +kernel
theorem nd_Main_lower_5 : decode prog_1_method_12_code 5 = .ok (.invokevirtual 66, 3) := by decide +kernel
theorem nd_Main_lower_8 : decode prog_1_method_12_code 8 = .ok (.ifCond .ne (5), 3) := by decide +kernel
theorem nd_Main_lower_11 : decode prog_1_method_12_code 11 = .ok (.iconst (-1), 1) := by decide +kernel
theorem nd_Main_lower_12 : decode prog_1_method_12_code 12 = .ok (.ireturn, 1) := by decide +kernel
theorem nd_Main_lower_13 : decode prog_1_method_12_code 13 = .ok (.iconst 0, 1) := by decide +kernel
theorem nd_Main_lower_14 : decode prog_1_method_12_code 14 = .ok (.istore_n 3, 1) := by decide +kernel
theorem nd_Main_lower_15 : decode prog_1_method_12_code 15 = .ok (.iconst 1, 1) := by decide +kernel
theorem nd_Main_lower_16 : decode prog_1_method_12_code 16 = .ok (.istore 4, 2) := by decide +kernel
theorem nd_Main_lower_18 : decode prog_1_method_12_code 18 = .ok (.iload 4, 2) := by decide +kernel
theorem nd_Main_lower_20 : decode prog_1_method_12_code 20 = .ok (.aload_n 0, 1) := by decide +kernel
theorem nd_Main_lower_21 : decode prog_1_method_12_code 21 = .ok (.getfield 12, 3) := by decide +kernel
theorem nd_Main_lower_24 : decode prog_1_method_12_code 24 = .ok (.getfield 51, 3) := by decide +kernel
theorem nd_Main_lower_27 : decode prog_1_method_12_code 27 = .ok (.if_icmp .gt (33), 3) := by decide +kernel
theorem nd_Main_lower_30 : decode prog_1_method_12_code 30 = .ok (.aload_n 0, 1) := by decide +kernel
theorem nd_Main_lower_31 : decode prog_1_method_12_code 31 = .ok (.getfield 12, 3) := by decide +kernel
theorem nd_Main_lower_34 : decode prog_1_method_12_code 34 = .ok (.iload_n 1, 1) := by decide +kernel
theorem nd_Main_lower_35 : decode prog_1_method_12_code 35 = .ok (.iload 4, 2) := by decide +kernel
theorem nd_Main_lower_37 : decode prog_1_method_12_code 37 = .ok (.invokevirtual 110, 3) := by decide +kernel
theorem nd_Main_lower_40 : decode prog_1_method_12_code 40 = .ok (.ifCond .le (14), 3) := by decide +kernel
theorem nd_Main_lower_43 : decode prog_1_method_12_code 43 = .ok (.iload_n 3, 1) := by decide +kernel
theorem nd_Main_lower_44 : decode prog_1_method_12_code 44 = .ok (.iload_n 2, 1) := by decide +kernel
theorem nd_Main_lower_45 : decode prog_1_method_12_code 45 = .ok (.if_icmp .ne (6), 3) := by decide +kernel
theorem nd_Main_lower_48 : decode prog_1_method_12_code 48 = .ok (.iload 4, 2) := by decide +kernel
theorem nd_Main_lower_50 : decode prog_1_method_12_code 50 = .ok (.ireturn, 1) := by decide +kernel
theorem nd_Main_lower_51 : decode prog_1_method_12_code 51 = .ok (.iinc 3 1, 3) := by decide +kernel
theorem nd_Main_lower_54 : decode prog_1_method_12_code 54 = .ok (.iinc 4 1, 3) := by decide +kernel
theorem nd_Main_lower_57 : decode prog_1_method_12_code 57 = .ok (.goto (-39), 3) := by decide +kernel
theorem nd_Main_lower_60 : decode prog_1_method_12_code 60 = .ok (.iconst 0, 1) := by decide +kernel
theorem nd_Main_lower_61 : decode prog_1_method_12_code 61 = .ok (.ireturn, 1) := by decide +kernel
abbrev pq_Main_lower (dC : Nat → ClassId) (dI : Nat → Nat → Nat) (cI cZ cO : ClassId) (amn apl abd alk atr atb : Nat → Nat) (mn : cr_S) (lt : Int64) (pl : cr_S) (bd : cr_S) (lk : cr_S) (tr : cr_S) (tb : cr_S) (x1 : Int32) (x2 : Int32) (A : Nat → Prop) : Array Value → State → Outcome → State → Prop :=
  va_Qi (fun (r : Int32) (_ : Unit) => r = md_Main_lower mn lt pl bd lk tr tb x1 x2) (fun (_ : Unit) t => va_P (dC, dI) vwCl (cw_Main cI cZ cO amn apl abd alk atr mn lt ++ cw_Plan cI cZ cO apl pl ++ cw_Board cI cZ cO abd apl bd ++ cw_Locks cI cZ cO alk lk ++ cw_Trial cI cZ cO atr apl atb tr ++ cw_Board cI cZ cO atb apl tb) t.heap ∧ va_K (dC, dI) vwCl [(cI, .int), (cZ, .boolean), (cO, .array .int)] t ∧ va_D A (cw_Main cI cZ cO amn apl abd alk atr mn lt ++ cw_Plan cI cZ cO apl pl ++ cw_Board cI cZ cO abd apl bd ++ cw_Locks cI cZ cO alk lk ++ cw_Trial cI cZ cO atr apl atb tr ++ cw_Board cI cZ cO atb apl tb)) A
set_option maxHeartbeats 4000000 in
set_option maxRecDepth 100000 in
theorem ct_Main_lower (l : Launch) (dC : Nat → ClassId) (dI : Nat → Nat → Nat) (cI cZ cO : ClassId) (amn apl abd alk atr atb : Nat → Nat) (sz : Nat) (mn : cr_S) (lt : Int64) (pl : cr_S) (bd : cr_S) (lk : cr_S) (tr : cr_S) (tb : cr_S) (x1 : Int32) (x2 : Int32) (hR_tb : cr_RBoard tb) (hR_lk : cr_RLocks lk) (hR_bd : cr_RBoard bd) (hR_pl : cr_RPlan pl) : Met l ny_Main_lower nw_Main_lower ({ frames := 2, cells := 0, slots := 0, locals := 46 } : Room) (va_Pc [.ref (amn 0), .int x1, .int x2] (fun U => U.heap.size = sz ∧ va_P (dC, dI) vwCl (cw_Main cI cZ cO amn apl abd alk atr mn lt ++ cw_Plan cI cZ cO apl pl ++ cw_Board cI cZ cO abd apl bd ++ cw_Locks cI cZ cO alk lk ++ cw_Trial cI cZ cO atr apl atb tr ++ cw_Board cI cZ cO atb apl tb) U.heap ∧ va_K (dC, dI) vwCl [(cI, .int), (cZ, .boolean), (cO, .array .int)] U ∧ va_D (fun _ => True) (cw_Main cI cZ cO amn apl abd alk atr mn lt ++ cw_Plan cI cZ cO apl pl ++ cw_Board cI cZ cO abd apl bd ++ cw_Locks cI cZ cO alk lk ++ cw_Trial cI cZ cO atr apl atb tr ++ cw_Board cI cZ cO atb apl tb))) (pq_Main_lower dC dI cI cZ cO amn apl abd alk atr atb mn lt pl bd lk tr tb x1 x2 (va_A (cw_Main cI cZ cO amn apl abd alk atr mn lt ++ cw_Plan cI cZ cO apl pl ++ cw_Board cI cZ cO abd apl bd ++ cw_Locks cI cZ cO alk lk ++ cw_Trial cI cZ cO atr apl atb tr ++ cw_Board cI cZ cO atb apl tb) sz)) 0 0 (va_A (cw_Main cI cZ cO amn apl abd alk atr mn lt ++ cw_Plan cI cZ cO apl pl ++ cw_Board cI cZ cO abd apl bd ++ cw_Locks cI cZ cO alk lk ++ cw_Trial cI cZ cO atr apl atb tr ++ cw_Board cI cZ cO atb apl tb) sz) := by
  refine Met.ofW (cc := prog_1_method_12_code) (maxL := 5) (ret := (some .int)) (by decide) rfl ?_
  intro p e s m args below meth c s₁ B hml hv
  obtain ⟨rfl, hsz, hP, hK, hD0⟩ := hv
  have hx := B.exec
  have hb := B.bytes
  have hr := B.returns
  have hts0 := atoms_spec (ws := nw_Main_lower) B.pre
  have hts : ∀ w ∈ ng_tbl, w.before ([.ref (amn 0), .int x1, .int x2] : List Value).toArray s = true := fun w h => hts0 w (List.mem_cons_of_mem _ h)
  have hown : s.vm.findClass "CeilingRows" = some m.cls := findClass_of_methodNamed B.named
  have hlocks := B.notSynchronized
  subst hsz
  have hD := hD0.self (sz := s.heap.size)
  generalize hAe : va_A (cw_Main cI cZ cO amn apl abd alk atr mn lt ++ cw_Plan cI cZ cO apl pl ++ cw_Board cI cZ cO abd apl bd ++ cw_Locks cI cZ cO alk lk ++ cw_Trial cI cZ cO atr apl atb tr ++ cw_Board cI cZ cO atb apl tb) s.heap.size = A at hD ⊢
  have hA : ∀ q : Nat, s.heap.size ≤ q → A q := fun q h => by rw [← hAe]; exact Or.inr h
  have hS : va_S A s.heap s.heap [] := va_S.rf
  have hP : va_P (dC, dI) vwCl (cw_Main cI cZ cO amn apl abd alk atr mn lt ++ cw_Plan cI cZ cO apl pl ++ cw_Board cI cZ cO abd apl bd ++ cw_Locks cI cZ cO alk lk ++ cw_Trial cI cZ cO atr apl atb tr ++ cw_Board cI cZ cO atb apl tb) s.heap := hP
  have hl := lv_entry ([.ref (amn 0), .int x1, .int x2]) (n := 5) (Nat.le_of_ble_eq_true rfl)
  rw [lg_entry_eq]
  generalize (lg_sl ([.ref (amn 0), .int x1, .int x2]) ++ List.replicate (5 - (lg_sl ([.ref (amn 0), .int x1, .int x2])).length) Slot.unset).toArray = ls at hl ⊢
  have hl : lv_has ls 5 [(0, .ref (amn 0)), (1, .int x1), (2, .int x2)] := hl
  have f0_pl_0 := cr_rfo hR_pl.1
  have f0_pl_1 := cr_rfo hR_pl.2.1
  have k_m1 : (-1 : Int32).toInt = -1 := by decide
  have k_0 : (0 : Int32).toInt = 0 := by decide
  have k_1 : (1 : Int32).toInt = 1 := by decide
  obtain ⟨tgt, hT⟩ : ∃ z, md_Main_lower mn lt pl bd lk tr tb x1 x2 = z := ⟨_, rfl⟩
  have hM := hT
  unfold md_Main_lower at hM
  refine lv_aload_n hx hb nd_Main_lower_0 rfl (lv_at hl 0 rfl) ?_
  refine va_get (D := (dC, dI)) (ci := 4) (v := .ref (apl 0)) (C := "CeilingRows") (T := nf_Main) (N := 6) hx hb hts nin_Main hown hK hP 0 rfl rfl 0 (by decide) (hts _ tw_138) (fun _ h9 => h9) rfl nd_Main_lower_1 ?_
  refine lv_iload_n hx hb nd_Main_lower_4 rfl (lv_at hl 1 rfl) ?_
  have hPc := hP.sub (ws' := cw_Plan cI cZ cO apl pl) [2, 3, 4, 5, 6, 7, 8, 9, 10, 11, 12, 13, 14, 15, 16, 17, 18] rfl
  have hDc := hD.sub (ws' := cw_Plan cI cZ cO apl pl) [2, 3, 4, 5, 6, 7, 8, 9, 10, 11, 12, 13, 14, 15, 16, 17, 18] (by decide) rfl
  have hFc := va_free (wc := cw_Plan cI cZ cO apl pl) hD hS hA [2, 3, 4, 5, 6, 7, 8, 9, 10, 11, 12, 13, 14, 15, 16, 17, 18] rfl
  refine va_calli (va_runV (As := [.int x1]) (rest := []) ⟨hx, hb, hml, hown, hts⟩ (ct_Plan_hasTask l dC dI cI cZ cO apl s.heap.size pl x1 hR_pl) (cwV 1 hts (ng_V tw_181 tw_182 tw_183 tw_2 tw_184) rfl rfl rfl (by decide +kernel) ⟨Nat.le_of_ble_eq_true rfl, Nat.le_of_ble_eq_true rfl⟩) ⟨fun a U g mk q => by obtain ⟨q0, q1, qP, qK, qD⟩ := q; exact ⟨q0, q1, qP, va_K.moved (u := U) (U := U.calling g mk a) (Vm.Alike.refl U.vm) qK, qD⟩, va_recv hK hPc (ci := 0) (q0 := 0) rfl rfl, fun U hU hW => ⟨rfl, by rw [hU], by rw [hU]; exact hPc, va_K.moved hW.alike hK, hDc.weaken (fun _ _ _ _ => trivial)⟩⟩ rfl rfl hl.1 rfl (lv_room (Nat.le_of_ble_eq_true rfl)) nd_Main_lower_5 ⟨Nat.zero_le _, Nat.zero_le _⟩) hS (fun q _ h => hFc q h) hFc (fun r_1 u t H1 locs ht hvm hw hB hz1 hk1 hS => ?_)
  obtain ⟨hP1, hK1, hD1⟩ := hB
  rw [ht] at hP1
  obtain ⟨w_2, f_3⟩ := hw
  try rw [← w_2] at hM
  obtain ⟨hP, hD⟩ := va_join (wr := cw_Main cI cZ cO amn apl abd alk atr mn lt ++ cw_Board cI cZ cO abd apl bd ++ cw_Locks cI cZ cO alk lk ++ cw_Trial cI cZ cO atr apl atb tr ++ cw_Board cI cZ cO atb apl tb) (w1 := cw_Plan cI cZ cO apl pl) hP hD [2, 3, 4, 5, 6, 7, 8, 9, 10, 11, 12, 13, 14, 15, 16, 17, 18] [0, 1, 19, 20, 21, 22, 23, 24, 25, 26, 27, 28, 29, 30, 31, 32, 33, 34, 35, 36, 37, 38, 39, 40, 41, 42, 43, 44, 45, 46, 47, 48] rfl rfl (by decide) (by decide) hk1 hFc hP1 hD1
  have hP := hP.sub (ws' := cw_Main cI cZ cO amn apl abd alk atr mn lt ++ cw_Plan cI cZ cO apl pl ++ cw_Board cI cZ cO abd apl bd ++ cw_Locks cI cZ cO alk lk ++ cw_Trial cI cZ cO atr apl atb tr ++ cw_Board cI cZ cO atb apl tb) [0, 1, 32, 33, 34, 35, 36, 37, 38, 39, 40, 41, 42, 43, 44, 45, 46, 47, 48, 2, 3, 4, 5, 6, 7, 8, 9, 10, 11, 12, 13, 14, 15, 16, 17, 18, 19, 20, 21, 22, 23, 24, 25, 26, 27, 28, 29, 30, 31] rfl
  have hD := hD.sub (ws' := cw_Main cI cZ cO amn apl abd alk atr mn lt ++ cw_Plan cI cZ cO apl pl ++ cw_Board cI cZ cO abd apl bd ++ cw_Locks cI cZ cO alk lk ++ cw_Trial cI cZ cO atr apl atb tr ++ cw_Board cI cZ cO atb apl tb) [0, 1, 32, 33, 34, 35, 36, 37, 38, 39, 40, 41, 42, 43, 44, 45, 46, 47, 48, 2, 3, 4, 5, 6, 7, 8, 9, 10, 11, 12, 13, 14, 15, 16, 17, 18, 19, 20, 21, 22, 23, 24, 25, 26, 27, 28, 29, 30, 31] (by decide) rfl
  generalize H1 = H at hP hS ⊢
  refine lv_if_ne (tgt := 13) hx hb nd_Main_lower_8 (by decide) (fun c_4 => ?_) (fun c_4 => ?_)
  · have c_4t := cr_ne c_4
    rw [if_neg c_4] at hM
    refine lv_iconst (v := 0) hx hb nd_Main_lower_13 (by decide) ?_
    refine lv_istore_n (lv' := [(3, .int (0 : Int32)), (0, .ref (amn 0)), (1, .int x1), (2, .int x2)]) hx hb nd_Main_lower_14 rfl hl (by decide) rfl (fun ls hl => ?_)
    refine lv_iconst (v := 1) hx hb nd_Main_lower_15 (by decide) ?_
    refine lv_istore (lv' := [(4, .int (1 : Int32)), (3, .int (0 : Int32)), (0, .ref (amn 0)), (1, .int x1), (2, .int x2)]) hx hb nd_Main_lower_16 hl (by decide) rfl (fun ls hl => ?_)
    have hl := lv_sub hl [2, 3, 4, 1, 0] rfl
    have lp_18 : ∀ (n_18 : Nat) (v3_18 : Int32) (v4_18 : Int32), (1 ≤ v4_18.toInt ∧ v4_18.toInt ≤ 11) → (11 < v4_18.toInt + (n_18 : Int)) → lo_Main_lower_18 mn lt pl bd lk tr tb x1 x2 n_18 v3_18 v4_18 = tgt → ∀ (H : Heap) (locs : List Loc), va_P (dC, dI) vwCl (cw_Main cI cZ cO amn apl abd alk atr mn lt ++ cw_Plan cI cZ cO apl pl ++ cw_Board cI cZ cO abd apl bd ++ cw_Locks cI cZ cO alk lk ++ cw_Trial cI cZ cO atr apl atb tr ++ cw_Board cI cZ cO atb apl tb) H → va_D A (cw_Main cI cZ cO amn apl abd alk atr mn lt ++ cw_Plan cI cZ cO apl pl ++ cw_Board cI cZ cO abd apl bd ++ cw_Locks cI cZ cO alk lk ++ cw_Trial cI cZ cO atr apl atb tr ++ cw_Board cI cZ cO atb apl tb) → va_S A s.heap H locs → ∀ ls : Array Slot, lv_has ls 5 [(0, .ref (amn 0)), (1, .int x1), (2, .int x2), (3, .int v3_18), (4, .int v4_18)] → W p l e (headSpec nw_Main_lower ({ frames := 2, cells := 0, slots := 0, locals := 46 } : Room)).room s m ([.ref (amn 0), .int x1, .int x2] : List Value).toArray below meth c H locs 0 0 (MQ below (pq_Main_lower dC dI cI cZ cO amn apl abd alk atr atb mn lt pl bd lk tr tb x1 x2 A) ([.ref (amn 0), .int x1, .int x2] : List Value).toArray s 0 0 A) (F0 m 18 ls []) := by
      intro n_18
      induction n_18 with
      | zero =>
        intro v3_18 v4_18 hv4_18 hn_18
        exfalso; omega
      | succ n_18 ih_18 =>
        intro v3_18 v4_18 hv4_18 hn_18 hM H locs hP hD hS ls hl
        have hn_18 : 11 < v4_18.toInt + ((n_18 : Int) + 1) := by omega
        rw [lo_Main_lower_18] at hM
        refine lv_iload hx hb nd_Main_lower_18 (lv_at hl 4 rfl) ?_
        refine lv_aload_n hx hb nd_Main_lower_20 rfl (lv_at hl 0 rfl) ?_
        refine va_get (D := (dC, dI)) (ci := 4) (v := .ref (apl 0)) (C := "CeilingRows") (T := nf_Main) (N := 6) hx hb hts nin_Main hown hK hP 0 rfl rfl 0 (by decide) (hts _ tw_138) (fun _ h9 => h9) rfl nd_Main_lower_21 ?_
        refine va_get (D := (dC, dI)) (ci := 0) (v := .int (pl 0 0)) (C := "CeilingRows$Plan") (T := nf_Plan) (N := 7) hx hb hts nin_Plan hown hK hP 2 rfl rfl 0 (by decide) (hts _ tw_28) (fun _ h9 => h9) rfl nd_Main_lower_24 ?_
        have f_5 := cr_rfo hR_pl.1
        refine lv_icmp_gt (tgt := 60) hx hb nd_Main_lower_27 (by decide) (fun c_6 => ?_) (fun c_6 => ?_)
        · have c_6t := cr_lt c_6
          rw [if_pos c_6] at hM
          refine lv_iconst (v := 0) hx hb nd_Main_lower_60 (by decide) ?_
          exact W.iret (v := (0 : Int32)) hx hb hr (fun t ht hW => ⟨⟨(0 : Int32), (), rfl, by rw [hT, ← hM], by rw [ht]; exact hP, va_K.moved hW.alike hK, hD⟩, hS.F ht⟩) hS.2.2 nd_Main_lower_61
        · have c_6t := cr_nlt c_6
          rw [if_neg c_6] at hM
          refine lv_aload_n hx hb nd_Main_lower_30 rfl (lv_at hl 0 rfl) ?_
          refine va_get (D := (dC, dI)) (ci := 4) (v := .ref (apl 0)) (C := "CeilingRows") (T := nf_Main) (N := 6) hx hb hts nin_Main hown hK hP 0 rfl rfl 0 (by decide) (hts _ tw_138) (fun _ h9 => h9) rfl nd_Main_lower_31 ?_
          refine lv_iload_n hx hb nd_Main_lower_34 rfl (lv_at hl 1 rfl) ?_
          refine lv_iload hx hb nd_Main_lower_35 (lv_at hl 4 rfl) ?_
          have hPc := hP.sub (ws' := cw_Plan cI cZ cO apl pl) [2, 3, 4, 5, 6, 7, 8, 9, 10, 11, 12, 13, 14, 15, 16, 17, 18] rfl
          have hDc := hD.sub (ws' := cw_Plan cI cZ cO apl pl) [2, 3, 4, 5, 6, 7, 8, 9, 10, 11, 12, 13, 14, 15, 16, 17, 18] (by decide) rfl
          have hFc := va_free (wc := cw_Plan cI cZ cO apl pl) hD hS hA [2, 3, 4, 5, 6, 7, 8, 9, 10, 11, 12, 13, 14, 15, 16, 17, 18] rfl
          refine va_calli (va_runV (As := [.int x1, .int v4_18]) (rest := []) ⟨hx, hb, hml, hown, hts⟩ (ct_Plan_longestDelay l dC dI cI cZ cO apl H.size pl x1 v4_18 hR_pl (by omega) (by omega)) (cwV 2 hts (ng_V tw_299 tw_300 tw_301 tw_2 tw_302) rfl rfl rfl (by decide +kernel) ⟨Nat.le_of_ble_eq_true rfl, Nat.le_of_ble_eq_true rfl⟩) ⟨fun a U g mk q => by obtain ⟨q0, q1, qP, qK, qD⟩ := q; exact ⟨q0, q1, qP, va_K.moved (u := U) (U := U.calling g mk a) (Vm.Alike.refl U.vm) qK, qD⟩, va_recv hK hPc (ci := 0) (q0 := 0) rfl rfl, fun U hU hW => ⟨rfl, by rw [hU], by rw [hU]; exact hPc, va_K.moved hW.alike hK, hDc.weaken (fun _ _ _ _ => trivial)⟩⟩ rfl rfl hl.1 rfl (lv_room (Nat.le_of_ble_eq_true rfl)) nd_Main_lower_37 ⟨Nat.zero_le _, Nat.zero_le _⟩) hS (fun q _ h => hFc q h) hFc (fun r_7 u t H1 locs ht hvm hw hB hz1 hk1 hS => ?_)
          obtain ⟨hP1, hK1, hD1⟩ := hB
          rw [ht] at hP1
          have w_8 := hw
          try rw [← w_8] at hM
          obtain ⟨hP, hD⟩ := va_join (wr := cw_Main cI cZ cO amn apl abd alk atr mn lt ++ cw_Board cI cZ cO abd apl bd ++ cw_Locks cI cZ cO alk lk ++ cw_Trial cI cZ cO atr apl atb tr ++ cw_Board cI cZ cO atb apl tb) (w1 := cw_Plan cI cZ cO apl pl) hP hD [2, 3, 4, 5, 6, 7, 8, 9, 10, 11, 12, 13, 14, 15, 16, 17, 18] [0, 1, 19, 20, 21, 22, 23, 24, 25, 26, 27, 28, 29, 30, 31, 32, 33, 34, 35, 36, 37, 38, 39, 40, 41, 42, 43, 44, 45, 46, 47, 48] rfl rfl (by decide) (by decide) hk1 hFc hP1 hD1
          have hP := hP.sub (ws' := cw_Main cI cZ cO amn apl abd alk atr mn lt ++ cw_Plan cI cZ cO apl pl ++ cw_Board cI cZ cO abd apl bd ++ cw_Locks cI cZ cO alk lk ++ cw_Trial cI cZ cO atr apl atb tr ++ cw_Board cI cZ cO atb apl tb) [0, 1, 32, 33, 34, 35, 36, 37, 38, 39, 40, 41, 42, 43, 44, 45, 46, 47, 48, 2, 3, 4, 5, 6, 7, 8, 9, 10, 11, 12, 13, 14, 15, 16, 17, 18, 19, 20, 21, 22, 23, 24, 25, 26, 27, 28, 29, 30, 31] rfl
          have hD := hD.sub (ws' := cw_Main cI cZ cO amn apl abd alk atr mn lt ++ cw_Plan cI cZ cO apl pl ++ cw_Board cI cZ cO abd apl bd ++ cw_Locks cI cZ cO alk lk ++ cw_Trial cI cZ cO atr apl atb tr ++ cw_Board cI cZ cO atb apl tb) [0, 1, 32, 33, 34, 35, 36, 37, 38, 39, 40, 41, 42, 43, 44, 45, 46, 47, 48, 2, 3, 4, 5, 6, 7, 8, 9, 10, 11, 12, 13, 14, 15, 16, 17, 18, 19, 20, 21, 22, 23, 24, 25, 26, 27, 28, 29, 30, 31] (by decide) rfl
          generalize H1 = H at hP hS ⊢
          refine lv_if_le (tgt := 54) hx hb nd_Main_lower_40 (by decide) (fun c_9 => ?_) (fun c_9 => ?_)
          · have c_9t := cr_le c_9
            rw [if_pos c_9] at hM
            have e_10 : (v4_18 + (1 : Int32)).toInt = v4_18.toInt + (1 : Int32).toInt := cr_add (by omega)
            refine lv_iinc (v := (v4_18 + (1 : Int32))) (lv' := [(4, .int (v4_18 + (1 : Int32))), (0, .ref (amn 0)), (1, .int x1), (2, .int x2), (3, .int v3_18)]) hx hb nd_Main_lower_54 hl (k := 4) rfl (by rfl) (by decide) rfl (fun ls hl => ?_)
            refine lv_goto (tgt := 18) hx hb nd_Main_lower_57 (by decide) ?_
            exact ih_18 v3_18 (v4_18 + (1 : Int32)) (by omega) (by omega) hM _ _ hP hD hS _ (lv_sub hl [1, 2, 3, 4, 0] rfl)
          · have c_9t := cr_nle c_9
            rw [if_neg c_9] at hM
            refine lv_iload_n hx hb nd_Main_lower_43 rfl (lv_at hl 3 rfl) ?_
            refine lv_iload_n hx hb nd_Main_lower_44 rfl (lv_at hl 2 rfl) ?_
            refine lv_icmp_ne (tgt := 51) hx hb nd_Main_lower_45 (by decide) (fun c_11 => ?_) (fun c_11 => ?_)
            · have c_11t := cr_ne c_11
              rw [if_neg c_11] at hM
              refine lv_iinc (v := (v3_18 + (1 : Int32))) (lv' := [(3, .int (v3_18 + (1 : Int32))), (0, .ref (amn 0)), (1, .int x1), (2, .int x2), (4, .int v4_18)]) hx hb nd_Main_lower_51 hl (k := 3) rfl (by rfl) (by decide) rfl (fun ls hl => ?_)
              have e_12 : (v4_18 + (1 : Int32)).toInt = v4_18.toInt + (1 : Int32).toInt := cr_add (by omega)
              refine lv_iinc (v := (v4_18 + (1 : Int32))) (lv' := [(4, .int (v4_18 + (1 : Int32))), (3, .int (v3_18 + (1 : Int32))), (0, .ref (amn 0)), (1, .int x1), (2, .int x2)]) hx hb nd_Main_lower_54 hl (k := 4) rfl (by rfl) (by decide) rfl (fun ls hl => ?_)
              refine lv_goto (tgt := 18) hx hb nd_Main_lower_57 (by decide) ?_
              exact ih_18 (v3_18 + (1 : Int32)) (v4_18 + (1 : Int32)) (by omega) (by omega) hM _ _ hP hD hS _ (lv_sub hl [2, 3, 4, 1, 0] rfl)
            · have c_11t := cr_eq c_11
              rw [if_pos c_11] at hM
              refine lv_iload hx hb nd_Main_lower_48 (lv_at hl 4 rfl) ?_
              exact W.iret (v := v4_18) hx hb hr (fun t ht hW => ⟨⟨v4_18, (), rfl, by rw [hT, ← hM], by rw [ht]; exact hP, va_K.moved hW.alike hK, hD⟩, hS.F ht⟩) hS.2.2 nd_Main_lower_50
    exact lp_18 11 (0 : Int32) (1 : Int32) (by omega) (by omega) hM _ _ hP hD hS _ hl
  · have c_4t := cr_eq c_4
    rw [if_pos c_4] at hM
    refine lv_iconst (v := -1) hx hb nd_Main_lower_11 (by decide) ?_
    exact W.iret (v := (-1 : Int32)) hx hb hr (fun t ht hW => ⟨⟨(-1 : Int32), (), rfl, by rw [hT, ← hM], by rw [ht]; exact hP, va_K.moved hW.alike hK, hD⟩, hS.F ht⟩) hS.2.2 nd_Main_lower_12

theorem nd_Main_plain_0 : decode prog_1_method_13_code 0 = .ok (.aload_n 0, 1) := by decide +kernel
theorem nd_Main_plain_1 : decode prog_1_method_13_code 1 = .ok (.getfield 35, 3) := by decide +kernel
theorem nd_Main_plain_4 : decode prog_1_method_13_code 4 = .ok (.lload_n 1, 1) := by decide +kernel
theorem nd_Main_plain_5 : decode prog_1_method_13_code 5 = .ok (.invokevirtual 130, 3) := by decide +kernel
theorem nd_Main_plain_8 : decode prog_1_method_13_code 8 = .ok (.ireturn, 1) := by decide +kernel
abbrev pq_Main_plain (dC : Nat → ClassId) (dI : Nat → Nat → Nat) (cI cZ cO : ClassId) (amn apl abd alk atr atb : Nat → Nat) (mn : cr_S) (lt : Int64) (pl : cr_S) (bd : cr_S) (lk : cr_S) (tr : cr_S) (tb : cr_S) (x1 : Int64) (A : Nat → Prop) : Array Value → State → Outcome → State → Prop :=
  va_Qi (fun (r : Int32) (u : cr_S × cr_S) => r = (md_Main_plain mn lt pl bd lk tr tb x1).1 ∧ u.1 = (md_Main_plain mn lt pl bd lk tr tb x1).2.1 ∧ u.2 = (md_Main_plain mn lt pl bd lk tr tb x1).2.2 ∧ cr_RBoard u.2) (fun (u : cr_S × cr_S) t => va_P (dC, dI) vwCl (cw_Main cI cZ cO amn apl abd alk atr mn lt ++ cw_Plan cI cZ cO apl pl ++ cw_Board cI cZ cO abd apl bd ++ cw_Locks cI cZ cO alk lk ++ cw_Trial cI cZ cO atr apl atb u.1 ++ cw_Board cI cZ cO atb apl u.2) t.heap ∧ va_K (dC, dI) vwCl [(cI, .int), (cZ, .boolean), (cO, .array .int)] t ∧ va_D A (cw_Main cI cZ cO amn apl abd alk atr mn lt ++ cw_Plan cI cZ cO apl pl ++ cw_Board cI cZ cO abd apl bd ++ cw_Locks cI cZ cO alk lk ++ cw_Trial cI cZ cO atr apl atb u.1 ++ cw_Board cI cZ cO atb apl u.2)) A
set_option maxHeartbeats 4000000 in
set_option maxRecDepth 100000 in
theorem ct_Main_plain (l : Launch) (dC : Nat → ClassId) (dI : Nat → Nat → Nat) (cI cZ cO : ClassId) (amn apl abd alk atr atb : Nat → Nat) (sz : Nat) (mn : cr_S) (lt : Int64) (pl : cr_S) (bd : cr_S) (lk : cr_S) (tr : cr_S) (tb : cr_S) (x1 : Int64) (hR_tb : cr_RBoard tb) (hR_lk : cr_RLocks lk) (hR_bd : cr_RBoard bd) (hR_pl : cr_RPlan pl) : Met l ny_Main_plain nw_Main_plain ({ frames := 5, cells := 0, slots := 0, locals := 115 } : Room) (va_Pc [.ref (amn 0), .long x1] (fun U => U.heap.size = sz ∧ va_P (dC, dI) vwCl (cw_Main cI cZ cO amn apl abd alk atr mn lt ++ cw_Plan cI cZ cO apl pl ++ cw_Board cI cZ cO abd apl bd ++ cw_Locks cI cZ cO alk lk ++ cw_Trial cI cZ cO atr apl atb tr ++ cw_Board cI cZ cO atb apl tb) U.heap ∧ va_K (dC, dI) vwCl [(cI, .int), (cZ, .boolean), (cO, .array .int)] U ∧ va_D (fun _ => True) (cw_Main cI cZ cO amn apl abd alk atr mn lt ++ cw_Plan cI cZ cO apl pl ++ cw_Board cI cZ cO abd apl bd ++ cw_Locks cI cZ cO alk lk ++ cw_Trial cI cZ cO atr apl atb tr ++ cw_Board cI cZ cO atb apl tb))) (pq_Main_plain dC dI cI cZ cO amn apl abd alk atr atb mn lt pl bd lk tr tb x1 (va_A (cw_Main cI cZ cO amn apl abd alk atr mn lt ++ cw_Plan cI cZ cO apl pl ++ cw_Board cI cZ cO abd apl bd ++ cw_Locks cI cZ cO alk lk ++ cw_Trial cI cZ cO atr apl atb tr ++ cw_Board cI cZ cO atb apl tb) sz)) 0 0 (va_A (cw_Main cI cZ cO amn apl abd alk atr mn lt ++ cw_Plan cI cZ cO apl pl ++ cw_Board cI cZ cO abd apl bd ++ cw_Locks cI cZ cO alk lk ++ cw_Trial cI cZ cO atr apl atb tr ++ cw_Board cI cZ cO atb apl tb) sz) := by
  refine Met.ofW (cc := prog_1_method_13_code) (maxL := 3) (ret := (some .int)) (by decide) rfl ?_
  intro p e s m args below meth c s₁ B hml hv
  obtain ⟨rfl, hsz, hP, hK, hD0⟩ := hv
  have hx := B.exec
  have hb := B.bytes
  have hr := B.returns
  have hts0 := atoms_spec (ws := nw_Main_plain) B.pre
  have hts : ∀ w ∈ ng_tbl, w.before ([.ref (amn 0), .long x1] : List Value).toArray s = true := fun w h => hts0 w (List.mem_cons_of_mem _ h)
  have hown : s.vm.findClass "CeilingRows" = some m.cls := findClass_of_methodNamed B.named
  have hlocks := B.notSynchronized
  subst hsz
  have hD := hD0.self (sz := s.heap.size)
  generalize hAe : va_A (cw_Main cI cZ cO amn apl abd alk atr mn lt ++ cw_Plan cI cZ cO apl pl ++ cw_Board cI cZ cO abd apl bd ++ cw_Locks cI cZ cO alk lk ++ cw_Trial cI cZ cO atr apl atb tr ++ cw_Board cI cZ cO atb apl tb) s.heap.size = A at hD ⊢
  have hA : ∀ q : Nat, s.heap.size ≤ q → A q := fun q h => by rw [← hAe]; exact Or.inr h
  have hS : va_S A s.heap s.heap [] := va_S.rf
  have hP : va_P (dC, dI) vwCl (cw_Main cI cZ cO amn apl abd alk atr mn lt ++ cw_Plan cI cZ cO apl pl ++ cw_Board cI cZ cO abd apl bd ++ cw_Locks cI cZ cO alk lk ++ cw_Trial cI cZ cO atr apl atb tr ++ cw_Board cI cZ cO atb apl tb) s.heap := hP
  have hl := lv_entry ([.ref (amn 0), .long x1]) (n := 3) (Nat.le_of_ble_eq_true rfl)
  rw [lg_entry_eq]
  generalize (lg_sl ([.ref (amn 0), .long x1]) ++ List.replicate (3 - (lg_sl ([.ref (amn 0), .long x1])).length) Slot.unset).toArray = ls at hl ⊢
  have hl : lv_has ls 3 [(0, .ref (amn 0)), (1, .long x1)] := hl
  have f0_pl_0 := cr_rfo hR_pl.1
  have f0_pl_1 := cr_rfo hR_pl.2.1
  obtain ⟨tgt, hT⟩ : ∃ z, md_Main_plain mn lt pl bd lk tr tb x1 = z := ⟨_, rfl⟩
  have hM := hT
  unfold md_Main_plain at hM
  refine lv_aload_n hx hb nd_Main_plain_0 rfl (lv_at hl 0 rfl) ?_
  refine va_get (D := (dC, dI)) (ci := 4) (v := .ref (atr 0)) (C := "CeilingRows") (T := nf_Main) (N := 6) hx hb hts nin_Main hown hK hP 0 rfl rfl 3 (by decide) (hts _ tw_141) (fun _ h9 => h9) rfl nd_Main_plain_1 ?_
  refine lv_lload_n hx hb nd_Main_plain_4 rfl (lv_at hl 1 rfl) ?_
  have hPc := hP.sub (ws' := cw_Plan cI cZ cO apl pl ++ cw_Trial cI cZ cO atr apl atb tr ++ cw_Board cI cZ cO atb apl tb) [2, 3, 4, 5, 6, 7, 8, 9, 10, 11, 12, 13, 14, 15, 16, 17, 18, 29, 30, 31, 32, 33, 34, 35, 36, 37, 38, 39, 40, 41, 42, 43, 44, 45, 46, 47, 48] rfl
  have hDc := hD.sub (ws' := cw_Plan cI cZ cO apl pl ++ cw_Trial cI cZ cO atr apl atb tr ++ cw_Board cI cZ cO atb apl tb) [2, 3, 4, 5, 6, 7, 8, 9, 10, 11, 12, 13, 14, 15, 16, 17, 18, 29, 30, 31, 32, 33, 34, 35, 36, 37, 38, 39, 40, 41, 42, 43, 44, 45, 46, 47, 48] (by decide) rfl
  have hFc := va_free (wc := cw_Plan cI cZ cO apl pl ++ cw_Trial cI cZ cO atr apl atb tr ++ cw_Board cI cZ cO atb apl tb) hD hS hA [2, 3, 4, 5, 6, 7, 8, 9, 10, 11, 12, 13, 14, 15, 16, 17, 18, 29, 30, 31, 32, 33, 34, 35, 36, 37, 38, 39, 40, 41, 42, 43, 44, 45, 46, 47, 48] rfl
  refine va_calli (va_runV (As := [.long x1]) (rest := []) ⟨hx, hb, hml, hown, hts⟩ (ct_Trial_mostDelays l dC dI cI cZ cO apl atr atb s.heap.size pl tr tb x1 hR_tb hR_pl) (cwV 1 hts (ng_V tw_345 tw_346 tw_347 tw_5 tw_348) rfl rfl rfl (by decide +kernel) ⟨Nat.le_of_ble_eq_true rfl, Nat.le_of_ble_eq_true rfl⟩) ⟨fun a U g mk q => by obtain ⟨q0, q1, qP, qK, qD⟩ := q; exact ⟨q0, q1, qP, va_K.moved (u := U) (U := U.calling g mk a) (Vm.Alike.refl U.vm) qK, qD⟩, va_recv hK hPc (ci := 3) (q0 := 17) rfl rfl, fun U hU hW => ⟨rfl, by rw [hU], by rw [hU]; exact hPc, va_K.moved hW.alike hK, hDc.weaken (fun _ _ _ _ => trivial)⟩⟩ rfl rfl hl.1 rfl (lv_room (Nat.le_of_ble_eq_true rfl)) nd_Main_plain_5 ⟨Nat.zero_le _, Nat.zero_le _⟩) hS (fun q _ h => hFc q h) hFc (fun r_1 u t H1 locs ht hvm hw hB hz1 hk1 hS => ?_)
  obtain ⟨hP1, hK1, hD1⟩ := hB
  rw [ht] at hP1
  obtain ⟨trq_3, tbq_5⟩ := u
  dsimp only at hw hP1 hD1
  obtain ⟨w_2, w_4, w_6, hR_7⟩ := hw
  try rw [← w_2] at hM
  try rw [← w_4] at hM
  try rw [← w_6] at hM
  obtain ⟨hP, hD⟩ := va_join (wr := cw_Main cI cZ cO amn apl abd alk atr mn lt ++ cw_Board cI cZ cO abd apl bd ++ cw_Locks cI cZ cO alk lk) (w1 := cw_Plan cI cZ cO apl pl ++ cw_Trial cI cZ cO atr apl atb trq_3 ++ cw_Board cI cZ cO atb apl tbq_5) hP hD [2, 3, 4, 5, 6, 7, 8, 9, 10, 11, 12, 13, 14, 15, 16, 17, 18, 29, 30, 31, 32, 33, 34, 35, 36, 37, 38, 39, 40, 41, 42, 43, 44, 45, 46, 47, 48] [0, 1, 19, 20, 21, 22, 23, 24, 25, 26, 27, 28] rfl rfl (by decide) (by decide) hk1 hFc hP1 hD1
  have hP := hP.sub (ws' := cw_Main cI cZ cO amn apl abd alk atr mn lt ++ cw_Plan cI cZ cO apl pl ++ cw_Board cI cZ cO abd apl bd ++ cw_Locks cI cZ cO alk lk ++ cw_Trial cI cZ cO atr apl atb trq_3 ++ cw_Board cI cZ cO atb apl tbq_5) [0, 1, 12, 13, 14, 15, 16, 17, 18, 19, 20, 21, 22, 23, 24, 25, 26, 27, 28, 2, 3, 4, 5, 6, 7, 8, 9, 10, 11, 29, 30, 31, 32, 33, 34, 35, 36, 37, 38, 39, 40, 41, 42, 43, 44, 45, 46, 47, 48] rfl
  have hD := hD.sub (ws' := cw_Main cI cZ cO amn apl abd alk atr mn lt ++ cw_Plan cI cZ cO apl pl ++ cw_Board cI cZ cO abd apl bd ++ cw_Locks cI cZ cO alk lk ++ cw_Trial cI cZ cO atr apl atb trq_3 ++ cw_Board cI cZ cO atb apl tbq_5) [0, 1, 12, 13, 14, 15, 16, 17, 18, 19, 20, 21, 22, 23, 24, 25, 26, 27, 28, 2, 3, 4, 5, 6, 7, 8, 9, 10, 11, 29, 30, 31, 32, 33, 34, 35, 36, 37, 38, 39, 40, 41, 42, 43, 44, 45, 46, 47, 48] (by decide) rfl
  generalize H1 = H at hP hS ⊢
  exact W.iret (v := r_1) hx hb hr (fun t ht hW => ⟨⟨r_1, (trq_3, tbq_5), rfl, ⟨by rw [hT, ← hM], by rw [hT, ← hM], by rw [hT, ← hM], hR_7⟩, by rw [ht]; exact hP, va_K.moved hW.alike hK, hD⟩, hS.F ht⟩) hS.2.2 nd_Main_plain_8
