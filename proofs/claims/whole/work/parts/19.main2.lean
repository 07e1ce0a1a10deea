theorem nd_Main_perform_0 : decode prog_1_method_16_code 0 = .ok (.iload_n 2, 1) := by decide +kernel
theorem nd_Main_perform_1 : decode prog_1_method_16_code 1 = .ok (.ifCond .ne (9), 3) := by decide +kernel
theorem nd_Main_perform_4 : decode prog_1_method_16_code 4 = .ok (.aload_n 0, 1) := by decide +kernel
theorem nd_Main_perform_5 : decode prog_1_method_16_code 5 = .ok (.iload_n 1, 1) := by decide +kernel
theorem nd_Main_perform_6 : decode prog_1_method_16_code 6 = .ok (.invokevirtual 137, 3) := by decide +kernel
theorem nd_Main_perform_9 : decode prog_1_method_16_code 9 = .ok (.ireturn, 1) := by decide +kernel
theorem nd_Main_perform_10 : decode prog_1_method_16_code 10 = .ok (.iload_n 2, 1) := by decide +kernel
theorem nd_Main_perform_11 : decode prog_1_method_16_code 11 = .ok (.iconst 5, 1) := by decide +kernel
theorem nd_Main_perform_12 : decode prog_1_method_16_code 12 = .ok (.if_icmp .ne (9), 3) := by decide +kernel
theorem nd_Main_perform_15 : decode prog_1_method_16_code 15 = .ok (.aload_n 0, 1) := by decide +kernel
theorem nd_Main_perform_16 : decode prog_1_method_16_code 16 = .ok (.iload_n 1, 1) := by decide +kernel
theorem nd_Main_perform_17 : decode prog_1_method_16_code 17 = .ok (.invokevirtual 140, 3) := by decide +kernel
theorem nd_Main_perform_20 : decode prog_1_method_16_code 20 = .ok (.ireturn, 1) := by decide +kernel
theorem nd_Main_perform_21 : decode prog_1_method_16_code 21 = .ok (.aload_n 0, 1) := by decide +kernel
theorem nd_Main_perform_22 : decode prog_1_method_16_code 22 = .ok (.getfield 21, 3) := by decide +kernel
theorem nd_Main_perform_25 : decode prog_1_method_16_code 25 = .ok (.getfield 143, 3) := by decide +kernel
theorem nd_Main_perform_28 : decode prog_1_method_16_code 28 = .ok (.iload_n 1, 1) := by decide +kernel
theorem nd_Main_perform_29 : decode prog_1_method_16_code 29 = .ok (.iaload, 1) := by decide +kernel
theorem nd_Main_perform_30 : decode prog_1_method_16_code 30 = .ok (.iconst 1, 1) := by decide +kernel
theorem nd_Main_perform_31 : decode prog_1_method_16_code 31 = .ok (.if_icmp .eq (6), 3) := by decide +kernel
theorem nd_Main_perform_34 : decode prog_1_method_16_code 34 = .ok (.bipush (-3), 2) := by decide +kernel
theorem nd_Main_perform_36 : decode prog_1_method_16_code 36 = .ok (.ireturn, 1) := by decide +kernel
theorem nd_Main_perform_37 : decode prog_1_method_16_code 37 = .ok (.aload_n 0, 1) := by decide +kernel
theorem nd_Main_perform_38 : decode prog_1_method_16_code 38 = .ok (.iload_n 1, 1) := by decide +kernel
theorem nd_Main_perform_39 : decode prog_1_method_16_code 39 = .ok (.invokevirtual 146, 3) := by decide +kernel
theorem nd_Main_perform_42 : decode prog_1_method_16_code 42 = .ok (.ifCond .ne (5), 3) := by decide +kernel
theorem nd_Main_perform_45 : decode prog_1_method_16_code 45 = .ok (.iconst 0, 1) := by decide +kernel
theorem nd_Main_perform_46 : decode prog_1_method_16_code 46 = .ok (.ireturn, 1) := by decide +kernel
theorem nd_Main_perform_47 : decode prog_1_method_16_code 47 = .ok (.iload_n 2, 1) := by decide +kernel
theorem nd_Main_perform_48 : decode prog_1_method_16_code 48 = .ok (.tableswitch (48) 1 3 #[(28), (35), (42)], 28) := by decide +kernel
theorem nd_Main_perform_76 : decode prog_1_method_16_code 76 = .ok (.aload_n 0, 1) := by decide +kernel
theorem nd_Main_perform_77 : decode prog_1_method_16_code 77 = .ok (.iload_n 1, 1) := by decide +kernel
theorem nd_Main_perform_78 : decode prog_1_method_16_code 78 = .ok (.iload_n 3, 1) := by decide +kernel
theorem nd_Main_perform_79 : decode prog_1_method_16_code 79 = .ok (.invokevirtual 149, 3) := by decide +kernel
theorem nd_Main_perform_82 : decode prog_1_method_16_code 82 = .ok (.ireturn, 1) := by decide +kernel
theorem nd_Main_perform_83 : decode prog_1_method_16_code 83 = .ok (.aload_n 0, 1) := by decide +kernel
theorem nd_Main_perform_84 : decode prog_1_method_16_code 84 = .ok (.iload_n 1, 1) := by decide +kernel
theorem nd_Main_perform_85 : decode prog_1_method_16_code 85 = .ok (.iload_n 3, 1) := by decide +kernel
theorem nd_Main_perform_86 : decode prog_1_method_16_code 86 = .ok (.invokevirtual 152, 3) := by decide +kernel
theorem nd_Main_perform_89 : decode prog_1_method_16_code 89 = .ok (.ireturn, 1) := by decide +kernel
theorem nd_Main_perform_90 : decode prog_1_method_16_code 90 = .ok (.aload_n 0, 1) := by decide +kernel
theorem nd_Main_perform_91 : decode prog_1_method_16_code 91 = .ok (.iload_n 1, 1) := by decide +kernel
theorem nd_Main_perform_92 : decode prog_1_method_16_code 92 = .ok (.invokevirtual 155, 3) := by decide +kernel
theorem nd_Main_perform_95 : decode prog_1_method_16_code 95 = .ok (.ireturn, 1) := by decide +kernel
theorem nd_Main_perform_96 : decode prog_1_method_16_code 96 = .ok (.aload_n 0, 1) := by decide +kernel
theorem nd_Main_perform_97 : decode prog_1_method_16_code 97 = .ok (.iload_n 1, 1) := by decide +kernel
theorem nd_Main_perform_98 : decode prog_1_method_16_code 98 = .ok (.invokevirtual 158, 3) := by decide +kernel
theorem nd_Main_perform_101 : decode prog_1_method_16_code 101 = .ok (.ireturn, 1) := by decide +kernel
def md_Main_perform (mn : cr_S) (lt : Int64) (pl : cr_S) (bd : cr_S) (lk : cr_S) (tr : cr_S) (tb : cr_S) (x1 : Int32) (x2 : Int32) (x3 : Int32) : Int32 × cr_S × Int64 × cr_S :=
  (if x2 = 0 then (((md_Main_startTask mn lt pl bd lk tr tb x1).1), mn, lt, ((md_Main_startTask mn lt pl bd lk tr tb x1).2)) else (if x2 = (5 : Int32) then (((md_Main_sendEvent mn lt pl bd lk tr tb x1).1), ((md_Main_sendEvent mn lt pl bd lk tr tb x1).2.1), ((md_Main_sendEvent mn lt pl bd lk tr tb x1).2.2.1), ((md_Main_sendEvent mn lt pl bd lk tr tb x1).2.2.2)) else (if (bd 1 x1.toNatClampNeg) = (1 : Int32) then (if (md_Main_runs mn lt pl bd lk tr tb x1) = 0 then ((0 : Int32), mn, lt, bd) else (if x2 = 1 then (((md_Main_takeResource mn lt pl bd lk tr tb x1 x3).1), mn, lt, ((md_Main_takeResource mn lt pl bd lk tr tb x1 x3).2)) else (if x2 = 2 then (((md_Main_giveBackResource mn lt pl bd lk tr tb x1 x3).1), mn, lt, ((md_Main_giveBackResource mn lt pl bd lk tr tb x1 x3).2)) else (if x2 = 3 then (((md_Main_endTask mn lt pl bd lk tr tb x1).1), ((md_Main_endTask mn lt pl bd lk tr tb x1).2.1), ((md_Main_endTask mn lt pl bd lk tr tb x1).2.2.1), ((md_Main_endTask mn lt pl bd lk tr tb x1).2.2.2)) else (((md_Main_waitForEvent mn lt pl bd lk tr tb x1).1), ((md_Main_waitForEvent mn lt pl bd lk tr tb x1).2.1), ((md_Main_waitForEvent mn lt pl bd lk tr tb x1).2.2.1), ((md_Main_waitForEvent mn lt pl bd lk tr tb x1).2.2.2)))))) else ((-3 : Int32), mn, lt, bd))))
abbrev pq_Main_perform (dC : Nat → ClassId) (dI : Nat → Nat → Nat) (cI cZ cO : ClassId) (amn apl abd alk atr atb : Nat → Nat) (mn : cr_S) (lt : Int64) (pl : cr_S) (bd : cr_S) (lk : cr_S) (tr : cr_S) (tb : cr_S) (x1 : Int32) (x2 : Int32) (x3 : Int32) (A : Nat → Prop) : Array Value → State → Outcome → State → Prop :=
  va_Qi (fun (r : Int32) (u : cr_S × Int64 × cr_S) => r = (md_Main_perform mn lt pl bd lk tr tb x1 x2 x3).1 ∧ u.1 = (md_Main_perform mn lt pl bd lk tr tb x1 x2 x3).2.1 ∧ u.2.1 = (md_Main_perform mn lt pl bd lk tr tb x1 x2 x3).2.2.1 ∧ u.2.2 = (md_Main_perform mn lt pl bd lk tr tb x1 x2 x3).2.2.2 ∧ cr_RBoard u.2.2) (fun (u : cr_S × Int64 × cr_S) t => va_P (dC, dI) vwCl (cw_Main cI cZ cO amn apl abd alk atr u.1 u.2.1 ++ cw_Plan cI cZ cO apl pl ++ cw_Board cI cZ cO abd apl u.2.2 ++ cw_Locks cI cZ cO alk lk ++ cw_Trial cI cZ cO atr apl atb tr ++ cw_Board cI cZ cO atb apl tb) t.heap ∧ va_K (dC, dI) vwCl [(cI, .int), (cZ, .boolean), (cO, .array .int)] t ∧ va_D A (cw_Main cI cZ cO amn apl abd alk atr u.1 u.2.1 ++ cw_Plan cI cZ cO apl pl ++ cw_Board cI cZ cO abd apl u.2.2 ++ cw_Locks cI cZ cO alk lk ++ cw_Trial cI cZ cO atr apl atb tr ++ cw_Board cI cZ cO atb apl tb)) A
set_option maxHeartbeats 4000000 in
set_option maxRecDepth 100000 in
theorem ct_Main_perform (l : Launch) (dC : Nat → ClassId) (dI : Nat → Nat → Nat) (cI cZ cO : ClassId) (amn apl abd alk atr atb : Nat → Nat) (sz : Nat) (mn : cr_S) (lt : Int64) (pl : cr_S) (bd : cr_S) (lk : cr_S) (tr : cr_S) (tb : cr_S) (x1 : Int32) (x2 : Int32) (x3 : Int32) (hR_tb : cr_RBoard tb) (hR_lk : cr_RLocks lk) (hR_bd : cr_RBoard bd) (hR_pl : cr_RPlan pl) (hx1 : 0 ≤ x1.toInt ∧ x1.toInt ≤ 10) (hx2 : 0 ≤ x2.toInt ∧ x2.toInt ≤ 5) (hq : (x2.toInt ≠ 1 ∧ x2.toInt ≠ 2) ∨ (0 ≤ x3.toInt ∧ x3.toInt ≤ 8)) : Met l ny_Main_perform nw_Main_perform ({ frames := 5, cells := 0, slots := 0, locals := 113 } : Room) (va_Pc [.ref (amn 0), .int x1, .int x2, .int x3] (fun U => U.heap.size = sz ∧ va_P (dC, dI) vwCl (cw_Main cI cZ cO amn apl abd alk atr mn lt ++ cw_Plan cI cZ cO apl pl ++ cw_Board cI cZ cO abd apl bd ++ cw_Locks cI cZ cO alk lk ++ cw_Trial cI cZ cO atr apl atb tr ++ cw_Board cI cZ cO atb apl tb) U.heap ∧ va_K (dC, dI) vwCl [(cI, .int), (cZ, .boolean), (cO, .array .int)] U ∧ va_D (fun _ => True) (cw_Main cI cZ cO amn apl abd alk atr mn lt ++ cw_Plan cI cZ cO apl pl ++ cw_Board cI cZ cO abd apl bd ++ cw_Locks cI cZ cO alk lk ++ cw_Trial cI cZ cO atr apl atb tr ++ cw_Board cI cZ cO atb apl tb))) (pq_Main_perform dC dI cI cZ cO amn apl abd alk atr atb mn lt pl bd lk tr tb x1 x2 x3 (va_A (cw_Main cI cZ cO amn apl abd alk atr mn lt ++ cw_Plan cI cZ cO apl pl ++ cw_Board cI cZ cO abd apl bd ++ cw_Locks cI cZ cO alk lk ++ cw_Trial cI cZ cO atr apl atb tr ++ cw_Board cI cZ cO atb apl tb) sz)) 0 0 (va_A (cw_Main cI cZ cO amn apl abd alk atr mn lt ++ cw_Plan cI cZ cO apl pl ++ cw_Board cI cZ cO abd apl bd ++ cw_Locks cI cZ cO alk lk ++ cw_Trial cI cZ cO atr apl atb tr ++ cw_Board cI cZ cO atb apl tb) sz) := by
  refine Met.ofW (cc := prog_1_method_16_code) (maxL := 4) (ret := (some .int)) (by decide) rfl ?_
  intro p e s m args below meth c s₁ B hml hv
  obtain ⟨rfl, hsz, hP, hK, hD0⟩ := hv
  have hx := B.exec
  have hb := B.bytes
  have hr := B.returns
  have hts0 := atoms_spec (ws := nw_Main_perform) B.pre
  have hts : ∀ w ∈ ng_tbl, w.before ([.ref (amn 0), .int x1, .int x2, .int x3] : List Value).toArray s = true := fun w h => hts0 w (List.mem_cons_of_mem _ h)
  have hown : s.vm.findClass "CeilingRows" = some m.cls := findClass_of_methodNamed B.named
  have hlocks := B.notSynchronized
  subst hsz
  have hD := hD0.self (sz := s.heap.size)
  generalize hAe : va_A (cw_Main cI cZ cO amn apl abd alk atr mn lt ++ cw_Plan cI cZ cO apl pl ++ cw_Board cI cZ cO abd apl bd ++ cw_Locks cI cZ cO alk lk ++ cw_Trial cI cZ cO atr apl atb tr ++ cw_Board cI cZ cO atb apl tb) s.heap.size = A at hD ⊢
  have hA : ∀ q : Nat, s.heap.size ≤ q → A q := fun q h => by rw [← hAe]; exact Or.inr h
  have hS : va_S A s.heap s.heap [] := va_S.rf
  have hP : va_P (dC, dI) vwCl (cw_Main cI cZ cO amn apl abd alk atr mn lt ++ cw_Plan cI cZ cO apl pl ++ cw_Board cI cZ cO abd apl bd ++ cw_Locks cI cZ cO alk lk ++ cw_Trial cI cZ cO atr apl atb tr ++ cw_Board cI cZ cO atb apl tb) s.heap := hP
  have hl := lv_entry ([.ref (amn 0), .int x1, .int x2, .int x3]) (n := 4) (Nat.le_of_ble_eq_true rfl)
  rw [lg_entry_eq]
  generalize (lg_sl ([.ref (amn 0), .int x1, .int x2, .int x3]) ++ List.replicate (4 - (lg_sl ([.ref (amn 0), .int x1, .int x2, .int x3])).length) Slot.unset).toArray = ls at hl ⊢
  have hl : lv_has ls 4 [(0, .ref (amn 0)), (1, .int x1), (2, .int x2), (3, .int x3)] := hl
  have k_m3 : (-3 : Int32).toInt = -3 := by decide
  have k_0 : (0 : Int32).toInt = 0 := by decide
  have k_1 : (1 : Int32).toInt = 1 := by decide
  have k_2 : (2 : Int32).toInt = 2 := by decide
  have k_3 : (3 : Int32).toInt = 3 := by decide
  have k_5 : (5 : Int32).toInt = 5 := by decide
  obtain ⟨tgt, hT⟩ : ∃ z, md_Main_perform mn lt pl bd lk tr tb x1 x2 x3 = z := ⟨_, rfl⟩
  have hM := hT
  unfold md_Main_perform at hM
  refine lv_iload_n hx hb nd_Main_perform_0 rfl (lv_at hl 2 rfl) ?_
  refine lv_if_ne (tgt := 10) hx hb nd_Main_perform_1 (by decide) (fun c_1 => ?_) (fun c_1 => ?_)
  · have c_1t := cr_ne c_1
    rw [if_neg c_1] at hM
    refine lv_iload_n hx hb nd_Main_perform_10 rfl (lv_at hl 2 rfl) ?_
    refine lv_iconst (v := 5) hx hb nd_Main_perform_11 (by decide) ?_
    refine lv_icmp_ne (tgt := 21) hx hb nd_Main_perform_12 (by decide) (fun c_2 => ?_) (fun c_2 => ?_)
    · have c_2t := cr_ne c_2
      rw [if_neg c_2] at hM
      refine lv_aload_n hx hb nd_Main_perform_21 rfl (lv_at hl 0 rfl) ?_
      refine va_get (D := (dC, dI)) (ci := 4) (v := .ref (abd 0)) (C := "CeilingRows") (T := nf_Main) (N := 6) hx hb hts nin_Main hown hK hP 0 rfl rfl 1 (by decide) (hts _ tw_139) (fun _ h9 => h9) rfl nd_Main_perform_22 ?_
      refine va_get (D := (dC, dI)) (ci := 1) (v := .ref (abd 1)) (C := "CeilingRows$Board") (T := nf_Board) (N := 7) hx hb hts nin_Board hown hK hP 19 rfl rfl 1 (by decide) (hts _ tw_70) (fun _ h9 => h9) rfl nd_Main_perform_25 ?_
      refine lv_iload_n hx hb nd_Main_perform_28 rfl (lv_at hl 1 rfl) ?_
      have b_3 : vp_in x1 11 := vp_in_iff.mpr (by omega)
      refine va_iald hx hb hK hP 20 0 rfl rfl b_3 nd_Main_perform_29 ?_
      refine lv_iconst (v := 1) hx hb nd_Main_perform_30 (by decide) ?_
      refine lv_icmp_eq (tgt := 37) hx hb nd_Main_perform_31 (by decide) (fun c_4 => ?_) (fun c_4 => ?_)
      · have c_4t := cr_eq c_4
        rw [if_pos c_4] at hM
        refine lv_aload_n hx hb nd_Main_perform_37 rfl (lv_at hl 0 rfl) ?_
        refine lv_iload_n hx hb nd_Main_perform_38 rfl (lv_at hl 1 rfl) ?_
        have hPc := hP
        have hDc := hD
        have hFc := va_free (wc := cw_Main cI cZ cO amn apl abd alk atr mn lt ++ cw_Plan cI cZ cO apl pl ++ cw_Board cI cZ cO abd apl bd ++ cw_Locks cI cZ cO alk lk ++ cw_Trial cI cZ cO atr apl atb tr ++ cw_Board cI cZ cO atb apl tb) hD hS hA [0, 1, 2, 3, 4, 5, 6, 7, 8, 9, 10, 11, 12, 13, 14, 15, 16, 17, 18, 19, 20, 21, 22, 23, 24, 25, 26, 27, 28, 29, 30, 31, 32, 33, 34, 35, 36, 37, 38, 39, 40, 41, 42, 43, 44, 45, 46, 47, 48] rfl
        refine va_calli (va_runV (As := [.int x1]) (rest := []) ⟨hx, hb, hml, hown, hts⟩ (ct_Main_runs l dC dI cI cZ cO amn apl abd alk atr atb s.heap.size mn lt pl bd lk tr tb x1 hR_tb hR_lk hR_bd hR_pl (by omega)) (cwV 1 hts (ng_V tw_230 tw_232 tp_2 tw_1 tw_233) rfl rfl rfl (by decide +kernel) ⟨Nat.le_of_ble_eq_true rfl, Nat.le_of_ble_eq_true rfl⟩) ⟨fun a U g mk q => by obtain ⟨q0, q1, qP, qK, qD⟩ := q; exact ⟨q0, q1, qP, va_K.moved (u := U) (U := U.calling g mk a) (Vm.Alike.refl U.vm) qK, qD⟩, va_recv hK hPc (ci := 4) (q0 := 0) rfl rfl, fun U hU hW => ⟨rfl, by rw [hU], by rw [hU]; exact hPc, va_K.moved hW.alike hK, hDc.weaken (fun _ _ _ _ => trivial)⟩⟩ rfl rfl hl.1 rfl (lv_room (Nat.le_of_ble_eq_true rfl)) nd_Main_perform_39 ⟨Nat.zero_le _, Nat.zero_le _⟩) hS (fun q _ h => hFc q h) hFc (fun r_5 u t H1 locs ht hvm hw hB hz1 hk1 hS => ?_)
        obtain ⟨hP1, hK1, hD1⟩ := hB
        rw [ht] at hP1
        have w_6 := hw
        try rw [← w_6] at hM
        have hP := hP1
        have hD := cr_Dw hD1 hFc
        generalize H1 = H at hP hS ⊢
        refine lv_if_ne (tgt := 47) hx hb nd_Main_perform_42 (by decide) (fun c_7 => ?_) (fun c_7 => ?_)
        · have c_7t := cr_ne c_7
          rw [if_neg c_7] at hM
          refine lv_iload_n hx hb nd_Main_perform_47 rfl (lv_at hl 2 rfl) ?_
          by_cases c_8 : x2 = 1
          · rw [if_pos c_8] at hM
            have c_8t := cr_eq c_8
            refine lv_tableIn (tgt := 76) hx hb nd_Main_perform_48 (by omega) (by omega) (by rw [show (x2.toInt - 1).toNat = 0 by omega]; rfl) (by decide) ?_
            refine lv_aload_n hx hb nd_Main_perform_76 rfl (lv_at hl 0 rfl) ?_
            refine lv_iload_n hx hb nd_Main_perform_77 rfl (lv_at hl 1 rfl) ?_
            refine lv_iload_n hx hb nd_Main_perform_78 rfl (lv_at hl 3 rfl) ?_
            have hPc := hP
            have hDc := hD
            have hFc := va_free (wc := cw_Main cI cZ cO amn apl abd alk atr mn lt ++ cw_Plan cI cZ cO apl pl ++ cw_Board cI cZ cO abd apl bd ++ cw_Locks cI cZ cO alk lk ++ cw_Trial cI cZ cO atr apl atb tr ++ cw_Board cI cZ cO atb apl tb) hD hS hA [0, 1, 2, 3, 4, 5, 6, 7, 8, 9, 10, 11, 12, 13, 14, 15, 16, 17, 18, 19, 20, 21, 22, 23, 24, 25, 26, 27, 28, 29, 30, 31, 32, 33, 34, 35, 36, 37, 38, 39, 40, 41, 42, 43, 44, 45, 46, 47, 48] rfl
            refine va_calli (va_runV (As := [.int x1, .int x3]) (rest := []) ⟨hx, hb, hml, hown, hts⟩ (ct_Main_takeResource l dC dI cI cZ cO amn apl abd alk atr atb H.size mn lt pl bd lk tr tb x1 x3 hR_tb hR_lk hR_bd hR_pl (by omega) (by omega)) (cwV 2 hts (ng_V tw_251 tw_253 tp_4 tw_1 tw_254) rfl rfl rfl (by decide +kernel) ⟨Nat.le_of_ble_eq_true rfl, Nat.le_of_ble_eq_true rfl⟩) ⟨fun a U g mk q => by obtain ⟨q0, q1, qP, qK, qD⟩ := q; exact ⟨q0, q1, qP, va_K.moved (u := U) (U := U.calling g mk a) (Vm.Alike.refl U.vm) qK, qD⟩, va_recv hK hPc (ci := 4) (q0 := 0) rfl rfl, fun U hU hW => ⟨rfl, by rw [hU], by rw [hU]; exact hPc, va_K.moved hW.alike hK, hDc.weaken (fun _ _ _ _ => trivial)⟩⟩ rfl rfl hl.1 rfl (lv_room (Nat.le_of_ble_eq_true rfl)) nd_Main_perform_79 ⟨Nat.zero_le _, Nat.zero_le _⟩) hS (fun q _ h => hFc q h) hFc (fun r_9 u t H1 locs ht hvm hw hB hz1 hk1 hS => ?_)
            obtain ⟨hP1, hK1, hD1⟩ := hB
            rw [ht] at hP1
            obtain ⟨bdq_11, rfl⟩ : ∃ z, z = u := ⟨_, rfl⟩
            obtain ⟨w_10, w_12, hR_13⟩ := hw
            try rw [← w_10] at hM
            try rw [← w_12] at hM
            have hP := hP1
            have hD := cr_Dw hD1 hFc
            generalize H1 = H at hP hS ⊢
            exact W.iret (v := r_9) hx hb hr (fun t ht hW => ⟨⟨r_9, (mn, lt, bdq_11), rfl, ⟨by rw [hT, ← hM], by rw [hT, ← hM], by rw [hT, ← hM], by rw [hT, ← hM], hR_13⟩, by rw [ht]; exact hP, va_K.moved hW.alike hK, hD⟩, hS.F ht⟩) hS.2.2 nd_Main_perform_82
          rw [if_neg c_8] at hM
          have c_8t := cr_ne c_8
          by_cases c_14 : x2 = 2
          · rw [if_pos c_14] at hM
            have c_14t := cr_eq c_14
            refine lv_tableIn (tgt := 83) hx hb nd_Main_perform_48 (by omega) (by omega) (by rw [show (x2.toInt - 1).toNat = 1 by omega]; rfl) (by decide) ?_
            refine lv_aload_n hx hb nd_Main_perform_83 rfl (lv_at hl 0 rfl) ?_
            refine lv_iload_n hx hb nd_Main_perform_84 rfl (lv_at hl 1 rfl) ?_
            refine lv_iload_n hx hb nd_Main_perform_85 rfl (lv_at hl 3 rfl) ?_
            have hPc := hP
            have hDc := hD
            have hFc := va_free (wc := cw_Main cI cZ cO amn apl abd alk atr mn lt ++ cw_Plan cI cZ cO apl pl ++ cw_Board cI cZ cO abd apl bd ++ cw_Locks cI cZ cO alk lk ++ cw_Trial cI cZ cO atr apl atb tr ++ cw_Board cI cZ cO atb apl tb) hD hS hA [0, 1, 2, 3, 4, 5, 6, 7, 8, 9, 10, 11, 12, 13, 14, 15, 16, 17, 18, 19, 20, 21, 22, 23, 24, 25, 26, 27, 28, 29, 30, 31, 32, 33, 34, 35, 36, 37, 38, 39, 40, 41, 42, 43, 44, 45, 46, 47, 48] rfl
            refine va_calli (va_runV (As := [.int x1, .int x3]) (rest := []) ⟨hx, hb, hml, hown, hts⟩ (ct_Main_giveBackResource l dC dI cI cZ cO amn apl abd alk atr atb H.size mn lt pl bd lk tr tb x1 x3 hR_tb hR_lk hR_bd hR_pl (by omega)) (cwV 2 hts (ng_V tw_259 tw_261 tp_5 tw_1 tw_262) rfl rfl rfl (by decide +kernel) ⟨Nat.le_of_ble_eq_true rfl, Nat.le_of_ble_eq_true rfl⟩) ⟨fun a U g mk q => by obtain ⟨q0, q1, qP, qK, qD⟩ := q; exact ⟨q0, q1, qP, va_K.moved (u := U) (U := U.calling g mk a) (Vm.Alike.refl U.vm) qK, qD⟩, va_recv hK hPc (ci := 4) (q0 := 0) rfl rfl, fun U hU hW => ⟨rfl, by rw [hU], by rw [hU]; exact hPc, va_K.moved hW.alike hK, hDc.weaken (fun _ _ _ _ => trivial)⟩⟩ rfl rfl hl.1 rfl (lv_room (Nat.le_of_ble_eq_true rfl)) nd_Main_perform_86 ⟨Nat.zero_le _, Nat.zero_le _⟩) hS (fun q _ h => hFc q h) hFc (fun r_15 u t H1 locs ht hvm hw hB hz1 hk1 hS => ?_)
            obtain ⟨hP1, hK1, hD1⟩ := hB
            rw [ht] at hP1
            obtain ⟨bdq_17, rfl⟩ : ∃ z, z = u := ⟨_, rfl⟩
            obtain ⟨w_16, w_18, hR_19⟩ := hw
            try rw [← w_16] at hM
            try rw [← w_18] at hM
            have hP := hP1
            have hD := cr_Dw hD1 hFc
            generalize H1 = H at hP hS ⊢
            exact W.iret (v := r_15) hx hb hr (fun t ht hW => ⟨⟨r_15, (mn, lt, bdq_17), rfl, ⟨by rw [hT, ← hM], by rw [hT, ← hM], by rw [hT, ← hM], by rw [hT, ← hM], hR_19⟩, by rw [ht]; exact hP, va_K.moved hW.alike hK, hD⟩, hS.F ht⟩) hS.2.2 nd_Main_perform_89
          rw [if_neg c_14] at hM
          have c_14t := cr_ne c_14
          by_cases c_20 : x2 = 3
          · rw [if_pos c_20] at hM
            have c_20t := cr_eq c_20
            refine lv_tableIn (tgt := 90) hx hb nd_Main_perform_48 (by omega) (by omega) (by rw [show (x2.toInt - 1).toNat = 2 by omega]; rfl) (by decide) ?_
            refine lv_aload_n hx hb nd_Main_perform_90 rfl (lv_at hl 0 rfl) ?_
            refine lv_iload_n hx hb nd_Main_perform_91 rfl (lv_at hl 1 rfl) ?_
            have hPc := hP
            have hDc := hD
            have hFc := va_free (wc := cw_Main cI cZ cO amn apl abd alk atr mn lt ++ cw_Plan cI cZ cO apl pl ++ cw_Board cI cZ cO abd apl bd ++ cw_Locks cI cZ cO alk lk ++ cw_Trial cI cZ cO atr apl atb tr ++ cw_Board cI cZ cO atb apl tb) hD hS hA [0, 1, 2, 3, 4, 5, 6, 7, 8, 9, 10, 11, 12, 13, 14, 15, 16, 17, 18, 19, 20, 21, 22, 23, 24, 25, 26, 27, 28, 29, 30, 31, 32, 33, 34, 35, 36, 37, 38, 39, 40, 41, 42, 43, 44, 45, 46, 47, 48] rfl
            refine va_calli (va_runV (As := [.int x1]) (rest := []) ⟨hx, hb, hml, hown, hts⟩ (ct_Main_endTask l dC dI cI cZ cO amn apl abd alk atr atb H.size mn lt pl bd lk tr tb x1 hR_tb hR_lk hR_bd hR_pl (by omega)) (cwV 1 hts (ng_V tw_267 tw_269 tp_6 tw_1 tw_270) rfl rfl rfl (by decide +kernel) ⟨Nat.le_of_ble_eq_true rfl, Nat.le_of_ble_eq_true rfl⟩) ⟨fun a U g mk q => by obtain ⟨q0, q1, qP, qK, qD⟩ := q; exact ⟨q0, q1, qP, va_K.moved (u := U) (U := U.calling g mk a) (Vm.Alike.refl U.vm) qK, qD⟩, va_recv hK hPc (ci := 4) (q0 := 0) rfl rfl, fun U hU hW => ⟨rfl, by rw [hU], by rw [hU]; exact hPc, va_K.moved hW.alike hK, hDc.weaken (fun _ _ _ _ => trivial)⟩⟩ rfl rfl hl.1 rfl (lv_room (Nat.le_of_ble_eq_true rfl)) nd_Main_perform_92 ⟨Nat.zero_le _, Nat.zero_le _⟩) hS (fun q _ h => hFc q h) hFc (fun r_21 u t H1 locs ht hvm hw hB hz1 hk1 hS => ?_)
            obtain ⟨hP1, hK1, hD1⟩ := hB
            rw [ht] at hP1
            obtain ⟨mnq_23, ltq_25, bdq_27⟩ := u
            dsimp only at hw hP1 hD1
            obtain ⟨w_22, w_24, w_26, w_28, hR_29⟩ := hw
            try rw [← w_22] at hM
            try rw [← w_24] at hM
            try rw [← w_26] at hM
            try rw [← w_28] at hM
            have hP := hP1
            have hD := cr_Dw hD1 hFc
            generalize H1 = H at hP hS ⊢
            exact W.iret (v := r_21) hx hb hr (fun t ht hW => ⟨⟨r_21, (mnq_23, ltq_25, bdq_27), rfl, ⟨by rw [hT, ← hM], by rw [hT, ← hM], by rw [hT, ← hM], by rw [hT, ← hM], hR_29⟩, by rw [ht]; exact hP, va_K.moved hW.alike hK, hD⟩, hS.F ht⟩) hS.2.2 nd_Main_perform_95
          rw [if_neg c_20] at hM
          have c_20t := cr_ne c_20
          refine lv_tableOut (tgt := 96) hx hb nd_Main_perform_48 (by omega) (by decide) ?_
          refine lv_aload_n hx hb nd_Main_perform_96 rfl (lv_at hl 0 rfl) ?_
          refine lv_iload_n hx hb nd_Main_perform_97 rfl (lv_at hl 1 rfl) ?_
          have hPc := hP
          have hDc := hD
          have hFc := va_free (wc := cw_Main cI cZ cO amn apl abd alk atr mn lt ++ cw_Plan cI cZ cO apl pl ++ cw_Board cI cZ cO abd apl bd ++ cw_Locks cI cZ cO alk lk ++ cw_Trial cI cZ cO atr apl atb tr ++ cw_Board cI cZ cO atb apl tb) hD hS hA [0, 1, 2, 3, 4, 5, 6, 7, 8, 9, 10, 11, 12, 13, 14, 15, 16, 17, 18, 19, 20, 21, 22, 23, 24, 25, 26, 27, 28, 29, 30, 31, 32, 33, 34, 35, 36, 37, 38, 39, 40, 41, 42, 43, 44, 45, 46, 47, 48] rfl
          refine va_calli (va_runV (As := [.int x1]) (rest := []) ⟨hx, hb, hml, hown, hts⟩ (ct_Main_waitForEvent l dC dI cI cZ cO amn apl abd alk atr atb H.size mn lt pl bd lk tr tb x1 hR_tb hR_lk hR_bd hR_pl (by omega)) (cwV 1 hts (ng_V tw_281 tw_283 tp_7 tw_1 tw_284) rfl rfl rfl (by decide +kernel) ⟨Nat.le_of_ble_eq_true rfl, Nat.le_of_ble_eq_true rfl⟩) ⟨fun a U g mk q => by obtain ⟨q0, q1, qP, qK, qD⟩ := q; exact ⟨q0, q1, qP, va_K.moved (u := U) (U := U.calling g mk a) (Vm.Alike.refl U.vm) qK, qD⟩, va_recv hK hPc (ci := 4) (q0 := 0) rfl rfl, fun U hU hW => ⟨rfl, by rw [hU], by rw [hU]; exact hPc, va_K.moved hW.alike hK, hDc.weaken (fun _ _ _ _ => trivial)⟩⟩ rfl rfl hl.1 rfl (lv_room (Nat.le_of_ble_eq_true rfl)) nd_Main_perform_98 ⟨Nat.zero_le _, Nat.zero_le _⟩) hS (fun q _ h => hFc q h) hFc (fun r_30 u t H1 locs ht hvm hw hB hz1 hk1 hS => ?_)
          obtain ⟨hP1, hK1, hD1⟩ := hB
          rw [ht] at hP1
          obtain ⟨mnq_32, ltq_34, bdq_36⟩ := u
          dsimp only at hw hP1 hD1
          obtain ⟨w_31, w_33, w_35, w_37, hR_38⟩ := hw
          try rw [← w_31] at hM
          try rw [← w_33] at hM
          try rw [← w_35] at hM
          try rw [← w_37] at hM
          have hP := hP1
          have hD := cr_Dw hD1 hFc
          generalize H1 = H at hP hS ⊢
          exact W.iret (v := r_30) hx hb hr (fun t ht hW => ⟨⟨r_30, (mnq_32, ltq_34, bdq_36), rfl, ⟨by rw [hT, ← hM], by rw [hT, ← hM], by rw [hT, ← hM], by rw [hT, ← hM], hR_38⟩, by rw [ht]; exact hP, va_K.moved hW.alike hK, hD⟩, hS.F ht⟩) hS.2.2 nd_Main_perform_101
        · have c_7t := cr_eq c_7
          rw [if_pos c_7] at hM
          refine lv_iconst (v := 0) hx hb nd_Main_perform_45 (by decide) ?_
          exact W.iret (v := (0 : Int32)) hx hb hr (fun t ht hW => ⟨⟨(0 : Int32), (mn, lt, bd), rfl, ⟨by rw [hT, ← hM], by rw [hT, ← hM], by rw [hT, ← hM], by rw [hT, ← hM], hR_bd⟩, by rw [ht]; exact hP, va_K.moved hW.alike hK, hD⟩, hS.F ht⟩) hS.2.2 nd_Main_perform_46
      · have c_4t := cr_ne c_4
        rw [if_neg c_4] at hM
        refine lv_bipush (v := -3) hx hb nd_Main_perform_34 (by decide) ?_
        exact W.iret (v := (-3 : Int32)) hx hb hr (fun t ht hW => ⟨⟨(-3 : Int32), (mn, lt, bd), rfl, ⟨by rw [hT, ← hM], by rw [hT, ← hM], by rw [hT, ← hM], by rw [hT, ← hM], hR_bd⟩, by rw [ht]; exact hP, va_K.moved hW.alike hK, hD⟩, hS.F ht⟩) hS.2.2 nd_Main_perform_36
    · have c_2t := cr_eq c_2
      rw [if_pos c_2] at hM
      refine lv_aload_n hx hb nd_Main_perform_15 rfl (lv_at hl 0 rfl) ?_
      refine lv_iload_n hx hb nd_Main_perform_16 rfl (lv_at hl 1 rfl) ?_
      have hPc := hP
      have hDc := hD
      have hFc := va_free (wc := cw_Main cI cZ cO amn apl abd alk atr mn lt ++ cw_Plan cI cZ cO apl pl ++ cw_Board cI cZ cO abd apl bd ++ cw_Locks cI cZ cO alk lk ++ cw_Trial cI cZ cO atr apl atb tr ++ cw_Board cI cZ cO atb apl tb) hD hS hA [0, 1, 2, 3, 4, 5, 6, 7, 8, 9, 10, 11, 12, 13, 14, 15, 16, 17, 18, 19, 20, 21, 22, 23, 24, 25, 26, 27, 28, 29, 30, 31, 32, 33, 34, 35, 36, 37, 38, 39, 40, 41, 42, 43, 44, 45, 46, 47, 48] rfl
      refine va_calli (va_runV (As := [.int x1]) (rest := []) ⟨hx, hb, hml, hown, hts⟩ (ct_Main_sendEvent l dC dI cI cZ cO amn apl abd alk atr atb s.heap.size mn lt pl bd lk tr tb x1 hR_tb hR_lk hR_bd hR_pl (by omega)) (cwV 1 hts (ng_V tw_247 tw_249 tp_3 tw_1 tw_250) rfl rfl rfl (by decide +kernel) ⟨Nat.le_of_ble_eq_true rfl, Nat.le_of_ble_eq_true rfl⟩) ⟨fun a U g mk q => by obtain ⟨q0, q1, qP, qK, qD⟩ := q; exact ⟨q0, q1, qP, va_K.moved (u := U) (U := U.calling g mk a) (Vm.Alike.refl U.vm) qK, qD⟩, va_recv hK hPc (ci := 4) (q0 := 0) rfl rfl, fun U hU hW => ⟨rfl, by rw [hU], by rw [hU]; exact hPc, va_K.moved hW.alike hK, hDc.weaken (fun _ _ _ _ => trivial)⟩⟩ rfl rfl hl.1 rfl (lv_room (Nat.le_of_ble_eq_true rfl)) nd_Main_perform_17 ⟨Nat.zero_le _, Nat.zero_le _⟩) hS (fun q _ h => hFc q h) hFc (fun r_39 u t H1 locs ht hvm hw hB hz1 hk1 hS => ?_)
      obtain ⟨hP1, hK1, hD1⟩ := hB
      rw [ht] at hP1
      obtain ⟨mnq_41, ltq_43, bdq_45⟩ := u
      dsimp only at hw hP1 hD1
      obtain ⟨w_40, w_42, w_44, w_46, hR_47⟩ := hw
      try rw [← w_40] at hM
      try rw [← w_42] at hM
      try rw [← w_44] at hM
      try rw [← w_46] at hM
      have hP := hP1
      have hD := cr_Dw hD1 hFc
      generalize H1 = H at hP hS ⊢
      exact W.iret (v := r_39) hx hb hr (fun t ht hW => ⟨⟨r_39, (mnq_41, ltq_43, bdq_45), rfl, ⟨by rw [hT, ← hM], by rw [hT, ← hM], by rw [hT, ← hM], by rw [hT, ← hM], hR_47⟩, by rw [ht]; exact hP, va_K.moved hW.alike hK, hD⟩, hS.F ht⟩) hS.2.2 nd_Main_perform_20
  · have c_1t := cr_eq c_1
    rw [if_pos c_1] at hM
    refine lv_aload_n hx hb nd_Main_perform_4 rfl (lv_at hl 0 rfl) ?_
    refine lv_iload_n hx hb nd_Main_perform_5 rfl (lv_at hl 1 rfl) ?_
    have hPc := hP
    have hDc := hD
    have hFc := va_free (wc := cw_Main cI cZ cO amn apl abd alk atr mn lt ++ cw_Plan cI cZ cO apl pl ++ cw_Board cI cZ cO abd apl bd ++ cw_Locks cI cZ cO alk lk ++ cw_Trial cI cZ cO atr apl atb tr ++ cw_Board cI cZ cO atb apl tb) hD hS hA [0, 1, 2, 3, 4, 5, 6, 7, 8, 9, 10, 11, 12, 13, 14, 15, 16, 17, 18, 19, 20, 21, 22, 23, 24, 25, 26, 27, 28, 29, 30, 31, 32, 33, 34, 35, 36, 37, 38, 39, 40, 41, 42, 43, 44, 45, 46, 47, 48] rfl
    refine va_calli (va_runV (As := [.int x1]) (rest := []) ⟨hx, hb, hml, hown, hts⟩ (ct_Main_startTask l dC dI cI cZ cO amn apl abd alk atr atb s.heap.size mn lt pl bd lk tr tb x1 hR_tb hR_lk hR_bd hR_pl (by omega)) (cwV 1 hts (ng_V tw_222 tw_224 tp_1 tw_1 tw_225) rfl rfl rfl (by decide +kernel) ⟨Nat.le_of_ble_eq_true rfl, Nat.le_of_ble_eq_true rfl⟩) ⟨fun a U g mk q => by obtain ⟨q0, q1, qP, qK, qD⟩ := q; exact ⟨q0, q1, qP, va_K.moved (u := U) (U := U.calling g mk a) (Vm.Alike.refl U.vm) qK, qD⟩, va_recv hK hPc (ci := 4) (q0 := 0) rfl rfl, fun U hU hW => ⟨rfl, by rw [hU], by rw [hU]; exact hPc, va_K.moved hW.alike hK, hDc.weaken (fun _ _ _ _ => trivial)⟩⟩ rfl rfl hl.1 rfl (lv_room (Nat.le_of_ble_eq_true rfl)) nd_Main_perform_6 ⟨Nat.zero_le _, Nat.zero_le _⟩) hS (fun q _ h => hFc q h) hFc (fun r_48 u t H1 locs ht hvm hw hB hz1 hk1 hS => ?_)
    obtain ⟨hP1, hK1, hD1⟩ := hB
    rw [ht] at hP1
    obtain ⟨bdq_50, rfl⟩ : ∃ z, z = u := ⟨_, rfl⟩
    obtain ⟨w_49, w_51, hR_52⟩ := hw
    try rw [← w_49] at hM
    try rw [← w_51] at hM
    have hP := hP1
    have hD := cr_Dw hD1 hFc
    generalize H1 = H at hP hS ⊢
    exact W.iret (v := r_48) hx hb hr (fun t ht hW => ⟨⟨r_48, (mn, lt, bdq_50), rfl, ⟨by rw [hT, ← hM], by rw [hT, ← hM], by rw [hT, ← hM], by rw [hT, ← hM], hR_52⟩, by rw [ht]; exact hP, va_K.moved hW.alike hK, hD⟩, hS.F ht⟩) hS.2.2 nd_Main_perform_9

theorem nd_Main_task_0 : decode prog_1_method_2_code 0 = .ok (.iload_n 1, 1) := by decide +kernel
theorem nd_Main_task_1 : decode prog_1_method_2_code 1 = .ok (.iconst 1, 1) := by decide +kernel
theorem nd_Main_task_2 : decode prog_1_method_2_code 2 = .ok (.if_icmp .lt (16), 3) := by decide +kernel
theorem nd_Main_task_5 : decode prog_1_method_2_code 5 = .ok (.iload_n 1, 1) := by decide +kernel
theorem nd_Main_task_6 : decode prog_1_method_2_code 6 = .ok (.bipush 20, 2) := by decide +kernel
theorem nd_Main_task_8 : decode prog_1_method_2_code 8 = .ok (.if_icmp .gt (10), 3) := by decide +kernel
theorem nd_Main_task_11 : decode prog_1_method_2_code 11 = .ok (.iload_n 2, 1) := by decide +kernel
theorem nd_Main_task_12 : decode prog_1_method_2_code 12 = .ok (.invokestatic 47, 3) := by decide +kernel
theorem nd_Main_task_15 : decode prog_1_method_2_code 15 = .ok (.ifCond .ne (6), 3) := by decide +kernel
theorem nd_Main_task_18 : decode prog_1_method_2_code 18 = .ok (.bipush (-2), 2) := by decide +kernel
theorem nd_Main_task_20 : decode prog_1_method_2_code 20 = .ok (.ireturn, 1) := by decide +kernel
theorem nd_Main_task_21 : decode prog_1_method_2_code 21 = .ok (.aload_n 0, 1) := by decide +kernel
theorem nd_Main_task_22 : decode prog_1_method_2_code 22 = .ok (.getfield 12, 3) := by decide +kernel
theorem nd_Main_task_25 : decode prog_1_method_2_code 25 = .ok (.getfield 51, 3) := by decide +kernel
theorem nd_Main_task_28 : decode prog_1_method_2_code 28 = .ok (.bipush 10, 2) := by decide +kernel
theorem nd_Main_task_30 : decode prog_1_method_2_code 30 = .ok (.if_icmp .lt (6), 3) := by decide +kernel
theorem nd_Main_task_33 : decode prog_1_method_2_code 33 = .ok (.bipush (-4), 2) := by decide +kernel
theorem nd_Main_task_35 : decode prog_1_method_2_code 35 = .ok (.ireturn, 1) := by decide +kernel
theorem nd_Main_task_36 : decode prog_1_method_2_code 36 = .ok (.aload_n 0, 1) := by decide +kernel
theorem nd_Main_task_37 : decode prog_1_method_2_code 37 = .ok (.getfield 12, 3) := by decide +kernel
theorem nd_Main_task_40 : decode prog_1_method_2_code 40 = .ok (.iload_n 1, 1) := by decide +kernel
theorem nd_Main_task_41 : decode prog_1_method_2_code 41 = .ok (.iload_n 2, 1) := by decide +kernel
theorem nd_Main_task_42 : decode prog_1_method_2_code 42 = .ok (.invokevirtual 55, 3) := by decide +kernel
theorem nd_Main_task_45 : decode prog_1_method_2_code 45 = .ok (.ireturn, 1) := by decide +kernel
def md_Main_task (mn : cr_S) (lt : Int64) (pl : cr_S) (bd : cr_S) (lk : cr_S) (tr : cr_S) (tb : cr_S) (x1 : Int32) (x2 : Int32) : Int32 × cr_S :=
  (if x1 < (1 : Int32) then ((-2 : Int32), pl) else (if (20 : Int32) < x1 then ((-2 : Int32), pl) else (if (md_Main_isCore  x2) = 0 then ((-2 : Int32), pl) else (if (pl 0 0) < (10 : Int32) then (((md_Plan_addTask pl x1 x2).1), ((md_Plan_addTask pl x1 x2).2)) else ((-4 : Int32), pl)))))
abbrev pq_Main_task (dC : Nat → ClassId) (dI : Nat → Nat → Nat) (cI cZ cO : ClassId) (amn apl abd alk atr atb : Nat → Nat) (mn : cr_S) (lt : Int64) (pl : cr_S) (bd : cr_S) (lk : cr_S) (tr : cr_S) (tb : cr_S) (x1 : Int32) (x2 : Int32) (A : Nat → Prop) : Array Value → State → Outcome → State → Prop :=
  va_Qi (fun (r : Int32) (pl' : cr_S) => r = (md_Main_task mn lt pl bd lk tr tb x1 x2).1 ∧ pl' = (md_Main_task mn lt pl bd lk tr tb x1 x2).2 ∧ cr_RPlan pl') (fun (pl' : cr_S) t => va_P (dC, dI) vwCl (cw_Main cI cZ cO amn apl abd alk atr mn lt ++ cw_Plan cI cZ cO apl pl' ++ cw_Board cI cZ cO abd apl bd ++ cw_Locks cI cZ cO alk lk ++ cw_Trial cI cZ cO atr apl atb tr ++ cw_Board cI cZ cO atb apl tb) t.heap ∧ va_K (dC, dI) vwCl [(cI, .int), (cZ, .boolean), (cO, .array .int)] t ∧ va_D A (cw_Main cI cZ cO amn apl abd alk atr mn lt ++ cw_Plan cI cZ cO apl pl' ++ cw_Board cI cZ cO abd apl bd ++ cw_Locks cI cZ cO alk lk ++ cw_Trial cI cZ cO atr apl atb tr ++ cw_Board cI cZ cO atb apl tb)) A
set_option maxHeartbeats 4000000 in
set_option maxRecDepth 100000 in
theorem ct_Main_task (l : Launch) (dC : Nat → ClassId) (dI : Nat → Nat → Nat) (cI cZ cO : ClassId) (amn apl abd alk atr atb : Nat → Nat) (sz : Nat) (mn : cr_S) (lt : Int64) (pl : cr_S) (bd : cr_S) (lk : cr_S) (tr : cr_S) (tb : cr_S) (x1 : Int32) (x2 : Int32) (hR_tb : cr_RBoard tb) (hR_lk : cr_RLocks lk) (hR_bd : cr_RBoard bd) (hR_pl : cr_RPlan pl) : Met l ny_Main_task nw_Main_task ({ frames := 1, cells := 0, slots := 0, locals := 22 } : Room) (va_Pc [.ref (amn 0), .int x1, .int x2] (fun U => U.heap.size = sz ∧ va_P (dC, dI) vwCl (cw_Main cI cZ cO amn apl abd alk atr mn lt ++ cw_Plan cI cZ cO apl pl ++ cw_Board cI cZ cO abd apl bd ++ cw_Locks cI cZ cO alk lk ++ cw_Trial cI cZ cO atr apl atb tr ++ cw_Board cI cZ cO atb apl tb) U.heap ∧ va_K (dC, dI) vwCl [(cI, .int), (cZ, .boolean), (cO, .array .int)] U ∧ va_D (fun _ => True) (cw_Main cI cZ cO amn apl abd alk atr mn lt ++ cw_Plan cI cZ cO apl pl ++ cw_Board cI cZ cO abd apl bd ++ cw_Locks cI cZ cO alk lk ++ cw_Trial cI cZ cO atr apl atb tr ++ cw_Board cI cZ cO atb apl tb))) (pq_Main_task dC dI cI cZ cO amn apl abd alk atr atb mn lt pl bd lk tr tb x1 x2 (va_A (cw_Main cI cZ cO amn apl abd alk atr mn lt ++ cw_Plan cI cZ cO apl pl ++ cw_Board cI cZ cO abd apl bd ++ cw_Locks cI cZ cO alk lk ++ cw_Trial cI cZ cO atr apl atb tr ++ cw_Board cI cZ cO atb apl tb) sz)) 0 0 (va_A (cw_Main cI cZ cO amn apl abd alk atr mn lt ++ cw_Plan cI cZ cO apl pl ++ cw_Board cI cZ cO abd apl bd ++ cw_Locks cI cZ cO alk lk ++ cw_Trial cI cZ cO atr apl atb tr ++ cw_Board cI cZ cO atb apl tb) sz) := by
  refine Met.ofW (cc := prog_1_method_2_code) (maxL := 3) (ret := (some .int)) (by decide) rfl ?_
  intro p e s m args below meth c s₁ B hml hv
  obtain ⟨rfl, hsz, hP, hK, hD0⟩ := hv
  have hx := B.exec
  have hb := B.bytes
  have hr := B.returns
  have hts0 := atoms_spec (ws := nw_Main_task) B.pre
  have hts : ∀ w ∈ ng_tbl, w.before ([.ref (amn 0), .int x1, .int x2] : List Value).toArray s = true := fun w h => hts0 w (List.mem_cons_of_mem _ h)
  have hown : s.vm.findClass "CeilingRows" = some m.cls := findClass_of_methodNamed B.named
  have hlocks := B.notSynchronized
  subst hsz
  have hD := hD0.self (sz := s.heap.size)
  generalize hAe : va_A (cw_Main cI cZ cO amn apl abd alk atr mn lt ++ cw_Plan cI cZ cO apl pl ++ cw_Board cI cZ cO abd apl bd ++ cw_Locks cI cZ cO alk lk ++ cw_Trial cI cZ cO atr apl atb tr ++ cw_Board cI cZ cO atb apl tb) s.heap.size = A at hD ⊢
  have hA : ∀ q : Nat, s.heap.size ≤ q → A q := fun q h => by rw [← hAe]; exact Or.inr h
  have hS : va_S A s.heap s.heap [] := va_S.rf
  have hP : va_P (dC, dI) vwCl (cw_Main cI cZ cO amn apl abd alk atr mn lt ++ cw_Plan cI cZ cO apl pl ++ cw_Board cI cZ cO abd apl bd ++ cw_Locks cI cZ cO alk lk ++ cw_Trial cI cZ cO atr apl atb tr ++ cw_Board cI cZ cO atb apl tb) s.heap := hP
  have hl := lv_entry ([.ref (amn 0), .int x1, .int x2]) (n := 3) (Nat.le_of_ble_eq_true rfl)
  rw [lg_entry_eq]
  generalize (lg_sl ([.ref (amn 0), .int x1, .int x2]) ++ List.replicate (3 - (lg_sl ([.ref (amn 0), .int x1, .int x2])).length) Slot.unset).toArray = ls at hl ⊢
  have hl : lv_has ls 3 [(0, .ref (amn 0)), (1, .int x1), (2, .int x2)] := hl
  have k_m4 : (-4 : Int32).toInt = -4 := by decide
  have k_m2 : (-2 : Int32).toInt = -2 := by decide
  have k_0 : (0 : Int32).toInt = 0 := by decide
  have k_1 : (1 : Int32).toInt = 1 := by decide
  have k_10 : (10 : Int32).toInt = 10 := by decide
  have k_20 : (20 : Int32).toInt = 20 := by decide
  obtain ⟨tgt, hT⟩ : ∃ z, md_Main_task mn lt pl bd lk tr tb x1 x2 = z := ⟨_, rfl⟩
  have hM := hT
  unfold md_Main_task at hM
  refine lv_iload_n hx hb nd_Main_task_0 rfl (lv_at hl 1 rfl) ?_
  refine lv_iconst (v := 1) hx hb nd_Main_task_1 (by decide) ?_
  refine lv_icmp_lt (tgt := 18) hx hb nd_Main_task_2 (by decide) (fun c_1 => ?_) (fun c_1 => ?_)
  · have c_1t := cr_lt c_1
    rw [if_pos c_1] at hM
    refine lv_bipush (v := -2) hx hb nd_Main_task_18 (by decide) ?_
    exact W.iret (v := (-2 : Int32)) hx hb hr (fun t ht hW => ⟨⟨(-2 : Int32), pl, rfl, ⟨by rw [hT, ← hM], by rw [hT, ← hM], hR_pl⟩, by rw [ht]; exact hP, va_K.moved hW.alike hK, hD⟩, hS.F ht⟩) hS.2.2 nd_Main_task_20
  · have c_1t := cr_nlt c_1
    rw [if_neg c_1] at hM
    refine lv_iload_n hx hb nd_Main_task_5 rfl (lv_at hl 1 rfl) ?_
    refine lv_bipush (v := 20) hx hb nd_Main_task_6 (by decide) ?_
    refine lv_icmp_gt (tgt := 18) hx hb nd_Main_task_8 (by decide) (fun c_2 => ?_) (fun c_2 => ?_)
    · have c_2t := cr_lt c_2
      rw [if_pos c_2] at hM
      refine lv_bipush (v := -2) hx hb nd_Main_task_18 (by decide) ?_
      exact W.iret (v := (-2 : Int32)) hx hb hr (fun t ht hW => ⟨⟨(-2 : Int32), pl, rfl, ⟨by rw [hT, ← hM], by rw [hT, ← hM], hR_pl⟩, by rw [ht]; exact hP, va_K.moved hW.alike hK, hD⟩, hS.F ht⟩) hS.2.2 nd_Main_task_20
    · have c_2t := cr_nlt c_2
      rw [if_neg c_2] at hM
      refine lv_iload_n hx hb nd_Main_task_11 rfl (lv_at hl 2 rfl) ?_
      have hPc := hP.sub (ws' := ([] : va_W)) [] rfl
      have hDc := hD.sub (ws' := ([] : va_W)) [] (by decide) rfl
      have hFc := va_free (wc := ([] : va_W)) hD hS hA [] rfl
      refine va_calli (va_runS (As := [.int x2]) (rest := []) ⟨hx, hb, hml, hown, hts⟩ (ct_Main_isCore l dC dI cI cZ cO  s.heap.size  x2 ) (va_cwS 1 hts (ng_S tw_162 tw_163 tw_1 tw_164) rfl rfl rfl (by decide +kernel) ⟨Nat.le_of_ble_eq_true rfl, Nat.le_of_ble_eq_true rfl⟩) ⟨fun a U g mk q => by obtain ⟨q0, q1, qP, qK, qD⟩ := q; exact ⟨q0, q1, qP, va_K.moved (u := U) (U := U.calling g mk a) (Vm.Alike.refl U.vm) qK, qD⟩, fun U hU hW => ⟨rfl, by rw [hU], by rw [hU]; exact hPc, va_K.moved hW.alike hK, hDc.weaken (fun _ _ _ _ => trivial)⟩⟩ rfl rfl hl.1 rfl (lv_room (Nat.le_of_ble_eq_true rfl)) nd_Main_task_12 ⟨Nat.zero_le _, Nat.zero_le _⟩) hS (fun q _ h => hFc q h) hFc (fun r_3 u t H1 locs ht hvm hw hB hz1 hk1 hS => ?_)
      obtain ⟨hP1, hK1, hD1⟩ := hB
      rw [ht] at hP1
      obtain ⟨w_4, f_5⟩ := hw
      try rw [← w_4] at hM
      obtain ⟨hP, hD⟩ := va_join (wr := cw_Main cI cZ cO amn apl abd alk atr mn lt ++ cw_Plan cI cZ cO apl pl ++ cw_Board cI cZ cO abd apl bd ++ cw_Locks cI cZ cO alk lk ++ cw_Trial cI cZ cO atr apl atb tr ++ cw_Board cI cZ cO atb apl tb) (w1 := ([] : va_W)) hP hD [] [0, 1, 2, 3, 4, 5, 6, 7, 8, 9, 10, 11, 12, 13, 14, 15, 16, 17, 18, 19, 20, 21, 22, 23, 24, 25, 26, 27, 28, 29, 30, 31, 32, 33, 34, 35, 36, 37, 38, 39, 40, 41, 42, 43, 44, 45, 46, 47, 48] rfl rfl (by decide) (by decide) hk1 hFc hP1 hD1
      have hP := hP.sub (ws' := cw_Main cI cZ cO amn apl abd alk atr mn lt ++ cw_Plan cI cZ cO apl pl ++ cw_Board cI cZ cO abd apl bd ++ cw_Locks cI cZ cO alk lk ++ cw_Trial cI cZ cO atr apl atb tr ++ cw_Board cI cZ cO atb apl tb) [0, 1, 2, 3, 4, 5, 6, 7, 8, 9, 10, 11, 12, 13, 14, 15, 16, 17, 18, 19, 20, 21, 22, 23, 24, 25, 26, 27, 28, 29, 30, 31, 32, 33, 34, 35, 36, 37, 38, 39, 40, 41, 42, 43, 44, 45, 46, 47, 48] rfl
      have hD := hD.sub (ws' := cw_Main cI cZ cO amn apl abd alk atr mn lt ++ cw_Plan cI cZ cO apl pl ++ cw_Board cI cZ cO abd apl bd ++ cw_Locks cI cZ cO alk lk ++ cw_Trial cI cZ cO atr apl atb tr ++ cw_Board cI cZ cO atb apl tb) [0, 1, 2, 3, 4, 5, 6, 7, 8, 9, 10, 11, 12, 13, 14, 15, 16, 17, 18, 19, 20, 21, 22, 23, 24, 25, 26, 27, 28, 29, 30, 31, 32, 33, 34, 35, 36, 37, 38, 39, 40, 41, 42, 43, 44, 45, 46, 47, 48] (by decide) rfl
      generalize H1 = H at hP hS ⊢
      refine lv_if_ne (tgt := 21) hx hb nd_Main_task_15 (by decide) (fun c_6 => ?_) (fun c_6 => ?_)
      · have c_6t := cr_ne c_6
        rw [if_neg c_6] at hM
        refine lv_aload_n hx hb nd_Main_task_21 rfl (lv_at hl 0 rfl) ?_
        refine va_get (D := (dC, dI)) (ci := 4) (v := .ref (apl 0)) (C := "CeilingRows") (T := nf_Main) (N := 6) hx hb hts nin_Main hown hK hP 0 rfl rfl 0 (by decide) (hts _ tw_138) (fun _ h9 => h9) rfl nd_Main_task_22 ?_
        refine va_get (D := (dC, dI)) (ci := 0) (v := .int (pl 0 0)) (C := "CeilingRows$Plan") (T := nf_Plan) (N := 7) hx hb hts nin_Plan hown hK hP 2 rfl rfl 0 (by decide) (hts _ tw_28) (fun _ h9 => h9) rfl nd_Main_task_25 ?_
        have f_7 := cr_rfo hR_pl.1
        refine lv_bipush (v := 10) hx hb nd_Main_task_28 (by decide) ?_
        refine lv_icmp_lt (tgt := 36) hx hb nd_Main_task_30 (by decide) (fun c_8 => ?_) (fun c_8 => ?_)
        · have c_8t := cr_lt c_8
          rw [if_pos c_8] at hM
          refine lv_aload_n hx hb nd_Main_task_36 rfl (lv_at hl 0 rfl) ?_
          refine va_get (D := (dC, dI)) (ci := 4) (v := .ref (apl 0)) (C := "CeilingRows") (T := nf_Main) (N := 6) hx hb hts nin_Main hown hK hP 0 rfl rfl 0 (by decide) (hts _ tw_138) (fun _ h9 => h9) rfl nd_Main_task_37 ?_
          refine lv_iload_n hx hb nd_Main_task_40 rfl (lv_at hl 1 rfl) ?_
          refine lv_iload_n hx hb nd_Main_task_41 rfl (lv_at hl 2 rfl) ?_
          have hPc := hP.sub (ws' := cw_Plan cI cZ cO apl pl) [2, 3, 4, 5, 6, 7, 8, 9, 10, 11, 12, 13, 14, 15, 16, 17, 18] rfl
          have hDc := hD.sub (ws' := cw_Plan cI cZ cO apl pl) [2, 3, 4, 5, 6, 7, 8, 9, 10, 11, 12, 13, 14, 15, 16, 17, 18] (by decide) rfl
          have hFc := va_free (wc := cw_Plan cI cZ cO apl pl) hD hS hA [2, 3, 4, 5, 6, 7, 8, 9, 10, 11, 12, 13, 14, 15, 16, 17, 18] rfl
          refine va_calli (va_runV (As := [.int x1, .int x2]) (rest := []) ⟨hx, hb, hml, hown, hts⟩ (ct_Plan_addTask l dC dI cI cZ cO apl H.size pl x1 x2 hR_pl (by omega) (by omega)) (cwV 2 hts (ng_V tw_165 tw_166 tw_167 tw_2 tw_168) rfl rfl rfl (by decide +kernel) ⟨Nat.le_of_ble_eq_true rfl, Nat.le_of_ble_eq_true rfl⟩) ⟨fun a U g mk q => by obtain ⟨q0, q1, qP, qK, qD⟩ := q; exact ⟨q0, q1, qP, va_K.moved (u := U) (U := U.calling g mk a) (Vm.Alike.refl U.vm) qK, qD⟩, va_recv hK hPc (ci := 0) (q0 := 0) rfl rfl, fun U hU hW => ⟨rfl, by rw [hU], by rw [hU]; exact hPc, va_K.moved hW.alike hK, hDc.weaken (fun _ _ _ _ => trivial)⟩⟩ rfl rfl hl.1 rfl (lv_room (Nat.le_of_ble_eq_true rfl)) nd_Main_task_42 ⟨Nat.zero_le _, Nat.zero_le _⟩) hS (fun q _ h => hFc q h) hFc (fun r_9 u t H1 locs ht hvm hw hB hz1 hk1 hS => ?_)
          obtain ⟨hP1, hK1, hD1⟩ := hB
          rw [ht] at hP1
          obtain ⟨plq_11, rfl⟩ : ∃ z, z = u := ⟨_, rfl⟩
          obtain ⟨w_10, w_12, hR_13⟩ := hw
          try rw [← w_10] at hM
          try rw [← w_12] at hM
          obtain ⟨hP, hD⟩ := va_join (wr := cw_Main cI cZ cO amn apl abd alk atr mn lt ++ cw_Board cI cZ cO abd apl bd ++ cw_Locks cI cZ cO alk lk ++ cw_Trial cI cZ cO atr apl atb tr ++ cw_Board cI cZ cO atb apl tb) (w1 := cw_Plan cI cZ cO apl plq_11) hP hD [2, 3, 4, 5, 6, 7, 8, 9, 10, 11, 12, 13, 14, 15, 16, 17, 18] [0, 1, 19, 20, 21, 22, 23, 24, 25, 26, 27, 28, 29, 30, 31, 32, 33, 34, 35, 36, 37, 38, 39, 40, 41, 42, 43, 44, 45, 46, 47, 48] rfl rfl (by decide) (by decide) hk1 hFc hP1 hD1
          have hP := hP.sub (ws' := cw_Main cI cZ cO amn apl abd alk atr mn lt ++ cw_Plan cI cZ cO apl plq_11 ++ cw_Board cI cZ cO abd apl bd ++ cw_Locks cI cZ cO alk lk ++ cw_Trial cI cZ cO atr apl atb tr ++ cw_Board cI cZ cO atb apl tb) [0, 1, 32, 33, 34, 35, 36, 37, 38, 39, 40, 41, 42, 43, 44, 45, 46, 47, 48, 2, 3, 4, 5, 6, 7, 8, 9, 10, 11, 12, 13, 14, 15, 16, 17, 18, 19, 20, 21, 22, 23, 24, 25, 26, 27, 28, 29, 30, 31] rfl
          have hD := hD.sub (ws' := cw_Main cI cZ cO amn apl abd alk atr mn lt ++ cw_Plan cI cZ cO apl plq_11 ++ cw_Board cI cZ cO abd apl bd ++ cw_Locks cI cZ cO alk lk ++ cw_Trial cI cZ cO atr apl atb tr ++ cw_Board cI cZ cO atb apl tb) [0, 1, 32, 33, 34, 35, 36, 37, 38, 39, 40, 41, 42, 43, 44, 45, 46, 47, 48, 2, 3, 4, 5, 6, 7, 8, 9, 10, 11, 12, 13, 14, 15, 16, 17, 18, 19, 20, 21, 22, 23, 24, 25, 26, 27, 28, 29, 30, 31] (by decide) rfl
          generalize H1 = H at hP hS ⊢
          exact W.iret (v := r_9) hx hb hr (fun t ht hW => ⟨⟨r_9, plq_11, rfl, ⟨by rw [hT, ← hM], by rw [hT, ← hM], hR_13⟩, by rw [ht]; exact hP, va_K.moved hW.alike hK, hD⟩, hS.F ht⟩) hS.2.2 nd_Main_task_45
        · have c_8t := cr_nlt c_8
          rw [if_neg c_8] at hM
          refine lv_bipush (v := -4) hx hb nd_Main_task_33 (by decide) ?_
          exact W.iret (v := (-4 : Int32)) hx hb hr (fun t ht hW => ⟨⟨(-4 : Int32), pl, rfl, ⟨by rw [hT, ← hM], by rw [hT, ← hM], hR_pl⟩, by rw [ht]; exact hP, va_K.moved hW.alike hK, hD⟩, hS.F ht⟩) hS.2.2 nd_Main_task_35
      · have c_6t := cr_eq c_6
        rw [if_pos c_6] at hM
        refine lv_bipush (v := -2) hx hb nd_Main_task_18 (by decide) ?_
        exact W.iret (v := (-2 : Int32)) hx hb hr (fun t ht hW => ⟨⟨(-2 : Int32), pl, rfl, ⟨by rw [hT, ← hM], by rw [hT, ← hM], hR_pl⟩, by rw [ht]; exact hP, va_K.moved hW.alike hK, hD⟩, hS.F ht⟩) hS.2.2 nd_Main_task_20

theorem nd_Main_resource_0 : decode prog_1_method_3_code 0 = .ok (.aload_n 0, 1) := by decide +kernel
theorem nd_Main_resource_1 : decode prog_1_method_3_code 1 = .ok (.getfield 12, 3) := by decide +kernel
theorem nd_Main_resource_4 : decode prog_1_method_3_code 4 = .ok (.getfield 59, 3) := by decide +kernel
theorem nd_Main_resource_7 : decode prog_1_method_3_code 7 = .ok (.bipush 8, 2) := by decide +kernel
theorem nd_Main_resource_9 : decode prog_1_method_3_code 9 = .ok (.if_icmp .lt (6), 3) := by decide +kernel
theorem nd_Main_resource_12 : decode prog_1_method_3_code 12 = .ok (.bipush (-4), 2) := by decide +kernel
theorem nd_Main_resource_14 : decode prog_1_method_3_code 14 = .ok (.ireturn, 1) := by decide +kernel
theorem nd_Main_resource_15 : decode prog_1_method_3_code 15 = .ok (.aload_n 0, 1) := by decide +kernel
theorem nd_Main_resource_16 : decode prog_1_method_3_code 16 = .ok (.getfield 12, 3) := by decide +kernel
theorem nd_Main_resource_19 : decode prog_1_method_3_code 19 = .ok (.invokevirtual 62, 3) := by decide +kernel
theorem nd_Main_resource_22 : decode prog_1_method_3_code 22 = .ok (.ireturn, 1) := by decide +kernel
def md_Main_resource (mn : cr_S) (lt : Int64) (pl : cr_S) (bd : cr_S) (lk : cr_S) (tr : cr_S) (tb : cr_S) : Int32 × cr_S :=
  (if (pl 0 1) < (8 : Int32) then (((md_Plan_addResource pl).1), ((md_Plan_addResource pl).2)) else ((-4 : Int32), pl))
abbrev pq_Main_resource (dC : Nat → ClassId) (dI : Nat → Nat → Nat) (cI cZ cO : ClassId) (amn apl abd alk atr atb : Nat → Nat) (mn : cr_S) (lt : Int64) (pl : cr_S) (bd : cr_S) (lk : cr_S) (tr : cr_S) (tb : cr_S)  (A : Nat → Prop) : Array Value → State → Outcome → State → Prop :=
  va_Qi (fun (r : Int32) (pl' : cr_S) => r = (md_Main_resource mn lt pl bd lk tr tb).1 ∧ pl' = (md_Main_resource mn lt pl bd lk tr tb).2 ∧ cr_RPlan pl') (fun (pl' : cr_S) t => va_P (dC, dI) vwCl (cw_Main cI cZ cO amn apl abd alk atr mn lt ++ cw_Plan cI cZ cO apl pl' ++ cw_Board cI cZ cO abd apl bd ++ cw_Locks cI cZ cO alk lk ++ cw_Trial cI cZ cO atr apl atb tr ++ cw_Board cI cZ cO atb apl tb) t.heap ∧ va_K (dC, dI) vwCl [(cI, .int), (cZ, .boolean), (cO, .array .int)] t ∧ va_D A (cw_Main cI cZ cO amn apl abd alk atr mn lt ++ cw_Plan cI cZ cO apl pl' ++ cw_Board cI cZ cO abd apl bd ++ cw_Locks cI cZ cO alk lk ++ cw_Trial cI cZ cO atr apl atb tr ++ cw_Board cI cZ cO atb apl tb)) A
set_option maxHeartbeats 4000000 in
set_option maxRecDepth 100000 in
theorem ct_Main_resource (l : Launch) (dC : Nat → ClassId) (dI : Nat → Nat → Nat) (cI cZ cO : ClassId) (amn apl abd alk atr atb : Nat → Nat) (sz : Nat) (mn : cr_S) (lt : Int64) (pl : cr_S) (bd : cr_S) (lk : cr_S) (tr : cr_S) (tb : cr_S)  (hR_tb : cr_RBoard tb) (hR_lk : cr_RLocks lk) (hR_bd : cr_RBoard bd) (hR_pl : cr_RPlan pl) : Met l ny_Main_resource nw_Main_resource ({ frames := 1, cells := 0, slots := 0, locals := 20 } : Room) (va_Pc [.ref (amn 0)] (fun U => U.heap.size = sz ∧ va_P (dC, dI) vwCl (cw_Main cI cZ cO amn apl abd alk atr mn lt ++ cw_Plan cI cZ cO apl pl ++ cw_Board cI cZ cO abd apl bd ++ cw_Locks cI cZ cO alk lk ++ cw_Trial cI cZ cO atr apl atb tr ++ cw_Board cI cZ cO atb apl tb) U.heap ∧ va_K (dC, dI) vwCl [(cI, .int), (cZ, .boolean), (cO, .array .int)] U ∧ va_D (fun _ => True) (cw_Main cI cZ cO amn apl abd alk atr mn lt ++ cw_Plan cI cZ cO apl pl ++ cw_Board cI cZ cO abd apl bd ++ cw_Locks cI cZ cO alk lk ++ cw_Trial cI cZ cO atr apl atb tr ++ cw_Board cI cZ cO atb apl tb))) (pq_Main_resource dC dI cI cZ cO amn apl abd alk atr atb mn lt pl bd lk tr tb  (va_A (cw_Main cI cZ cO amn apl abd alk atr mn lt ++ cw_Plan cI cZ cO apl pl ++ cw_Board cI cZ cO abd apl bd ++ cw_Locks cI cZ cO alk lk ++ cw_Trial cI cZ cO atr apl atb tr ++ cw_Board cI cZ cO atb apl tb) sz)) 0 0 (va_A (cw_Main cI cZ cO amn apl abd alk atr mn lt ++ cw_Plan cI cZ cO apl pl ++ cw_Board cI cZ cO abd apl bd ++ cw_Locks cI cZ cO alk lk ++ cw_Trial cI cZ cO atr apl atb tr ++ cw_Board cI cZ cO atb apl tb) sz) := by
  refine Met.ofW (cc := prog_1_method_3_code) (maxL := 1) (ret := (some .int)) (by decide) rfl ?_
  intro p e s m args below meth c s₁ B hml hv
  obtain ⟨rfl, hsz, hP, hK, hD0⟩ := hv
  have hx := B.exec
  have hb := B.bytes
  have hr := B.returns
  have hts0 := atoms_spec (ws := nw_Main_resource) B.pre
  have hts : ∀ w ∈ ng_tbl, w.before ([.ref (amn 0)] : List Value).toArray s = true := fun w h => hts0 w (List.mem_cons_of_mem _ h)
  have hown : s.vm.findClass "CeilingRows" = some m.cls := findClass_of_methodNamed B.named
  have hlocks := B.notSynchronized
  subst hsz
  have hD := hD0.self (sz := s.heap.size)
  generalize hAe : va_A (cw_Main cI cZ cO amn apl abd alk atr mn lt ++ cw_Plan cI cZ cO apl pl ++ cw_Board cI cZ cO abd apl bd ++ cw_Locks cI cZ cO alk lk ++ cw_Trial cI cZ cO atr apl atb tr ++ cw_Board cI cZ cO atb apl tb) s.heap.size = A at hD ⊢
  have hA : ∀ q : Nat, s.heap.size ≤ q → A q := fun q h => by rw [← hAe]; exact Or.inr h
  have hS : va_S A s.heap s.heap [] := va_S.rf
  have hP : va_P (dC, dI) vwCl (cw_Main cI cZ cO amn apl abd alk atr mn lt ++ cw_Plan cI cZ cO apl pl ++ cw_Board cI cZ cO abd apl bd ++ cw_Locks cI cZ cO alk lk ++ cw_Trial cI cZ cO atr apl atb tr ++ cw_Board cI cZ cO atb apl tb) s.heap := hP
  have hl := lv_entry ([.ref (amn 0)]) (n := 1) (Nat.le_of_ble_eq_true rfl)
  rw [lg_entry_eq]
  generalize (lg_sl ([.ref (amn 0)]) ++ List.replicate (1 - (lg_sl ([.ref (amn 0)])).length) Slot.unset).toArray = ls at hl ⊢
  have hl : lv_has ls 1 [(0, .ref (amn 0))] := hl
  have k_m4 : (-4 : Int32).toInt = -4 := by decide
  have k_8 : (8 : Int32).toInt = 8 := by decide
  obtain ⟨tgt, hT⟩ : ∃ z, md_Main_resource mn lt pl bd lk tr tb = z := ⟨_, rfl⟩
  have hM := hT
  unfold md_Main_resource at hM
  refine lv_aload_n hx hb nd_Main_resource_0 rfl (lv_at hl 0 rfl) ?_
  refine va_get (D := (dC, dI)) (ci := 4) (v := .ref (apl 0)) (C := "CeilingRows") (T := nf_Main) (N := 6) hx hb hts nin_Main hown hK hP 0 rfl rfl 0 (by decide) (hts _ tw_138) (fun _ h9 => h9) rfl nd_Main_resource_1 ?_
  refine va_get (D := (dC, dI)) (ci := 0) (v := .int (pl 0 1)) (C := "CeilingRows$Plan") (T := nf_Plan) (N := 7) hx hb hts nin_Plan hown hK hP 2 rfl rfl 1 (by decide) (hts _ tw_30) (fun _ h9 => h9) rfl nd_Main_resource_4 ?_
  have f_1 := cr_rfo hR_pl.2.1
  refine lv_bipush (v := 8) hx hb nd_Main_resource_7 (by decide) ?_
  refine lv_icmp_lt (tgt := 15) hx hb nd_Main_resource_9 (by decide) (fun c_2 => ?_) (fun c_2 => ?_)
  · have c_2t := cr_lt c_2
    rw [if_pos c_2] at hM
    refine lv_aload_n hx hb nd_Main_resource_15 rfl (lv_at hl 0 rfl) ?_
    refine va_get (D := (dC, dI)) (ci := 4) (v := .ref (apl 0)) (C := "CeilingRows") (T := nf_Main) (N := 6) hx hb hts nin_Main hown hK hP 0 rfl rfl 0 (by decide) (hts _ tw_138) (fun _ h9 => h9) rfl nd_Main_resource_16 ?_
    have hPc := hP.sub (ws' := cw_Plan cI cZ cO apl pl) [2, 3, 4, 5, 6, 7, 8, 9, 10, 11, 12, 13, 14, 15, 16, 17, 18] rfl
    have hDc := hD.sub (ws' := cw_Plan cI cZ cO apl pl) [2, 3, 4, 5, 6, 7, 8, 9, 10, 11, 12, 13, 14, 15, 16, 17, 18] (by decide) rfl
    have hFc := va_free (wc := cw_Plan cI cZ cO apl pl) hD hS hA [2, 3, 4, 5, 6, 7, 8, 9, 10, 11, 12, 13, 14, 15, 16, 17, 18] rfl
    refine va_calli (va_runV (As := []) (rest := []) ⟨hx, hb, hml, hown, hts⟩ (ct_Plan_addResource l dC dI cI cZ cO apl s.heap.size pl  hR_pl (by omega)) (cwV 0 hts (ng_V tw_173 tw_174 tw_175 tw_2 tw_176) rfl rfl rfl (by decide +kernel) ⟨Nat.le_of_ble_eq_true rfl, Nat.le_of_ble_eq_true rfl⟩) ⟨fun a U g mk q => by obtain ⟨q0, q1, qP, qK, qD⟩ := q; exact ⟨q0, q1, qP, va_K.moved (u := U) (U := U.calling g mk a) (Vm.Alike.refl U.vm) qK, qD⟩, va_recv hK hPc (ci := 0) (q0 := 0) rfl rfl, fun U hU hW => ⟨rfl, by rw [hU], by rw [hU]; exact hPc, va_K.moved hW.alike hK, hDc.weaken (fun _ _ _ _ => trivial)⟩⟩ rfl rfl hl.1 rfl (lv_room (Nat.le_of_ble_eq_true rfl)) nd_Main_resource_19 ⟨Nat.zero_le _, Nat.zero_le _⟩) hS (fun q _ h => hFc q h) hFc (fun r_3 u t H1 locs ht hvm hw hB hz1 hk1 hS => ?_)
    obtain ⟨hP1, hK1, hD1⟩ := hB
    rw [ht] at hP1
    obtain ⟨plq_5, rfl⟩ : ∃ z, z = u := ⟨_, rfl⟩
    obtain ⟨w_4, w_6, hR_7⟩ := hw
    try rw [← w_4] at hM
    try rw [← w_6] at hM
    obtain ⟨hP, hD⟩ := va_join (wr := cw_Main cI cZ cO amn apl abd alk atr mn lt ++ cw_Board cI cZ cO abd apl bd ++ cw_Locks cI cZ cO alk lk ++ cw_Trial cI cZ cO atr apl atb tr ++ cw_Board cI cZ cO atb apl tb) (w1 := cw_Plan cI cZ cO apl plq_5) hP hD [2, 3, 4, 5, 6, 7, 8, 9, 10, 11, 12, 13, 14, 15, 16, 17, 18] [0, 1, 19, 20, 21, 22, 23, 24, 25, 26, 27, 28, 29, 30, 31, 32, 33, 34, 35, 36, 37, 38, 39, 40, 41, 42, 43, 44, 45, 46, 47, 48] rfl rfl (by decide) (by decide) hk1 hFc hP1 hD1
    have hP := hP.sub (ws' := cw_Main cI cZ cO amn apl abd alk atr mn lt ++ cw_Plan cI cZ cO apl plq_5 ++ cw_Board cI cZ cO abd apl bd ++ cw_Locks cI cZ cO alk lk ++ cw_Trial cI cZ cO atr apl atb tr ++ cw_Board cI cZ cO atb apl tb) [0, 1, 32, 33, 34, 35, 36, 37, 38, 39, 40, 41, 42, 43, 44, 45, 46, 47, 48, 2, 3, 4, 5, 6, 7, 8, 9, 10, 11, 12, 13, 14, 15, 16, 17, 18, 19, 20, 21, 22, 23, 24, 25, 26, 27, 28, 29, 30, 31] rfl
    have hD := hD.sub (ws' := cw_Main cI cZ cO amn apl abd alk atr mn lt ++ cw_Plan cI cZ cO apl plq_5 ++ cw_Board cI cZ cO abd apl bd ++ cw_Locks cI cZ cO alk lk ++ cw_Trial cI cZ cO atr apl atb tr ++ cw_Board cI cZ cO atb apl tb) [0, 1, 32, 33, 34, 35, 36, 37, 38, 39, 40, 41, 42, 43, 44, 45, 46, 47, 48, 2, 3, 4, 5, 6, 7, 8, 9, 10, 11, 12, 13, 14, 15, 16, 17, 18, 19, 20, 21, 22, 23, 24, 25, 26, 27, 28, 29, 30, 31] (by decide) rfl
    generalize H1 = H at hP hS ⊢
    exact W.iret (v := r_3) hx hb hr (fun t ht hW => ⟨⟨r_3, plq_5, rfl, ⟨by rw [hT, ← hM], by rw [hT, ← hM], hR_7⟩, by rw [ht]; exact hP, va_K.moved hW.alike hK, hD⟩, hS.F ht⟩) hS.2.2 nd_Main_resource_22
  · have c_2t := cr_nlt c_2
    rw [if_neg c_2] at hM
    refine lv_bipush (v := -4) hx hb nd_Main_resource_12 (by decide) ?_
    exact W.iret (v := (-4 : Int32)) hx hb hr (fun t ht hW => ⟨⟨(-4 : Int32), pl, rfl, ⟨by rw [hT, ← hM], by rw [hT, ← hM], hR_pl⟩, by rw [ht]; exact hP, va_K.moved hW.alike hK, hD⟩, hS.F ht⟩) hS.2.2 nd_Main_resource_14

theorem nd_Main_uses_0 : decode prog_1_method_4_code 0 = .ok (.aload_n 0, 1) := by decide +kernel
theorem nd_Main_uses_1 : decode prog_1_method_4_code 1 = .ok (.getfield 12, 3) := by decide +kernel
theorem nd_Main_uses_4 : decode prog_1_method_4_code 4 = .ok (.iload_n 1, 1) := by decide +kernel
theorem nd_Main_uses_5 : decode prog_1_method_4_code 5 = .ok (.invokevirtual 66, 3) := by decide +kernel
theorem nd_Main_uses_8 : decode prog_1_method_4_code 8 = .ok (.ifCond .eq (14), 3) := by decide +kernel
theorem nd_Main_uses_11 : decode prog_1_method_4_code 11 = .ok (.aload_n 0, 1) := by decide +kernel
theorem nd_Main_uses_12 : decode prog_1_method_4_code 12 = .ok (.getfield 12, 3) := by decide +kernel
theorem nd_Main_uses_15 : decode prog_1_method_4_code 15 = .ok (.iload_n 2, 1) := by decide +kernel
theorem nd_Main_uses_16 : decode prog_1_method_4_code 16 = .ok (.invokevirtual 69, 3) := by decide +kernel
theorem nd_Main_uses_19 : decode prog_1_method_4_code 19 = .ok (.ifCond .ne (5), 3) := by decide +kernel
theorem nd_Main_uses_22 : decode prog_1_method_4_code 22 = .ok (.iconst (-1), 1) := by decide +kernel
theorem nd_Main_uses_23 : decode prog_1_method_4_code 23 = .ok (.ireturn, 1) := by decide +kernel
theorem nd_Main_uses_24 : decode prog_1_method_4_code 24 = .ok (.lload_n 3, 1) := by decide +kernel
theorem nd_Main_uses_25 : decode prog_1_method_4_code 25 = .ok (.lconst 1, 1) := by decide +kernel
theorem nd_Main_uses_26 : decode prog_1_method_4_code 26 = .ok (.lcmp, 1) := by decide +kernel
theorem nd_Main_uses_27 : decode prog_1_method_4_code 27 = .ok (.ifCond .lt (11), 3) := by decide +kernel
theorem nd_Main_uses_30 : decode prog_1_method_4_code 30 = .ok (.lload_n 3, 1) := by decide +kernel
theorem nd_Main_uses_31 : decode prog_1_method_4_code 31 = .ok (.ldc2_w 72, 3) := by decide +kernel
theorem nd_Main_uses_34 : decode prog_1_method_4_code 34 = .ok (.lcmp, 1) := by decide +kernel
theorem nd_Main_uses_35 : decode prog_1_method_4_code 35 = .ok (.ifCond .le (6), 3) := by decide +kernel
theorem nd_Main_uses_38 : decode prog_1_method_4_code 38 = .ok (.bipush (-2), 2) := by decide +kernel
theorem nd_Main_uses_40 : decode prog_1_method_4_code 40 = .ok (.ireturn, 1) := by decide +kernel
theorem nd_Main_uses_41 : decode prog_1_method_4_code 41 = .ok (.aload_n 0, 1) := by decide +kernel
theorem nd_Main_uses_42 : decode prog_1_method_4_code 42 = .ok (.getfield 12, 3) := by decide +kernel
theorem nd_Main_uses_45 : decode prog_1_method_4_code 45 = .ok (.getfield 74, 3) := by decide +kernel
theorem nd_Main_uses_48 : decode prog_1_method_4_code 48 = .ok (.iload_n 1, 1) := by decide +kernel
theorem nd_Main_uses_49 : decode prog_1_method_4_code 49 = .ok (.iaload, 1) := by decide +kernel
theorem nd_Main_uses_50 : decode prog_1_method_4_code 50 = .ok (.istore 5, 2) := by decide +kernel
theorem nd_Main_uses_52 : decode prog_1_method_4_code 52 = .ok (.aload_n 0, 1) := by decide +kernel
theorem nd_Main_uses_53 : decode prog_1_method_4_code 53 = .ok (.getfield 21, 3) := by decide +kernel
theorem nd_Main_uses_56 : decode prog_1_method_4_code 56 = .ok (.iload 5, 2) := by decide +kernel
theorem nd_Main_uses_58 : decode prog_1_method_4_code 58 = .ok (.invokevirtual 78, 3) := by decide +kernel
theorem nd_Main_uses_61 : decode prog_1_method_4_code 61 = .ok (.ifCond .eq (16), 3) := by decide +kernel
theorem nd_Main_uses_64 : decode prog_1_method_4_code 64 = .ok (.aload_n 0, 1) := by decide +kernel
theorem nd_Main_uses_65 : decode prog_1_method_4_code 65 = .ok (.getfield 12, 3) := by decide +kernel
theorem nd_Main_uses_68 : decode prog_1_method_4_code 68 = .ok (.iload_n 2, 1) := by decide +kernel
theorem nd_Main_uses_69 : decode prog_1_method_4_code 69 = .ok (.iload 5, 2) := by decide +kernel
theorem nd_Main_uses_71 : decode prog_1_method_4_code 71 = .ok (.invokevirtual 81, 3) := by decide +kernel
theorem nd_Main_uses_74 : decode prog_1_method_4_code 74 = .ok (.ifCond .eq (6), 3) := by decide +kernel
theorem nd_Main_uses_77 : decode prog_1_method_4_code 77 = .ok (.bipush (-3), 2) := by decide +kernel
theorem nd_Main_uses_79 : decode prog_1_method_4_code 79 = .ok (.ireturn, 1) := by decide +kernel
theorem nd_Main_uses_80 : decode prog_1_method_4_code 80 = .ok (.aload_n 0, 1) := by decide +kernel
theorem nd_Main_uses_81 : decode prog_1_method_4_code 81 = .ok (.getfield 12, 3) := by decide +kernel
theorem nd_Main_uses_84 : decode prog_1_method_4_code 84 = .ok (.iload_n 1, 1) := by decide +kernel
theorem nd_Main_uses_85 : decode prog_1_method_4_code 85 = .ok (.iload_n 2, 1) := by decide +kernel
theorem nd_Main_uses_86 : decode prog_1_method_4_code 86 = .ok (.invokevirtual 85, 3) := by decide +kernel
theorem nd_Main_uses_89 : decode prog_1_method_4_code 89 = .ok (.ifCond .eq (7), 3) := by decide +kernel
theorem nd_Main_uses_92 : decode prog_1_method_4_code 92 = .ok (.iconst 0, 1) := by decide +kernel
theorem nd_Main_uses_93 : decode prog_1_method_4_code 93 = .ok (.goto (4), 3) := by decide +kernel
theorem nd_Main_uses_96 : decode prog_1_method_4_code 96 = .ok (.iconst 1, 1) := by decide +kernel
theorem nd_Main_uses_97 : decode prog_1_method_4_code 97 = .ok (.istore 6, 2) := by decide +kernel
theorem nd_Main_uses_99 : decode prog_1_method_4_code 99 = .ok (.aload_n 0, 1) := by decide +kernel
theorem nd_Main_uses_100 : decode prog_1_method_4_code 100 = .ok (.getfield 12, 3) := by decide +kernel
theorem nd_Main_uses_103 : decode prog_1_method_4_code 103 = .ok (.iload_n 1, 1) := by decide +kernel
theorem nd_Main_uses_104 : decode prog_1_method_4_code 104 = .ok (.iload_n 2, 1) := by decide +kernel
theorem nd_Main_uses_105 : decode prog_1_method_4_code 105 = .ok (.lload_n 3, 1) := by decide +kernel
theorem nd_Main_uses_106 : decode prog_1_method_4_code 106 = .ok (.l2i, 1) := by decide +kernel
theorem nd_Main_uses_107 : decode prog_1_method_4_code 107 = .ok (.invokevirtual 88, 3) := by decide +kernel
theorem nd_Main_uses_110 : decode prog_1_method_4_code 110 = .ok (.iload 6, 2) := by decide +kernel
theorem nd_Main_uses_112 : decode prog_1_method_4_code 112 = .ok (.ireturn, 1) := by decide +kernel
def md_Main_uses (mn : cr_S) (lt : Int64) (pl : cr_S) (bd : cr_S) (lk : cr_S) (tr : cr_S) (tb : cr_S) (x1 : Int32) (x2 : Int32) (x3 : Int64) : Int32 × cr_S :=
  (if (md_Plan_hasTask pl x1) = 0 then ((-1 : Int32), pl) else (if (md_Plan_hasResource pl x2) = 0 then ((-1 : Int32), pl) else (if (lg_cmp x3 (1 : Int64)) < 0 then ((-2 : Int32), pl) else (if (lg_cmp x3 (1000 : Int64)) ≤ 0 then (if (md_Board_allSleepOn pl bd (pl 2 x1.toNatClampNeg)) = 0 then ((-3 : Int32), pl) else (if (md_Plan_isUsedByAnotherCore pl x2 (pl 2 x1.toNatClampNeg)) = 0 then (if (md_Plan_isUsedBy pl x1 x2) = 0 then ((1 : Int32), (md_Plan_setUse pl x1 x2 x3.toInt32)) else ((0 : Int32), (md_Plan_setUse pl x1 x2 x3.toInt32))) else ((-3 : Int32), pl))) else ((-2 : Int32), pl)))))
abbrev pq_Main_uses (dC : Nat → ClassId) (dI : Nat → Nat → Nat) (cI cZ cO : ClassId) (amn apl abd alk atr atb : Nat → Nat) (mn : cr_S) (lt : Int64) (pl : cr_S) (bd : cr_S) (lk : cr_S) (tr : cr_S) (tb : cr_S) (x1 : Int32) (x2 : Int32) (x3 : Int64) (A : Nat → Prop) : Array Value → State → Outcome → State → Prop :=
  va_Qi (fun (r : Int32) (pl' : cr_S) => r = (md_Main_uses mn lt pl bd lk tr tb x1 x2 x3).1 ∧ pl' = (md_Main_uses mn lt pl bd lk tr tb x1 x2 x3).2 ∧ cr_RPlan pl') (fun (pl' : cr_S) t => va_P (dC, dI) vwCl (cw_Main cI cZ cO amn apl abd alk atr mn lt ++ cw_Plan cI cZ cO apl pl' ++ cw_Board cI cZ cO abd apl bd ++ cw_Locks cI cZ cO alk lk ++ cw_Trial cI cZ cO atr apl atb tr ++ cw_Board cI cZ cO atb apl tb) t.heap ∧ va_K (dC, dI) vwCl [(cI, .int), (cZ, .boolean), (cO, .array .int)] t ∧ va_D A (cw_Main cI cZ cO amn apl abd alk atr mn lt ++ cw_Plan cI cZ cO apl pl' ++ cw_Board cI cZ cO abd apl bd ++ cw_Locks cI cZ cO alk lk ++ cw_Trial cI cZ cO atr apl atb tr ++ cw_Board cI cZ cO atb apl tb)) A
set_option maxHeartbeats 4000000 in
set_option maxRecDepth 100000 in
theorem ct_Main_uses (l : Launch) (dC : Nat → ClassId) (dI : Nat → Nat → Nat) (cI cZ cO : ClassId) (amn apl abd alk atr atb : Nat → Nat) (sz : Nat) (mn : cr_S) (lt : Int64) (pl : cr_S) (bd : cr_S) (lk : cr_S) (tr : cr_S) (tb : cr_S) (x1 : Int32) (x2 : Int32) (x3 : Int64) (hR_tb : cr_RBoard tb) (hR_lk : cr_RLocks lk) (hR_bd : cr_RBoard bd) (hR_pl : cr_RPlan pl) : Met l ny_Main_uses nw_Main_uses ({ frames := 2, cells := 0, slots := 0, locals := 44 } : Room) (va_Pc [.ref (amn 0), .int x1, .int x2, .long x3] (fun U => U.heap.size = sz ∧ va_P (dC, dI) vwCl (cw_Main cI cZ cO amn apl abd alk atr mn lt ++ cw_Plan cI cZ cO apl pl ++ cw_Board cI cZ cO abd apl bd ++ cw_Locks cI cZ cO alk lk ++ cw_Trial cI cZ cO atr apl atb tr ++ cw_Board cI cZ cO atb apl tb) U.heap ∧ va_K (dC, dI) vwCl [(cI, .int), (cZ, .boolean), (cO, .array .int)] U ∧ va_D (fun _ => True) (cw_Main cI cZ cO amn apl abd alk atr mn lt ++ cw_Plan cI cZ cO apl pl ++ cw_Board cI cZ cO abd apl bd ++ cw_Locks cI cZ cO alk lk ++ cw_Trial cI cZ cO atr apl atb tr ++ cw_Board cI cZ cO atb apl tb))) (pq_Main_uses dC dI cI cZ cO amn apl abd alk atr atb mn lt pl bd lk tr tb x1 x2 x3 (va_A (cw_Main cI cZ cO amn apl abd alk atr mn lt ++ cw_Plan cI cZ cO apl pl ++ cw_Board cI cZ cO abd apl bd ++ cw_Locks cI cZ cO alk lk ++ cw_Trial cI cZ cO atr apl atb tr ++ cw_Board cI cZ cO atb apl tb) sz)) 0 0 (va_A (cw_Main cI cZ cO amn apl abd alk atr mn lt ++ cw_Plan cI cZ cO apl pl ++ cw_Board cI cZ cO abd apl bd ++ cw_Locks cI cZ cO alk lk ++ cw_Trial cI cZ cO atr apl atb tr ++ cw_Board cI cZ cO atb apl tb) sz) := by
  refine Met.ofW (cc := prog_1_method_4_code) (maxL := 7) (ret := (some .int)) (by decide) rfl ?_
  intro p e s m args below meth c s₁ B hml hv
  obtain ⟨rfl, hsz, hP, hK, hD0⟩ := hv
  have hx := B.exec
  have hb := B.bytes
  have hr := B.returns
  have hts0 := atoms_spec (ws := nw_Main_uses) B.pre
  have hts : ∀ w ∈ ng_tbl, w.before ([.ref (amn 0), .int x1, .int x2, .long x3] : List Value).toArray s = true := fun w h => hts0 w (List.mem_cons_of_mem _ h)
  have hown : s.vm.findClass "CeilingRows" = some m.cls := findClass_of_methodNamed B.named
  have hlocks := B.notSynchronized
  subst hsz
  have hD := hD0.self (sz := s.heap.size)
  generalize hAe : va_A (cw_Main cI cZ cO amn apl abd alk atr mn lt ++ cw_Plan cI cZ cO apl pl ++ cw_Board cI cZ cO abd apl bd ++ cw_Locks cI cZ cO alk lk ++ cw_Trial cI cZ cO atr apl atb tr ++ cw_Board cI cZ cO atb apl tb) s.heap.size = A at hD ⊢
  have hA : ∀ q : Nat, s.heap.size ≤ q → A q := fun q h => by rw [← hAe]; exact Or.inr h
  have hS : va_S A s.heap s.heap [] := va_S.rf
  have hP : va_P (dC, dI) vwCl (cw_Main cI cZ cO amn apl abd alk atr mn lt ++ cw_Plan cI cZ cO apl pl ++ cw_Board cI cZ cO abd apl bd ++ cw_Locks cI cZ cO alk lk ++ cw_Trial cI cZ cO atr apl atb tr ++ cw_Board cI cZ cO atb apl tb) s.heap := hP
  have hl := lv_entry ([.ref (amn 0), .int x1, .int x2, .long x3]) (n := 7) (Nat.le_of_ble_eq_true rfl)
  rw [lg_entry_eq]
  generalize (lg_sl ([.ref (amn 0), .int x1, .int x2, .long x3]) ++ List.replicate (7 - (lg_sl ([.ref (amn 0), .int x1, .int x2, .long x3])).length) Slot.unset).toArray = ls at hl ⊢
  have hl : lv_has ls 7 [(0, .ref (amn 0)), (1, .int x1), (2, .int x2), (3, .long x3)] := hl
  have k_m3 : (-3 : Int32).toInt = -3 := by decide
  have k_m2 : (-2 : Int32).toInt = -2 := by decide
  have k_m1 : (-1 : Int32).toInt = -1 := by decide
  have k_0 : (0 : Int32).toInt = 0 := by decide
  have k_1 : (1 : Int32).toInt = 1 := by decide
  obtain ⟨tgt, hT⟩ : ∃ z, md_Main_uses mn lt pl bd lk tr tb x1 x2 x3 = z := ⟨_, rfl⟩
  have hM := hT
  unfold md_Main_uses at hM
  refine lv_aload_n hx hb nd_Main_uses_0 rfl (lv_at hl 0 rfl) ?_
  refine va_get (D := (dC, dI)) (ci := 4) (v := .ref (apl 0)) (C := "CeilingRows") (T := nf_Main) (N := 6) hx hb hts nin_Main hown hK hP 0 rfl rfl 0 (by decide) (hts _ tw_138) (fun _ h9 => h9) rfl nd_Main_uses_1 ?_
  refine lv_iload_n hx hb nd_Main_uses_4 rfl (lv_at hl 1 rfl) ?_
  have hPc := hP.sub (ws' := cw_Plan cI cZ cO apl pl) [2, 3, 4, 5, 6, 7, 8, 9, 10, 11, 12, 13, 14, 15, 16, 17, 18] rfl
  have hDc := hD.sub (ws' := cw_Plan cI cZ cO apl pl) [2, 3, 4, 5, 6, 7, 8, 9, 10, 11, 12, 13, 14, 15, 16, 17, 18] (by decide) rfl
  have hFc := va_free (wc := cw_Plan cI cZ cO apl pl) hD hS hA [2, 3, 4, 5, 6, 7, 8, 9, 10, 11, 12, 13, 14, 15, 16, 17, 18] rfl
  refine va_calli (va_runV (As := [.int x1]) (rest := []) ⟨hx, hb, hml, hown, hts⟩ (ct_Plan_hasTask l dC dI cI cZ cO apl s.heap.size pl x1 hR_pl) (cwV 1 hts (ng_V tw_181 tw_182 tw_183 tw_2 tw_184) rfl rfl rfl (by decide +kernel) ⟨Nat.le_of_ble_eq_true rfl, Nat.le_of_ble_eq_true rfl⟩) ⟨fun a U g mk q => by obtain ⟨q0, q1, qP, qK, qD⟩ := q; exact ⟨q0, q1, qP, va_K.moved (u := U) (U := U.calling g mk a) (Vm.Alike.refl U.vm) qK, qD⟩, va_recv hK hPc (ci := 0) (q0 := 0) rfl rfl, fun U hU hW => ⟨rfl, by rw [hU], by rw [hU]; exact hPc, va_K.moved hW.alike hK, hDc.weaken (fun _ _ _ _ => trivial)⟩⟩ rfl rfl hl.1 rfl (lv_room (Nat.le_of_ble_eq_true rfl)) nd_Main_uses_5 ⟨Nat.zero_le _, Nat.zero_le _⟩) hS (fun q _ h => hFc q h) hFc (fun r_1 u t H1 locs ht hvm hw hB hz1 hk1 hS => ?_)
  obtain ⟨hP1, hK1, hD1⟩ := hB
  rw [ht] at hP1
  obtain ⟨w_2, f_3⟩ := hw
  try rw [← w_2] at hM
  obtain ⟨hP, hD⟩ := va_join (wr := cw_Main cI cZ cO amn apl abd alk atr mn lt ++ cw_Board cI cZ cO abd apl bd ++ cw_Locks cI cZ cO alk lk ++ cw_Trial cI cZ cO atr apl atb tr ++ cw_Board cI cZ cO atb apl tb) (w1 := cw_Plan cI cZ cO apl pl) hP hD [2, 3, 4, 5, 6, 7, 8, 9, 10, 11, 12, 13, 14, 15, 16, 17, 18] [0, 1, 19, 20, 21, 22, 23, 24, 25, 26, 27, 28, 29, 30, 31, 32, 33, 34, 35, 36, 37, 38, 39, 40, 41, 42, 43, 44, 45, 46, 47, 48] rfl rfl (by decide) (by decide) hk1 hFc hP1 hD1
  have hP := hP.sub (ws' := cw_Main cI cZ cO amn apl abd alk atr mn lt ++ cw_Plan cI cZ cO apl pl ++ cw_Board cI cZ cO abd apl bd ++ cw_Locks cI cZ cO alk lk ++ cw_Trial cI cZ cO atr apl atb tr ++ cw_Board cI cZ cO atb apl tb) [0, 1, 32, 33, 34, 35, 36, 37, 38, 39, 40, 41, 42, 43, 44, 45, 46, 47, 48, 2, 3, 4, 5, 6, 7, 8, 9, 10, 11, 12, 13, 14, 15, 16, 17, 18, 19, 20, 21, 22, 23, 24, 25, 26, 27, 28, 29, 30, 31] rfl
  have hD := hD.sub (ws' := cw_Main cI cZ cO amn apl abd alk atr mn lt ++ cw_Plan cI cZ cO apl pl ++ cw_Board cI cZ cO abd apl bd ++ cw_Locks cI cZ cO alk lk ++ cw_Trial cI cZ cO atr apl atb tr ++ cw_Board cI cZ cO atb apl tb) [0, 1, 32, 33, 34, 35, 36, 37, 38, 39, 40, 41, 42, 43, 44, 45, 46, 47, 48, 2, 3, 4, 5, 6, 7, 8, 9, 10, 11, 12, 13, 14, 15, 16, 17, 18, 19, 20, 21, 22, 23, 24, 25, 26, 27, 28, 29, 30, 31] (by decide) rfl
  generalize H1 = H at hP hS ⊢
  refine lv_if_eq (tgt := 22) hx hb nd_Main_uses_8 (by decide) (fun c_4 => ?_) (fun c_4 => ?_)
  · have c_4t := cr_eq c_4
    rw [if_pos c_4] at hM
    refine lv_iconst (v := -1) hx hb nd_Main_uses_22 (by decide) ?_
    exact W.iret (v := (-1 : Int32)) hx hb hr (fun t ht hW => ⟨⟨(-1 : Int32), pl, rfl, ⟨by rw [hT, ← hM], by rw [hT, ← hM], hR_pl⟩, by rw [ht]; exact hP, va_K.moved hW.alike hK, hD⟩, hS.F ht⟩) hS.2.2 nd_Main_uses_23
  · have c_4t := cr_ne c_4
    rw [if_neg c_4] at hM
    refine lv_aload_n hx hb nd_Main_uses_11 rfl (lv_at hl 0 rfl) ?_
    refine va_get (D := (dC, dI)) (ci := 4) (v := .ref (apl 0)) (C := "CeilingRows") (T := nf_Main) (N := 6) hx hb hts nin_Main hown hK hP 0 rfl rfl 0 (by decide) (hts _ tw_138) (fun _ h9 => h9) rfl nd_Main_uses_12 ?_
    refine lv_iload_n hx hb nd_Main_uses_15 rfl (lv_at hl 2 rfl) ?_
    have hPc := hP.sub (ws' := cw_Plan cI cZ cO apl pl) [2, 3, 4, 5, 6, 7, 8, 9, 10, 11, 12, 13, 14, 15, 16, 17, 18] rfl
    have hDc := hD.sub (ws' := cw_Plan cI cZ cO apl pl) [2, 3, 4, 5, 6, 7, 8, 9, 10, 11, 12, 13, 14, 15, 16, 17, 18] (by decide) rfl
    have hFc := va_free (wc := cw_Plan cI cZ cO apl pl) hD hS hA [2, 3, 4, 5, 6, 7, 8, 9, 10, 11, 12, 13, 14, 15, 16, 17, 18] rfl
    refine va_calli (va_runV (As := [.int x2]) (rest := []) ⟨hx, hb, hml, hown, hts⟩ (ct_Plan_hasResource l dC dI cI cZ cO apl H.size pl x2 hR_pl) (cwV 1 hts (ng_V tw_185 tw_186 tw_187 tw_2 tw_188) rfl rfl rfl (by decide +kernel) ⟨Nat.le_of_ble_eq_true rfl, Nat.le_of_ble_eq_true rfl⟩) ⟨fun a U g mk q => by obtain ⟨q0, q1, qP, qK, qD⟩ := q; exact ⟨q0, q1, qP, va_K.moved (u := U) (U := U.calling g mk a) (Vm.Alike.refl U.vm) qK, qD⟩, va_recv hK hPc (ci := 0) (q0 := 0) rfl rfl, fun U hU hW => ⟨rfl, by rw [hU], by rw [hU]; exact hPc, va_K.moved hW.alike hK, hDc.weaken (fun _ _ _ _ => trivial)⟩⟩ rfl rfl hl.1 rfl (lv_room (Nat.le_of_ble_eq_true rfl)) nd_Main_uses_16 ⟨Nat.zero_le _, Nat.zero_le _⟩) hS (fun q _ h => hFc q h) hFc (fun r_5 u t H1 locs ht hvm hw hB hz1 hk1 hS => ?_)
    obtain ⟨hP1, hK1, hD1⟩ := hB
    rw [ht] at hP1
    obtain ⟨w_6, f_7⟩ := hw
    try rw [← w_6] at hM
    obtain ⟨hP, hD⟩ := va_join (wr := cw_Main cI cZ cO amn apl abd alk atr mn lt ++ cw_Board cI cZ cO abd apl bd ++ cw_Locks cI cZ cO alk lk ++ cw_Trial cI cZ cO atr apl atb tr ++ cw_Board cI cZ cO atb apl tb) (w1 := cw_Plan cI cZ cO apl pl) hP hD [2, 3, 4, 5, 6, 7, 8, 9, 10, 11, 12, 13, 14, 15, 16, 17, 18] [0, 1, 19, 20, 21, 22, 23, 24, 25, 26, 27, 28, 29, 30, 31, 32, 33, 34, 35, 36, 37, 38, 39, 40, 41, 42, 43, 44, 45, 46, 47, 48] rfl rfl (by decide) (by decide) hk1 hFc hP1 hD1
    have hP := hP.sub (ws' := cw_Main cI cZ cO amn apl abd alk atr mn lt ++ cw_Plan cI cZ cO apl pl ++ cw_Board cI cZ cO abd apl bd ++ cw_Locks cI cZ cO alk lk ++ cw_Trial cI cZ cO atr apl atb tr ++ cw_Board cI cZ cO atb apl tb) [0, 1, 32, 33, 34, 35, 36, 37, 38, 39, 40, 41, 42, 43, 44, 45, 46, 47, 48, 2, 3, 4, 5, 6, 7, 8, 9, 10, 11, 12, 13, 14, 15, 16, 17, 18, 19, 20, 21, 22, 23, 24, 25, 26, 27, 28, 29, 30, 31] rfl
    have hD := hD.sub (ws' := cw_Main cI cZ cO amn apl abd alk atr mn lt ++ cw_Plan cI cZ cO apl pl ++ cw_Board cI cZ cO abd apl bd ++ cw_Locks cI cZ cO alk lk ++ cw_Trial cI cZ cO atr apl atb tr ++ cw_Board cI cZ cO atb apl tb) [0, 1, 32, 33, 34, 35, 36, 37, 38, 39, 40, 41, 42, 43, 44, 45, 46, 47, 48, 2, 3, 4, 5, 6, 7, 8, 9, 10, 11, 12, 13, 14, 15, 16, 17, 18, 19, 20, 21, 22, 23, 24, 25, 26, 27, 28, 29, 30, 31] (by decide) rfl
    generalize H1 = H at hP hS ⊢
    refine lv_if_ne (tgt := 24) hx hb nd_Main_uses_19 (by decide) (fun c_8 => ?_) (fun c_8 => ?_)
    · have c_8t := cr_ne c_8
      rw [if_neg c_8] at hM
      refine lv_lload_n hx hb nd_Main_uses_24 rfl (lv_at hl 3 rfl) ?_
      refine lv_lconst (v := 1) hx hb nd_Main_uses_25 (by decide) ?_
      refine W.lcmp hx hb nd_Main_uses_26 ?_
      refine lv_if_lt (tgt := 38) hx hb nd_Main_uses_27 (by decide) (fun c_9 => ?_) (fun c_9 => ?_)
      · have c_9t := cr_lt c_9
        rw [if_pos c_9] at hM
        refine lv_bipush (v := -2) hx hb nd_Main_uses_38 (by decide) ?_
        exact W.iret (v := (-2 : Int32)) hx hb hr (fun t ht hW => ⟨⟨(-2 : Int32), pl, rfl, ⟨by rw [hT, ← hM], by rw [hT, ← hM], hR_pl⟩, by rw [ht]; exact hP, va_K.moved hW.alike hK, hD⟩, hS.F ht⟩) hS.2.2 nd_Main_uses_40
      · have c_9t := cr_nlt c_9
        rw [if_neg c_9] at hM
        refine lv_lload_n hx hb nd_Main_uses_30 rfl (lv_at hl 3 rfl) ?_
        refine lv_ldc2 (v := 1000) hx hb hown (hts _ tw_189) nd_Main_uses_31 ?_
        refine W.lcmp hx hb nd_Main_uses_34 ?_
        refine lv_if_le (tgt := 41) hx hb nd_Main_uses_35 (by decide) (fun c_10 => ?_) (fun c_10 => ?_)
        · have c_10t := cr_le c_10
          rw [if_pos c_10] at hM
          refine lv_aload_n hx hb nd_Main_uses_41 rfl (lv_at hl 0 rfl) ?_
          refine va_get (D := (dC, dI)) (ci := 4) (v := .ref (apl 0)) (C := "CeilingRows") (T := nf_Main) (N := 6) hx hb hts nin_Main hown hK hP 0 rfl rfl 0 (by decide) (hts _ tw_138) (fun _ h9 => h9) rfl nd_Main_uses_42 ?_
          refine va_get (D := (dC, dI)) (ci := 0) (v := .ref (apl 2)) (C := "CeilingRows$Plan") (T := nf_Plan) (N := 7) hx hb hts nin_Plan hown hK hP 2 rfl rfl 3 (by decide) (hts _ tw_38) (fun _ h9 => h9) rfl nd_Main_uses_45 ?_
          refine lv_iload_n hx hb nd_Main_uses_48 rfl (lv_at hl 1 rfl) ?_
          have b_11 : vp_in x1 11 := vp_in_iff.mpr (by omega)
          refine va_iald hx hb hK hP 4 0 rfl rfl b_11 nd_Main_uses_49 ?_
          have f_12 := cr_rgo hR_pl.2.2 (x1.toNatClampNeg)
          refine lv_istore (lv' := [(5, .int (pl 2 x1.toNatClampNeg)), (0, .ref (amn 0)), (1, .int x1), (2, .int x2), (3, .long x3)]) hx hb nd_Main_uses_50 hl (by decide) rfl (fun ls hl => ?_)
          refine lv_aload_n hx hb nd_Main_uses_52 rfl (lv_at hl 1 rfl) ?_
          refine va_get (D := (dC, dI)) (ci := 4) (v := .ref (abd 0)) (C := "CeilingRows") (T := nf_Main) (N := 6) hx hb hts nin_Main hown hK hP 0 rfl rfl 1 (by decide) (hts _ tw_139) (fun _ h9 => h9) rfl nd_Main_uses_53 ?_
          refine lv_iload hx hb nd_Main_uses_56 (lv_at hl 0 rfl) ?_
          have hPc := hP.sub (ws' := cw_Plan cI cZ cO apl pl ++ cw_Board cI cZ cO abd apl bd) [2, 3, 4, 5, 6, 7, 8, 9, 10, 11, 12, 13, 14, 15, 16, 17, 18, 19, 20, 21, 22, 23, 24] rfl
          have hDc := hD.sub (ws' := cw_Plan cI cZ cO apl pl ++ cw_Board cI cZ cO abd apl bd) [2, 3, 4, 5, 6, 7, 8, 9, 10, 11, 12, 13, 14, 15, 16, 17, 18, 19, 20, 21, 22, 23, 24] (by decide) rfl
          have hFc := va_free (wc := cw_Plan cI cZ cO apl pl ++ cw_Board cI cZ cO abd apl bd) hD hS hA [2, 3, 4, 5, 6, 7, 8, 9, 10, 11, 12, 13, 14, 15, 16, 17, 18, 19, 20, 21, 22, 23, 24] rfl
          refine va_calli (va_runV (As := [.int (pl 2 x1.toNatClampNeg)]) (rest := []) ⟨hx, hb, hml, hown, hts⟩ (ct_Board_allSleepOn l dC dI cI cZ cO apl abd H.size pl bd (pl 2 x1.toNatClampNeg) hR_bd hR_pl) (cwV 1 hts (ng_V tw_190 tw_191 tw_192 tw_3 tw_193) rfl rfl rfl (by decide +kernel) ⟨Nat.le_of_ble_eq_true rfl, Nat.le_of_ble_eq_true rfl⟩) ⟨fun a U g mk q => by obtain ⟨q0, q1, qP, qK, qD⟩ := q; exact ⟨q0, q1, qP, va_K.moved (u := U) (U := U.calling g mk a) (Vm.Alike.refl U.vm) qK, qD⟩, va_recv hK hPc (ci := 1) (q0 := 17) rfl rfl, fun U hU hW => ⟨rfl, by rw [hU], by rw [hU]; exact hPc, va_K.moved hW.alike hK, hDc.weaken (fun _ _ _ _ => trivial)⟩⟩ rfl rfl hl.1 rfl (lv_room (Nat.le_of_ble_eq_true rfl)) nd_Main_uses_58 ⟨Nat.zero_le _, Nat.zero_le _⟩) hS (fun q _ h => hFc q h) hFc (fun r_13 u t H1 locs ht hvm hw hB hz1 hk1 hS => ?_)
          obtain ⟨hP1, hK1, hD1⟩ := hB
          rw [ht] at hP1
          have w_14 := hw
          try rw [← w_14] at hM
          obtain ⟨hP, hD⟩ := va_join (wr := cw_Main cI cZ cO amn apl abd alk atr mn lt ++ cw_Locks cI cZ cO alk lk ++ cw_Trial cI cZ cO atr apl atb tr ++ cw_Board cI cZ cO atb apl tb) (w1 := cw_Plan cI cZ cO apl pl ++ cw_Board cI cZ cO abd apl bd) hP hD [2, 3, 4, 5, 6, 7, 8, 9, 10, 11, 12, 13, 14, 15, 16, 17, 18, 19, 20, 21, 22, 23, 24] [0, 1, 25, 26, 27, 28, 29, 30, 31, 32, 33, 34, 35, 36, 37, 38, 39, 40, 41, 42, 43, 44, 45, 46, 47, 48] rfl rfl (by decide) (by decide) hk1 hFc hP1 hD1
          have hP := hP.sub (ws' := cw_Main cI cZ cO amn apl abd alk atr mn lt ++ cw_Plan cI cZ cO apl pl ++ cw_Board cI cZ cO abd apl bd ++ cw_Locks cI cZ cO alk lk ++ cw_Trial cI cZ cO atr apl atb tr ++ cw_Board cI cZ cO atb apl tb) [0, 1, 26, 27, 28, 29, 30, 31, 32, 33, 34, 35, 36, 37, 38, 39, 40, 41, 42, 43, 44, 45, 46, 47, 48, 2, 3, 4, 5, 6, 7, 8, 9, 10, 11, 12, 13, 14, 15, 16, 17, 18, 19, 20, 21, 22, 23, 24, 25] rfl
          have hD := hD.sub (ws' := cw_Main cI cZ cO amn apl abd alk atr mn lt ++ cw_Plan cI cZ cO apl pl ++ cw_Board cI cZ cO abd apl bd ++ cw_Locks cI cZ cO alk lk ++ cw_Trial cI cZ cO atr apl atb tr ++ cw_Board cI cZ cO atb apl tb) [0, 1, 26, 27, 28, 29, 30, 31, 32, 33, 34, 35, 36, 37, 38, 39, 40, 41, 42, 43, 44, 45, 46, 47, 48, 2, 3, 4, 5, 6, 7, 8, 9, 10, 11, 12, 13, 14, 15, 16, 17, 18, 19, 20, 21, 22, 23, 24, 25] (by decide) rfl
          generalize H1 = H at hP hS ⊢
          refine lv_if_eq (tgt := 77) hx hb nd_Main_uses_61 (by decide) (fun c_15 => ?_) (fun c_15 => ?_)
          · have c_15t := cr_eq c_15
            rw [if_pos c_15] at hM
            refine lv_bipush (v := -3) hx hb nd_Main_uses_77 (by decide) ?_
            exact W.iret (v := (-3 : Int32)) hx hb hr (fun t ht hW => ⟨⟨(-3 : Int32), pl, rfl, ⟨by rw [hT, ← hM], by rw [hT, ← hM], hR_pl⟩, by rw [ht]; exact hP, va_K.moved hW.alike hK, hD⟩, hS.F ht⟩) hS.2.2 nd_Main_uses_79
          · have c_15t := cr_ne c_15
            rw [if_neg c_15] at hM
            refine lv_aload_n hx hb nd_Main_uses_64 rfl (lv_at hl 1 rfl) ?_
            refine va_get (D := (dC, dI)) (ci := 4) (v := .ref (apl 0)) (C := "CeilingRows") (T := nf_Main) (N := 6) hx hb hts nin_Main hown hK hP 0 rfl rfl 0 (by decide) (hts _ tw_138) (fun _ h9 => h9) rfl nd_Main_uses_65 ?_
            refine lv_iload_n hx hb nd_Main_uses_68 rfl (lv_at hl 3 rfl) ?_
            refine lv_iload hx hb nd_Main_uses_69 (lv_at hl 0 rfl) ?_
            have hPc := hP.sub (ws' := cw_Plan cI cZ cO apl pl) [2, 3, 4, 5, 6, 7, 8, 9, 10, 11, 12, 13, 14, 15, 16, 17, 18] rfl
            have hDc := hD.sub (ws' := cw_Plan cI cZ cO apl pl) [2, 3, 4, 5, 6, 7, 8, 9, 10, 11, 12, 13, 14, 15, 16, 17, 18] (by decide) rfl
            have hFc := va_free (wc := cw_Plan cI cZ cO apl pl) hD hS hA [2, 3, 4, 5, 6, 7, 8, 9, 10, 11, 12, 13, 14, 15, 16, 17, 18] rfl
            refine va_calli (va_runV (As := [.int x2, .int (pl 2 x1.toNatClampNeg)]) (rest := []) ⟨hx, hb, hml, hown, hts⟩ (ct_Plan_isUsedByAnotherCore l dC dI cI cZ cO apl H.size pl x2 (pl 2 x1.toNatClampNeg) hR_pl (by omega)) (cwV 2 hts (ng_V tw_194 tw_195 tw_196 tw_2 tw_197) rfl rfl rfl (by decide +kernel) ⟨Nat.le_of_ble_eq_true rfl, Nat.le_of_ble_eq_true rfl⟩) ⟨fun a U g mk q => by obtain ⟨q0, q1, qP, qK, qD⟩ := q; exact ⟨q0, q1, qP, va_K.moved (u := U) (U := U.calling g mk a) (Vm.Alike.refl U.vm) qK, qD⟩, va_recv hK hPc (ci := 0) (q0 := 0) rfl rfl, fun U hU hW => ⟨rfl, by rw [hU], by rw [hU]; exact hPc, va_K.moved hW.alike hK, hDc.weaken (fun _ _ _ _ => trivial)⟩⟩ rfl rfl hl.1 rfl (lv_room (Nat.le_of_ble_eq_true rfl)) nd_Main_uses_71 ⟨Nat.zero_le _, Nat.zero_le _⟩) hS (fun q _ h => hFc q h) hFc (fun r_16 u t H1 locs ht hvm hw hB hz1 hk1 hS => ?_)
            obtain ⟨hP1, hK1, hD1⟩ := hB
            rw [ht] at hP1
            have w_17 := hw
            try rw [← w_17] at hM
            obtain ⟨hP, hD⟩ := va_join (wr := cw_Main cI cZ cO amn apl abd alk atr mn lt ++ cw_Board cI cZ cO abd apl bd ++ cw_Locks cI cZ cO alk lk ++ cw_Trial cI cZ cO atr apl atb tr ++ cw_Board cI cZ cO atb apl tb) (w1 := cw_Plan cI cZ cO apl pl) hP hD [2, 3, 4, 5, 6, 7, 8, 9, 10, 11, 12, 13, 14, 15, 16, 17, 18] [0, 1, 19, 20, 21, 22, 23, 24, 25, 26, 27, 28, 29, 30, 31, 32, 33, 34, 35, 36, 37, 38, 39, 40, 41, 42, 43, 44, 45, 46, 47, 48] rfl rfl (by decide) (by decide) hk1 hFc hP1 hD1
            have hP := hP.sub (ws' := cw_Main cI cZ cO amn apl abd alk atr mn lt ++ cw_Plan cI cZ cO apl pl ++ cw_Board cI cZ cO abd apl bd ++ cw_Locks cI cZ cO alk lk ++ cw_Trial cI cZ cO atr apl atb tr ++ cw_Board cI cZ cO atb apl tb) [0, 1, 32, 33, 34, 35, 36, 37, 38, 39, 40, 41, 42, 43, 44, 45, 46, 47, 48, 2, 3, 4, 5, 6, 7, 8, 9, 10, 11, 12, 13, 14, 15, 16, 17, 18, 19, 20, 21, 22, 23, 24, 25, 26, 27, 28, 29, 30, 31] rfl
            have hD := hD.sub (ws' := cw_Main cI cZ cO amn apl abd alk atr mn lt ++ cw_Plan cI cZ cO apl pl ++ cw_Board cI cZ cO abd apl bd ++ cw_Locks cI cZ cO alk lk ++ cw_Trial cI cZ cO atr apl atb tr ++ cw_Board cI cZ cO atb apl tb) [0, 1, 32, 33, 34, 35, 36, 37, 38, 39, 40, 41, 42, 43, 44, 45, 46, 47, 48, 2, 3, 4, 5, 6, 7, 8, 9, 10, 11, 12, 13, 14, 15, 16, 17, 18, 19, 20, 21, 22, 23, 24, 25, 26, 27, 28, 29, 30, 31] (by decide) rfl
            generalize H1 = H at hP hS ⊢
            refine lv_if_eq (tgt := 80) hx hb nd_Main_uses_74 (by decide) (fun c_18 => ?_) (fun c_18 => ?_)
            · have c_18t := cr_eq c_18
              rw [if_pos c_18] at hM
              refine lv_aload_n hx hb nd_Main_uses_80 rfl (lv_at hl 1 rfl) ?_
              refine va_get (D := (dC, dI)) (ci := 4) (v := .ref (apl 0)) (C := "CeilingRows") (T := nf_Main) (N := 6) hx hb hts nin_Main hown hK hP 0 rfl rfl 0 (by decide) (hts _ tw_138) (fun _ h9 => h9) rfl nd_Main_uses_81 ?_
              refine lv_iload_n hx hb nd_Main_uses_84 rfl (lv_at hl 2 rfl) ?_
              refine lv_iload_n hx hb nd_Main_uses_85 rfl (lv_at hl 3 rfl) ?_
              have hPc := hP.sub (ws' := cw_Plan cI cZ cO apl pl) [2, 3, 4, 5, 6, 7, 8, 9, 10, 11, 12, 13, 14, 15, 16, 17, 18] rfl
              have hDc := hD.sub (ws' := cw_Plan cI cZ cO apl pl) [2, 3, 4, 5, 6, 7, 8, 9, 10, 11, 12, 13, 14, 15, 16, 17, 18] (by decide) rfl
              have hFc := va_free (wc := cw_Plan cI cZ cO apl pl) hD hS hA [2, 3, 4, 5, 6, 7, 8, 9, 10, 11, 12, 13, 14, 15, 16, 17, 18] rfl
              refine va_calli (va_runV (As := [.int x1, .int x2]) (rest := []) ⟨hx, hb, hml, hown, hts⟩ (ct_Plan_isUsedBy l dC dI cI cZ cO apl H.size pl x1 x2 hR_pl (by omega) (by omega)) (cwV 2 hts (ng_V tw_198 tw_199 tw_200 tw_2 tw_201) rfl rfl rfl (by decide +kernel) ⟨Nat.le_of_ble_eq_true rfl, Nat.le_of_ble_eq_true rfl⟩) ⟨fun a U g mk q => by obtain ⟨q0, q1, qP, qK, qD⟩ := q; exact ⟨q0, q1, qP, va_K.moved (u := U) (U := U.calling g mk a) (Vm.Alike.refl U.vm) qK, qD⟩, va_recv hK hPc (ci := 0) (q0 := 0) rfl rfl, fun U hU hW => ⟨rfl, by rw [hU], by rw [hU]; exact hPc, va_K.moved hW.alike hK, hDc.weaken (fun _ _ _ _ => trivial)⟩⟩ rfl rfl hl.1 rfl (lv_room (Nat.le_of_ble_eq_true rfl)) nd_Main_uses_86 ⟨Nat.zero_le _, Nat.zero_le _⟩) hS (fun q _ h => hFc q h) hFc (fun r_19 u t H1 locs ht hvm hw hB hz1 hk1 hS => ?_)
              obtain ⟨hP1, hK1, hD1⟩ := hB
              rw [ht] at hP1
              have w_20 := hw
              try rw [← w_20] at hM
              obtain ⟨hP, hD⟩ := va_join (wr := cw_Main cI cZ cO amn apl abd alk atr mn lt ++ cw_Board cI cZ cO abd apl bd ++ cw_Locks cI cZ cO alk lk ++ cw_Trial cI cZ cO atr apl atb tr ++ cw_Board cI cZ cO atb apl tb) (w1 := cw_Plan cI cZ cO apl pl) hP hD [2, 3, 4, 5, 6, 7, 8, 9, 10, 11, 12, 13, 14, 15, 16, 17, 18] [0, 1, 19, 20, 21, 22, 23, 24, 25, 26, 27, 28, 29, 30, 31, 32, 33, 34, 35, 36, 37, 38, 39, 40, 41, 42, 43, 44, 45, 46, 47, 48] rfl rfl (by decide) (by decide) hk1 hFc hP1 hD1
              have hP := hP.sub (ws' := cw_Main cI cZ cO amn apl abd alk atr mn lt ++ cw_Plan cI cZ cO apl pl ++ cw_Board cI cZ cO abd apl bd ++ cw_Locks cI cZ cO alk lk ++ cw_Trial cI cZ cO atr apl atb tr ++ cw_Board cI cZ cO atb apl tb) [0, 1, 32, 33, 34, 35, 36, 37, 38, 39, 40, 41, 42, 43, 44, 45, 46, 47, 48, 2, 3, 4, 5, 6, 7, 8, 9, 10, 11, 12, 13, 14, 15, 16, 17, 18, 19, 20, 21, 22, 23, 24, 25, 26, 27, 28, 29, 30, 31] rfl
              have hD := hD.sub (ws' := cw_Main cI cZ cO amn apl abd alk atr mn lt ++ cw_Plan cI cZ cO apl pl ++ cw_Board cI cZ cO abd apl bd ++ cw_Locks cI cZ cO alk lk ++ cw_Trial cI cZ cO atr apl atb tr ++ cw_Board cI cZ cO atb apl tb) [0, 1, 32, 33, 34, 35, 36, 37, 38, 39, 40, 41, 42, 43, 44, 45, 46, 47, 48, 2, 3, 4, 5, 6, 7, 8, 9, 10, 11, 12, 13, 14, 15, 16, 17, 18, 19, 20, 21, 22, 23, 24, 25, 26, 27, 28, 29, 30, 31] (by decide) rfl
              generalize H1 = H at hP hS ⊢
              refine lv_if_eq (tgt := 96) hx hb nd_Main_uses_89 (by decide) (fun c_21 => ?_) (fun c_21 => ?_)
              · have c_21t := cr_eq c_21
                rw [if_pos c_21] at hM
                refine lv_iconst (v := 1) hx hb nd_Main_uses_96 (by decide) ?_
                refine lv_istore (lv' := [(6, .int (1 : Int32)), (5, .int (pl 2 x1.toNatClampNeg)), (0, .ref (amn 0)), (1, .int x1), (2, .int x2), (3, .long x3)]) hx hb nd_Main_uses_97 hl (by decide) rfl (fun ls hl => ?_)
                refine lv_aload_n hx hb nd_Main_uses_99 rfl (lv_at hl 2 rfl) ?_
                refine va_get (D := (dC, dI)) (ci := 4) (v := .ref (apl 0)) (C := "CeilingRows") (T := nf_Main) (N := 6) hx hb hts nin_Main hown hK hP 0 rfl rfl 0 (by decide) (hts _ tw_138) (fun _ h9 => h9) rfl nd_Main_uses_100 ?_
                refine lv_iload_n hx hb nd_Main_uses_103 rfl (lv_at hl 3 rfl) ?_
                refine lv_iload_n hx hb nd_Main_uses_104 rfl (lv_at hl 4 rfl) ?_
                refine lv_lload_n hx hb nd_Main_uses_105 rfl (lv_at hl 5 rfl) ?_
                refine lv_l2i (v := x3.toInt32) hx hb nd_Main_uses_106 rfl ?_
                have hPc := hP.sub (ws' := cw_Plan cI cZ cO apl pl) [2, 3, 4, 5, 6, 7, 8, 9, 10, 11, 12, 13, 14, 15, 16, 17, 18] rfl
                have hDc := hD.sub (ws' := cw_Plan cI cZ cO apl pl) [2, 3, 4, 5, 6, 7, 8, 9, 10, 11, 12, 13, 14, 15, 16, 17, 18] (by decide) rfl
                have hFc := va_free (wc := cw_Plan cI cZ cO apl pl) hD hS hA [2, 3, 4, 5, 6, 7, 8, 9, 10, 11, 12, 13, 14, 15, 16, 17, 18] rfl
                refine va_callv (va_runV (As := [.int x1, .int x2, .int x3.toInt32]) (rest := []) ⟨hx, hb, hml, hown, hts⟩ (ct_Plan_setUse l dC dI cI cZ cO apl H.size pl x1 x2 x3.toInt32 hR_pl (by omega) (by omega)) (cwV 3 hts (ng_V tw_202 tw_203 tw_204 tw_2 tw_205) rfl rfl rfl (by decide +kernel) ⟨Nat.le_of_ble_eq_true rfl, Nat.le_of_ble_eq_true rfl⟩) ⟨fun a U g mk q => by obtain ⟨q0, q1, qP, qK, qD⟩ := q; exact ⟨q0, q1, qP, va_K.moved (u := U) (U := U.calling g mk a) (Vm.Alike.refl U.vm) qK, qD⟩, va_recv hK hPc (ci := 0) (q0 := 0) rfl rfl, fun U hU hW => ⟨rfl, by rw [hU], by rw [hU]; exact hPc, va_K.moved hW.alike hK, hDc.weaken (fun _ _ _ _ => trivial)⟩⟩ rfl rfl hl.1 rfl (lv_room (Nat.le_of_ble_eq_true rfl)) nd_Main_uses_107 ⟨Nat.zero_le _, Nat.zero_le _⟩) hS (fun q _ h => hFc q h) hFc (fun u t H1 locs ht hvm hw hB hz1 hk1 hS => ?_)
                obtain ⟨hP1, hK1, hD1⟩ := hB
                rw [ht] at hP1
                obtain ⟨plq_23, rfl⟩ : ∃ z, z = u := ⟨_, rfl⟩
                obtain ⟨w_24, hR_25⟩ := hw
                try rw [← w_24] at hM
                obtain ⟨hP, hD⟩ := va_join (wr := cw_Main cI cZ cO amn apl abd alk atr mn lt ++ cw_Board cI cZ cO abd apl bd ++ cw_Locks cI cZ cO alk lk ++ cw_Trial cI cZ cO atr apl atb tr ++ cw_Board cI cZ cO atb apl tb) (w1 := cw_Plan cI cZ cO apl plq_23) hP hD [2, 3, 4, 5, 6, 7, 8, 9, 10, 11, 12, 13, 14, 15, 16, 17, 18] [0, 1, 19, 20, 21, 22, 23, 24, 25, 26, 27, 28, 29, 30, 31, 32, 33, 34, 35, 36, 37, 38, 39, 40, 41, 42, 43, 44, 45, 46, 47, 48] rfl rfl (by decide) (by decide) hk1 hFc hP1 hD1
                have hP := hP.sub (ws' := cw_Main cI cZ cO amn apl abd alk atr mn lt ++ cw_Plan cI cZ cO apl plq_23 ++ cw_Board cI cZ cO abd apl bd ++ cw_Locks cI cZ cO alk lk ++ cw_Trial cI cZ cO atr apl atb tr ++ cw_Board cI cZ cO atb apl tb) [0, 1, 32, 33, 34, 35, 36, 37, 38, 39, 40, 41, 42, 43, 44, 45, 46, 47, 48, 2, 3, 4, 5, 6, 7, 8, 9, 10, 11, 12, 13, 14, 15, 16, 17, 18, 19, 20, 21, 22, 23, 24, 25, 26, 27, 28, 29, 30, 31] rfl
                have hD := hD.sub (ws' := cw_Main cI cZ cO amn apl abd alk atr mn lt ++ cw_Plan cI cZ cO apl plq_23 ++ cw_Board cI cZ cO abd apl bd ++ cw_Locks cI cZ cO alk lk ++ cw_Trial cI cZ cO atr apl atb tr ++ cw_Board cI cZ cO atb apl tb) [0, 1, 32, 33, 34, 35, 36, 37, 38, 39, 40, 41, 42, 43, 44, 45, 46, 47, 48, 2, 3, 4, 5, 6, 7, 8, 9, 10, 11, 12, 13, 14, 15, 16, 17, 18, 19, 20, 21, 22, 23, 24, 25, 26, 27, 28, 29, 30, 31] (by decide) rfl
                generalize H1 = H at hP hS ⊢
                refine lv_iload hx hb nd_Main_uses_110 (lv_at hl 0 rfl) ?_
                exact W.iret (v := (1 : Int32)) hx hb hr (fun t ht hW => ⟨⟨(1 : Int32), plq_23, rfl, ⟨by rw [hT, ← hM], by rw [hT, ← hM], hR_25⟩, by rw [ht]; exact hP, va_K.moved hW.alike hK, hD⟩, hS.F ht⟩) hS.2.2 nd_Main_uses_112
              · have c_21t := cr_ne c_21
                rw [if_neg c_21] at hM
                refine lv_iconst (v := 0) hx hb nd_Main_uses_92 (by decide) ?_
                refine lv_goto (tgt := 97) hx hb nd_Main_uses_93 (by decide) ?_
                refine lv_istore (lv' := [(6, .int (0 : Int32)), (5, .int (pl 2 x1.toNatClampNeg)), (0, .ref (amn 0)), (1, .int x1), (2, .int x2), (3, .long x3)]) hx hb nd_Main_uses_97 hl (by decide) rfl (fun ls hl => ?_)
                refine lv_aload_n hx hb nd_Main_uses_99 rfl (lv_at hl 2 rfl) ?_
                refine va_get (D := (dC, dI)) (ci := 4) (v := .ref (apl 0)) (C := "CeilingRows") (T := nf_Main) (N := 6) hx hb hts nin_Main hown hK hP 0 rfl rfl 0 (by decide) (hts _ tw_138) (fun _ h9 => h9) rfl nd_Main_uses_100 ?_
                refine lv_iload_n hx hb nd_Main_uses_103 rfl (lv_at hl 3 rfl) ?_
                refine lv_iload_n hx hb nd_Main_uses_104 rfl (lv_at hl 4 rfl) ?_
                refine lv_lload_n hx hb nd_Main_uses_105 rfl (lv_at hl 5 rfl) ?_
                refine lv_l2i (v := x3.toInt32) hx hb nd_Main_uses_106 rfl ?_
                have hPc := hP.sub (ws' := cw_Plan cI cZ cO apl pl) [2, 3, 4, 5, 6, 7, 8, 9, 10, 11, 12, 13, 14, 15, 16, 17, 18] rfl
                have hDc := hD.sub (ws' := cw_Plan cI cZ cO apl pl) [2, 3, 4, 5, 6, 7, 8, 9, 10, 11, 12, 13, 14, 15, 16, 17, 18] (by decide) rfl
                have hFc := va_free (wc := cw_Plan cI cZ cO apl pl) hD hS hA [2, 3, 4, 5, 6, 7, 8, 9, 10, 11, 12, 13, 14, 15, 16, 17, 18] rfl
                refine va_callv (va_runV (As := [.int x1, .int x2, .int x3.toInt32]) (rest := []) ⟨hx, hb, hml, hown, hts⟩ (ct_Plan_setUse l dC dI cI cZ cO apl H.size pl x1 x2 x3.toInt32 hR_pl (by omega) (by omega)) (cwV 3 hts (ng_V tw_202 tw_203 tw_204 tw_2 tw_205) rfl rfl rfl (by decide +kernel) ⟨Nat.le_of_ble_eq_true rfl, Nat.le_of_ble_eq_true rfl⟩) ⟨fun a U g mk q => by obtain ⟨q0, q1, qP, qK, qD⟩ := q; exact ⟨q0, q1, qP, va_K.moved (u := U) (U := U.calling g mk a) (Vm.Alike.refl U.vm) qK, qD⟩, va_recv hK hPc (ci := 0) (q0 := 0) rfl rfl, fun U hU hW => ⟨rfl, by rw [hU], by rw [hU]; exact hPc, va_K.moved hW.alike hK, hDc.weaken (fun _ _ _ _ => trivial)⟩⟩ rfl rfl hl.1 rfl (lv_room (Nat.le_of_ble_eq_true rfl)) nd_Main_uses_107 ⟨Nat.zero_le _, Nat.zero_le _⟩) hS (fun q _ h => hFc q h) hFc (fun u t H1 locs ht hvm hw hB hz1 hk1 hS => ?_)
                obtain ⟨hP1, hK1, hD1⟩ := hB
                rw [ht] at hP1
                obtain ⟨plq_27, rfl⟩ : ∃ z, z = u := ⟨_, rfl⟩
                obtain ⟨w_28, hR_29⟩ := hw
                try rw [← w_28] at hM
                obtain ⟨hP, hD⟩ := va_join (wr := cw_Main cI cZ cO amn apl abd alk atr mn lt ++ cw_Board cI cZ cO abd apl bd ++ cw_Locks cI cZ cO alk lk ++ cw_Trial cI cZ cO atr apl atb tr ++ cw_Board cI cZ cO atb apl tb) (w1 := cw_Plan cI cZ cO apl plq_27) hP hD [2, 3, 4, 5, 6, 7, 8, 9, 10, 11, 12, 13, 14, 15, 16, 17, 18] [0, 1, 19, 20, 21, 22, 23, 24, 25, 26, 27, 28, 29, 30, 31, 32, 33, 34, 35, 36, 37, 38, 39, 40, 41, 42, 43, 44, 45, 46, 47, 48] rfl rfl (by decide) (by decide) hk1 hFc hP1 hD1
                have hP := hP.sub (ws' := cw_Main cI cZ cO amn apl abd alk atr mn lt ++ cw_Plan cI cZ cO apl plq_27 ++ cw_Board cI cZ cO abd apl bd ++ cw_Locks cI cZ cO alk lk ++ cw_Trial cI cZ cO atr apl atb tr ++ cw_Board cI cZ cO atb apl tb) [0, 1, 32, 33, 34, 35, 36, 37, 38, 39, 40, 41, 42, 43, 44, 45, 46, 47, 48, 2, 3, 4, 5, 6, 7, 8, 9, 10, 11, 12, 13, 14, 15, 16, 17, 18, 19, 20, 21, 22, 23, 24, 25, 26, 27, 28, 29, 30, 31] rfl
                have hD := hD.sub (ws' := cw_Main cI cZ cO amn apl abd alk atr mn lt ++ cw_Plan cI cZ cO apl plq_27 ++ cw_Board cI cZ cO abd apl bd ++ cw_Locks cI cZ cO alk lk ++ cw_Trial cI cZ cO atr apl atb tr ++ cw_Board cI cZ cO atb apl tb) [0, 1, 32, 33, 34, 35, 36, 37, 38, 39, 40, 41, 42, 43, 44, 45, 46, 47, 48, 2, 3, 4, 5, 6, 7, 8, 9, 10, 11, 12, 13, 14, 15, 16, 17, 18, 19, 20, 21, 22, 23, 24, 25, 26, 27, 28, 29, 30, 31] (by decide) rfl
                generalize H1 = H at hP hS ⊢
                refine lv_iload hx hb nd_Main_uses_110 (lv_at hl 0 rfl) ?_
                exact W.iret (v := (0 : Int32)) hx hb hr (fun t ht hW => ⟨⟨(0 : Int32), plq_27, rfl, ⟨by rw [hT, ← hM], by rw [hT, ← hM], hR_29⟩, by rw [ht]; exact hP, va_K.moved hW.alike hK, hD⟩, hS.F ht⟩) hS.2.2 nd_Main_uses_112
            · have c_18t := cr_ne c_18
              rw [if_neg c_18] at hM
              refine lv_bipush (v := -3) hx hb nd_Main_uses_77 (by decide) ?_
              exact W.iret (v := (-3 : Int32)) hx hb hr (fun t ht hW => ⟨⟨(-3 : Int32), pl, rfl, ⟨by rw [hT, ← hM], by rw [hT, ← hM], hR_pl⟩, by rw [ht]; exact hP, va_K.moved hW.alike hK, hD⟩, hS.F ht⟩) hS.2.2 nd_Main_uses_79
        · have c_10t := cr_nle c_10
          rw [if_neg c_10] at hM
          refine lv_bipush (v := -2) hx hb nd_Main_uses_38 (by decide) ?_
          exact W.iret (v := (-2 : Int32)) hx hb hr (fun t ht hW => ⟨⟨(-2 : Int32), pl, rfl, ⟨by rw [hT, ← hM], by rw [hT, ← hM], hR_pl⟩, by rw [ht]; exact hP, va_K.moved hW.alike hK, hD⟩, hS.F ht⟩) hS.2.2 nd_Main_uses_40
    · have c_8t := cr_eq c_8
      rw [if_pos c_8] at hM
      refine lv_iconst (v := -1) hx hb nd_Main_uses_22 (by decide) ?_
      exact W.iret (v := (-1 : Int32)) hx hb hr (fun t ht hW => ⟨⟨(-1 : Int32), pl, rfl, ⟨by rw [hT, ← hM], by rw [hT, ← hM], hR_pl⟩, by rw [ht]; exact hP, va_K.moved hW.alike hK, hD⟩, hS.F ht⟩) hS.2.2 nd_Main_uses_23

theorem nd_Main_ceiling_0 : decode prog_1_method_5_code 0 = .ok (.aload_n 0, 1) := by decide +kernel
theorem nd_Main_ceiling_1 : decode prog_1_method_5_code 1 = .ok (.getfield 12, 3) := by decide +kernel
theorem nd_Main_ceiling_4 : decode prog_1_method_5_code 4 = .ok (.iload_n 1, 1) := by decide +kernel
theorem nd_Main_ceiling_5 : decode prog_1_method_5_code 5 = .ok (.invokevirtual 69, 3) := by decide +kernel
theorem nd_Main_ceiling_8 : decode prog_1_method_5_code 8 = .ok (.ifCond .eq (15), 3) := by decide +kernel
theorem nd_Main_ceiling_11 : decode prog_1_method_5_code 11 = .ok (.aload_n 0, 1) := by decide +kernel
theorem nd_Main_ceiling_12 : decode prog_1_method_5_code 12 = .ok (.getfield 12, 3) := by decide +kernel
theorem nd_Main_ceiling_15 : decode prog_1_method_5_code 15 = .ok (.getfield 92, 3) := by decide +kernel
theorem nd_Main_ceiling_18 : decode prog_1_method_5_code 18 = .ok (.iload_n 1, 1) := by decide +kernel
theorem nd_Main_ceiling_19 : decode prog_1_method_5_code 19 = .ok (.iaload, 1) := by decide +kernel
theorem nd_Main_ceiling_20 : decode prog_1_method_5_code 20 = .ok (.goto (4), 3) := by decide +kernel
theorem nd_Main_ceiling_23 : decode prog_1_method_5_code 23 = .ok (.iconst (-1), 1) := by decide +kernel
theorem nd_Main_ceiling_24 : decode prog_1_method_5_code 24 = .ok (.ireturn, 1) := by decide +kernel
def md_Main_ceiling (mn : cr_S) (lt : Int64) (pl : cr_S) (bd : cr_S) (lk : cr_S) (tr : cr_S) (tb : cr_S) (x1 : Int32) : Int32 :=
  (if (md_Plan_hasResource pl x1) = 0 then (-1 : Int32) else (pl 3 x1.toNatClampNeg))
abbrev pq_Main_ceiling (dC : Nat → ClassId) (dI : Nat → Nat → Nat) (cI cZ cO : ClassId) (amn apl abd alk atr atb : Nat → Nat) (mn : cr_S) (lt : Int64) (pl : cr_S) (bd : cr_S) (lk : cr_S) (tr : cr_S) (tb : cr_S) (x1 : Int32) (A : Nat → Prop) : Array Value → State → Outcome → State → Prop :=
  va_Qi (fun (r : Int32) (_ : Unit) => r = md_Main_ceiling mn lt pl bd lk tr tb x1) (fun (_ : Unit) t => va_P (dC, dI) vwCl (cw_Main cI cZ cO amn apl abd alk atr mn lt ++ cw_Plan cI cZ cO apl pl ++ cw_Board cI cZ cO abd apl bd ++ cw_Locks cI cZ cO alk lk ++ cw_Trial cI cZ cO atr apl atb tr ++ cw_Board cI cZ cO atb apl tb) t.heap ∧ va_K (dC, dI) vwCl [(cI, .int), (cZ, .boolean), (cO, .array .int)] t ∧ va_D A (cw_Main cI cZ cO amn apl abd alk atr mn lt ++ cw_Plan cI cZ cO apl pl ++ cw_Board cI cZ cO abd apl bd ++ cw_Locks cI cZ cO alk lk ++ cw_Trial cI cZ cO atr apl atb tr ++ cw_Board cI cZ cO atb apl tb)) A
set_option maxHeartbeats 4000000 in
set_option maxRecDepth 100000 in
theorem ct_Main_ceiling (l : Launch) (dC : Nat → ClassId) (dI : Nat → Nat → Nat) (cI cZ cO : ClassId) (amn apl abd alk atr atb : Nat → Nat) (sz : Nat) (mn : cr_S) (lt : Int64) (pl : cr_S) (bd : cr_S) (lk : cr_S) (tr : cr_S) (tb : cr_S) (x1 : Int32) (hR_tb : cr_RBoard tb) (hR_lk : cr_RLocks lk) (hR_bd : cr_RBoard bd) (hR_pl : cr_RPlan pl) : Met l ny_Main_ceiling nw_Main_ceiling ({ frames := 1, cells := 0, slots := 0, locals := 21 } : Room) (va_Pc [.ref (amn 0), .int x1] (fun U => U.heap.size = sz ∧ va_P (dC, dI) vwCl (cw_Main cI cZ cO amn apl abd alk atr mn lt ++ cw_Plan cI cZ cO apl pl ++ cw_Board cI cZ cO abd apl bd ++ cw_Locks cI cZ cO alk lk ++ cw_Trial cI cZ cO atr apl atb tr ++ cw_Board cI cZ cO atb apl tb) U.heap ∧ va_K (dC, dI) vwCl [(cI, .int), (cZ, .boolean), (cO, .array .int)] U ∧ va_D (fun _ => True) (cw_Main cI cZ cO amn apl abd alk atr mn lt ++ cw_Plan cI cZ cO apl pl ++ cw_Board cI cZ cO abd apl bd ++ cw_Locks cI cZ cO alk lk ++ cw_Trial cI cZ cO atr apl atb tr ++ cw_Board cI cZ cO atb apl tb))) (pq_Main_ceiling dC dI cI cZ cO amn apl abd alk atr atb mn lt pl bd lk tr tb x1 (va_A (cw_Main cI cZ cO amn apl abd alk atr mn lt ++ cw_Plan cI cZ cO apl pl ++ cw_Board cI cZ cO abd apl bd ++ cw_Locks cI cZ cO alk lk ++ cw_Trial cI cZ cO atr apl atb tr ++ cw_Board cI cZ cO atb apl tb) sz)) 0 0 (va_A (cw_Main cI cZ cO amn apl abd alk atr mn lt ++ cw_Plan cI cZ cO apl pl ++ cw_Board cI cZ cO abd apl bd ++ cw_Locks cI cZ cO alk lk ++ cw_Trial cI cZ cO atr apl atb tr ++ cw_Board cI cZ cO atb apl tb) sz) := by
  refine Met.ofW (cc := prog_1_method_5_code) (maxL := 2) (ret := (some .int)) (by decide) rfl ?_
  intro p e s m args below meth c s₁ B hml hv
  obtain ⟨rfl, hsz, hP, hK, hD0⟩ := hv
  have hx := B.exec
  have hb := B.bytes
  have hr := B.returns
  have hts0 := atoms_spec (ws := nw_Main_ceiling) B.pre
  have hts : ∀ w ∈ ng_tbl, w.before ([.ref (amn 0), .int x1] : List Value).toArray s = true := fun w h => hts0 w (List.mem_cons_of_mem _ h)
  have hown : s.vm.findClass "CeilingRows" = some m.cls := findClass_of_methodNamed B.named
  have hlocks := B.notSynchronized
  subst hsz
  have hD := hD0.self (sz := s.heap.size)
  generalize hAe : va_A (cw_Main cI cZ cO amn apl abd alk atr mn lt ++ cw_Plan cI cZ cO apl pl ++ cw_Board cI cZ cO abd apl bd ++ cw_Locks cI cZ cO alk lk ++ cw_Trial cI cZ cO atr apl atb tr ++ cw_Board cI cZ cO atb apl tb) s.heap.size = A at hD ⊢
  have hA : ∀ q : Nat, s.heap.size ≤ q → A q := fun q h => by rw [← hAe]; exact Or.inr h
  have hS : va_S A s.heap s.heap [] := va_S.rf
  have hP : va_P (dC, dI) vwCl (cw_Main cI cZ cO amn apl abd alk atr mn lt ++ cw_Plan cI cZ cO apl pl ++ cw_Board cI cZ cO abd apl bd ++ cw_Locks cI cZ cO alk lk ++ cw_Trial cI cZ cO atr apl atb tr ++ cw_Board cI cZ cO atb apl tb) s.heap := hP
  have hl := lv_entry ([.ref (amn 0), .int x1]) (n := 2) (Nat.le_of_ble_eq_true rfl)
  rw [lg_entry_eq]
  generalize (lg_sl ([.ref (amn 0), .int x1]) ++ List.replicate (2 - (lg_sl ([.ref (amn 0), .int x1])).length) Slot.unset).toArray = ls at hl ⊢
  have hl : lv_has ls 2 [(0, .ref (amn 0)), (1, .int x1)] := hl
  have k_m1 : (-1 : Int32).toInt = -1 := by decide
  have k_0 : (0 : Int32).toInt = 0 := by decide
  obtain ⟨tgt, hT⟩ : ∃ z, md_Main_ceiling mn lt pl bd lk tr tb x1 = z := ⟨_, rfl⟩
  have hM := hT
  unfold md_Main_ceiling at hM
  refine lv_aload_n hx hb nd_Main_ceiling_0 rfl (lv_at hl 0 rfl) ?_
  refine va_get (D := (dC, dI)) (ci := 4) (v := .ref (apl 0)) (C := "CeilingRows") (T := nf_Main) (N := 6) hx hb hts nin_Main hown hK hP 0 rfl rfl 0 (by decide) (hts _ tw_138) (fun _ h9 => h9) rfl nd_Main_ceiling_1 ?_
  refine lv_iload_n hx hb nd_Main_ceiling_4 rfl (lv_at hl 1 rfl) ?_
  have hPc := hP.sub (ws' := cw_Plan cI cZ cO apl pl) [2, 3, 4, 5, 6, 7, 8, 9, 10, 11, 12, 13, 14, 15, 16, 17, 18] rfl
  have hDc := hD.sub (ws' := cw_Plan cI cZ cO apl pl) [2, 3, 4, 5, 6, 7, 8, 9, 10, 11, 12, 13, 14, 15, 16, 17, 18] (by decide) rfl
  have hFc := va_free (wc := cw_Plan cI cZ cO apl pl) hD hS hA [2, 3, 4, 5, 6, 7, 8, 9, 10, 11, 12, 13, 14, 15, 16, 17, 18] rfl
  refine va_calli (va_runV (As := [.int x1]) (rest := []) ⟨hx, hb, hml, hown, hts⟩ (ct_Plan_hasResource l dC dI cI cZ cO apl s.heap.size pl x1 hR_pl) (cwV 1 hts (ng_V tw_185 tw_186 tw_187 tw_2 tw_188) rfl rfl rfl (by decide +kernel) ⟨Nat.le_of_ble_eq_true rfl, Nat.le_of_ble_eq_true rfl⟩) ⟨fun a U g mk q => by obtain ⟨q0, q1, qP, qK, qD⟩ := q; exact ⟨q0, q1, qP, va_K.moved (u := U) (U := U.calling g mk a) (Vm.Alike.refl U.vm) qK, qD⟩, va_recv hK hPc (ci := 0) (q0 := 0) rfl rfl, fun U hU hW => ⟨rfl, by rw [hU], by rw [hU]; exact hPc, va_K.moved hW.alike hK, hDc.weaken (fun _ _ _ _ => trivial)⟩⟩ rfl rfl hl.1 rfl (lv_room (Nat.le_of_ble_eq_true rfl)) nd_Main_ceiling_5 ⟨Nat.zero_le _, Nat.zero_le _⟩) hS (fun q _ h => hFc q h) hFc (fun r_1 u t H1 locs ht hvm hw hB hz1 hk1 hS => ?_)
  obtain ⟨hP1, hK1, hD1⟩ := hB
  rw [ht] at hP1
  obtain ⟨w_2, f_3⟩ := hw
  try rw [← w_2] at hM
  obtain ⟨hP, hD⟩ := va_join (wr := cw_Main cI cZ cO amn apl abd alk atr mn lt ++ cw_Board cI cZ cO abd apl bd ++ cw_Locks cI cZ cO alk lk ++ cw_Trial cI cZ cO atr apl atb tr ++ cw_Board cI cZ cO atb apl tb) (w1 := cw_Plan cI cZ cO apl pl) hP hD [2, 3, 4, 5, 6, 7, 8, 9, 10, 11, 12, 13, 14, 15, 16, 17, 18] [0, 1, 19, 20, 21, 22, 23, 24, 25, 26, 27, 28, 29, 30, 31, 32, 33, 34, 35, 36, 37, 38, 39, 40, 41, 42, 43, 44, 45, 46, 47, 48] rfl rfl (by decide) (by decide) hk1 hFc hP1 hD1
  have hP := hP.sub (ws' := cw_Main cI cZ cO amn apl abd alk atr mn lt ++ cw_Plan cI cZ cO apl pl ++ cw_Board cI cZ cO abd apl bd ++ cw_Locks cI cZ cO alk lk ++ cw_Trial cI cZ cO atr apl atb tr ++ cw_Board cI cZ cO atb apl tb) [0, 1, 32, 33, 34, 35, 36, 37, 38, 39, 40, 41, 42, 43, 44, 45, 46, 47, 48, 2, 3, 4, 5, 6, 7, 8, 9, 10, 11, 12, 13, 14, 15, 16, 17, 18, 19, 20, 21, 22, 23, 24, 25, 26, 27, 28, 29, 30, 31] rfl
  have hD := hD.sub (ws' := cw_Main cI cZ cO amn apl abd alk atr mn lt ++ cw_Plan cI cZ cO apl pl ++ cw_Board cI cZ cO abd apl bd ++ cw_Locks cI cZ cO alk lk ++ cw_Trial cI cZ cO atr apl atb tr ++ cw_Board cI cZ cO atb apl tb) [0, 1, 32, 33, 34, 35, 36, 37, 38, 39, 40, 41, 42, 43, 44, 45, 46, 47, 48, 2, 3, 4, 5, 6, 7, 8, 9, 10, 11, 12, 13, 14, 15, 16, 17, 18, 19, 20, 21, 22, 23, 24, 25, 26, 27, 28, 29, 30, 31] (by decide) rfl
  generalize H1 = H at hP hS ⊢
  refine lv_if_eq (tgt := 23) hx hb nd_Main_ceiling_8 (by decide) (fun c_4 => ?_) (fun c_4 => ?_)
  · have c_4t := cr_eq c_4
    rw [if_pos c_4] at hM
    refine lv_iconst (v := -1) hx hb nd_Main_ceiling_23 (by decide) ?_
    exact W.iret (v := (-1 : Int32)) hx hb hr (fun t ht hW => ⟨⟨(-1 : Int32), (), rfl, by rw [hT, ← hM], by rw [ht]; exact hP, va_K.moved hW.alike hK, hD⟩, hS.F ht⟩) hS.2.2 nd_Main_ceiling_24
  · have c_4t := cr_ne c_4
    rw [if_neg c_4] at hM
    refine lv_aload_n hx hb nd_Main_ceiling_11 rfl (lv_at hl 0 rfl) ?_
    refine va_get (D := (dC, dI)) (ci := 4) (v := .ref (apl 0)) (C := "CeilingRows") (T := nf_Main) (N := 6) hx hb hts nin_Main hown hK hP 0 rfl rfl 0 (by decide) (hts _ tw_138) (fun _ h9 => h9) rfl nd_Main_ceiling_12 ?_
    refine va_get (D := (dC, dI)) (ci := 0) (v := .ref (apl 3)) (C := "CeilingRows$Plan") (T := nf_Plan) (N := 7) hx hb hts nin_Plan hown hK hP 2 rfl rfl 4 (by decide) (hts _ tw_40) (fun _ h9 => h9) rfl nd_Main_ceiling_15 ?_
    refine lv_iload_n hx hb nd_Main_ceiling_18 rfl (lv_at hl 1 rfl) ?_
    have b_5 : vp_in x1 9 := vp_in_iff.mpr (by omega)
    refine va_iald hx hb hK hP 5 0 rfl rfl b_5 nd_Main_ceiling_19 ?_
    refine lv_goto (tgt := 24) hx hb nd_Main_ceiling_20 (by decide) ?_
    exact W.iret (v := (pl 3 x1.toNatClampNeg)) hx hb hr (fun t ht hW => ⟨⟨(pl 3 x1.toNatClampNeg), (), rfl, by rw [hT, ← hM], by rw [ht]; exact hP, va_K.moved hW.alike hK, hD⟩, hS.F ht⟩) hS.2.2 nd_Main_ceiling_24

theorem nd_Main_step_0 : decode prog_1_method_6_code 0 = .ok (.iload_n 2, 1) := by decide +kernel
theorem nd_Main_step_1 : decode prog_1_method_6_code 1 = .ok (.iconst 1, 1) := by decide +kernel
theorem nd_Main_step_2 : decode prog_1_method_6_code 2 = .ok (.if_icmp .eq (8), 3) := by decide +kernel
theorem nd_Main_step_5 : decode prog_1_method_6_code 5 = .ok (.iload_n 2, 1) := by decide +kernel
theorem nd_Main_step_6 : decode prog_1_method_6_code 6 = .ok (.iconst 2, 1) := by decide +kernel
theorem nd_Main_step_7 : decode prog_1_method_6_code 7 = .ok (.if_icmp .ne (7), 3) := by decide +kernel
theorem nd_Main_step_10 : decode prog_1_method_6_code 10 = .ok (.iconst 1, 1) := by decide +kernel
theorem nd_Main_step_11 : decode prog_1_method_6_code 11 = .ok (.goto (4), 3) := by decide +kernel
theorem nd_Main_step_14 : decode prog_1_method_6_code 14 = .ok (.iconst 0, 1) := by decide +kernel
theorem nd_Main_step_15 : decode prog_1_method_6_code 15 = .ok (.istore 6, 2) := by decide +kernel
theorem nd_Main_step_17 : decode prog_1_method_6_code 17 = .ok (.aload_n 0, 1) := by decide +kernel
theorem nd_Main_step_18 : decode prog_1_method_6_code 18 = .ok (.getfield 12, 3) := by decide +kernel
theorem nd_Main_step_21 : decode prog_1_method_6_code 21 = .ok (.iload_n 1, 1) := by decide +kernel
theorem nd_Main_step_22 : decode prog_1_method_6_code 22 = .ok (.invokevirtual 66, 3) := by decide +kernel
theorem nd_Main_step_25 : decode prog_1_method_6_code 25 = .ok (.ifCond .eq (19), 3) := by decide +kernel
theorem nd_Main_step_28 : decode prog_1_method_6_code 28 = .ok (.iload 6, 2) := by decide +kernel
theorem nd_Main_step_30 : decode prog_1_method_6_code 30 = .ok (.ifCond .eq (16), 3) := by decide +kernel
theorem nd_Main_step_33 : decode prog_1_method_6_code 33 = .ok (.aload_n 0, 1) := by decide +kernel
theorem nd_Main_step_34 : decode prog_1_method_6_code 34 = .ok (.getfield 12, 3) := by decide +kernel
theorem nd_Main_step_37 : decode prog_1_method_6_code 37 = .ok (.iload_n 3, 1) := by decide +kernel
theorem nd_Main_step_38 : decode prog_1_method_6_code 38 = .ok (.invokevirtual 69, 3) := by decide +kernel
theorem nd_Main_step_41 : decode prog_1_method_6_code 41 = .ok (.ifCond .ne (5), 3) := by decide +kernel
theorem nd_Main_step_44 : decode prog_1_method_6_code 44 = .ok (.iconst (-1), 1) := by decide +kernel
theorem nd_Main_step_45 : decode prog_1_method_6_code 45 = .ok (.ireturn, 1) := by decide +kernel
theorem nd_Main_step_46 : decode prog_1_method_6_code 46 = .ok (.iload_n 2, 1) := by decide +kernel
theorem nd_Main_step_47 : decode prog_1_method_6_code 47 = .ok (.ifCond .lt (27), 3) := by decide +kernel
theorem nd_Main_step_50 : decode prog_1_method_6_code 50 = .ok (.iload_n 2, 1) := by decide +kernel
theorem nd_Main_step_51 : decode prog_1_method_6_code 51 = .ok (.iconst 5, 1) := by decide +kernel
theorem nd_Main_step_52 : decode prog_1_method_6_code 52 = .ok (.if_icmp .gt (22), 3) := by decide +kernel
theorem nd_Main_step_55 : decode prog_1_method_6_code 55 = .ok (.lload 4, 2) := by decide +kernel
theorem nd_Main_step_57 : decode prog_1_method_6_code 57 = .ok (.aload_n 0, 1) := by decide +kernel
theorem nd_Main_step_58 : decode prog_1_method_6_code 58 = .ok (.getfield 43, 3) := by decide +kernel
theorem nd_Main_step_61 : decode prog_1_method_6_code 61 = .ok (.lcmp, 1) := by decide +kernel
theorem nd_Main_step_62 : decode prog_1_method_6_code 62 = .ok (.ifCond .lt (12), 3) := by decide +kernel
theorem nd_Main_step_65 : decode prog_1_method_6_code 65 = .ok (.lload 4, 2) := by decide +kernel
theorem nd_Main_step_67 : decode prog_1_method_6_code 67 = .ok (.ldc2_w 95, 3) := by decide +kernel
theorem nd_Main_step_70 : decode prog_1_method_6_code 70 = .ok (.lcmp, 1) := by decide +kernel
theorem nd_Main_step_71 : decode prog_1_method_6_code 71 = .ok (.ifCond .le (6), 3) := by decide +kernel
theorem nd_Main_step_74 : decode prog_1_method_6_code 74 = .ok (.bipush (-2), 2) := by decide +kernel
theorem nd_Main_step_76 : decode prog_1_method_6_code 76 = .ok (.ireturn, 1) := by decide +kernel
theorem nd_Main_step_77 : decode prog_1_method_6_code 77 = .ok (.aload_n 0, 1) := by decide +kernel
theorem nd_Main_step_78 : decode prog_1_method_6_code 78 = .ok (.iload_n 1, 1) := by decide +kernel
theorem nd_Main_step_79 : decode prog_1_method_6_code 79 = .ok (.iload_n 2, 1) := by decide +kernel
theorem nd_Main_step_80 : decode prog_1_method_6_code 80 = .ok (.iload_n 3, 1) := by decide +kernel
theorem nd_Main_step_81 : decode prog_1_method_6_code 81 = .ok (.invokevirtual 97, 3) := by decide +kernel
theorem nd_Main_step_84 : decode prog_1_method_6_code 84 = .ok (.istore 7, 2) := by decide +kernel
theorem nd_Main_step_86 : decode prog_1_method_6_code 86 = .ok (.iload 7, 2) := by decide +kernel
theorem nd_Main_step_88 : decode prog_1_method_6_code 88 = .ok (.ifCond .ge (10), 3) := by decide +kernel
theorem nd_Main_step_91 : decode prog_1_method_6_code 91 = .ok (.iload 7, 2) := by decide +kernel
theorem nd_Main_step_93 : decode prog_1_method_6_code 93 = .ok (.bipush (-14), 2) := by decide +kernel
theorem nd_Main_step_95 : decode prog_1_method_6_code 95 = .ok (.if_icmp .ne (9), 3) := by decide +kernel
theorem nd_Main_step_98 : decode prog_1_method_6_code 98 = .ok (.aload_n 0, 1) := by decide +kernel
theorem nd_Main_step_99 : decode prog_1_method_6_code 99 = .ok (.lload 4, 2) := by decide +kernel
theorem nd_Main_step_101 : decode prog_1_method_6_code 101 = .ok (.putfield 43, 3) := by decide +kernel
theorem nd_Main_step_104 : decode prog_1_method_6_code 104 = .ok (.iload 7, 2) := by decide +kernel
theorem nd_Main_step_106 : decode prog_1_method_6_code 106 = .ok (.ireturn, 1) := by decide +kernel
def md_Main_step (mn : cr_S) (lt : Int64) (pl : cr_S) (bd : cr_S) (lk : cr_S) (tr : cr_S) (tb : cr_S) (x1 : Int32) (x2 : Int32) (x3 : Int32) (x4 : Int64) : Int32 × cr_S × Int64 × cr_S :=
  (if x2 = (1 : Int32) then (if (md_Plan_hasTask pl x1) = 0 then ((-1 : Int32), mn, lt, bd) else (if (md_Plan_hasResource pl x3) = 0 then ((-1 : Int32), mn, lt, bd) else (if x2 < 0 then ((-2 : Int32), mn, lt, bd) else (if (5 : Int32) < x2 then ((-2 : Int32), mn, lt, bd) else (if (lg_cmp x4 lt) < 0 then ((-2 : Int32), mn, lt, bd) else (if (lg_cmp x4 (1000000000 : Int64)) ≤ 0 then (if 0 ≤ ((md_Main_perform mn lt pl bd lk tr tb x1 x2 x3).1) then (((md_Main_perform mn lt pl bd lk tr tb x1 x2 x3).1), ((md_Main_perform mn lt pl bd lk tr tb x1 x2 x3).2.1), x4, ((md_Main_perform mn lt pl bd lk tr tb x1 x2 x3).2.2.2)) else (if ((md_Main_perform mn lt pl bd lk tr tb x1 x2 x3).1) = (-14 : Int32) then (((md_Main_perform mn lt pl bd lk tr tb x1 x2 x3).1), ((md_Main_perform mn lt pl bd lk tr tb x1 x2 x3).2.1), x4, ((md_Main_perform mn lt pl bd lk tr tb x1 x2 x3).2.2.2)) else (((md_Main_perform mn lt pl bd lk tr tb x1 x2 x3).1), ((md_Main_perform mn lt pl bd lk tr tb x1 x2 x3).2.1), ((md_Main_perform mn lt pl bd lk tr tb x1 x2 x3).2.2.1), ((md_Main_perform mn lt pl bd lk tr tb x1 x2 x3).2.2.2)))) else ((-2 : Int32), mn, lt, bd))))))) else (if x2 = (2 : Int32) then (if (md_Plan_hasTask pl x1) = 0 then ((-1 : Int32), mn, lt, bd) else (if (md_Plan_hasResource pl x3) = 0 then ((-1 : Int32), mn, lt, bd) else (if x2 < 0 then ((-2 : Int32), mn, lt, bd) else (if (5 : Int32) < x2 then ((-2 : Int32), mn, lt, bd) else (if (lg_cmp x4 lt) < 0 then ((-2 : Int32), mn, lt, bd) else (if (lg_cmp x4 (1000000000 : Int64)) ≤ 0 then (if 0 ≤ ((md_Main_perform mn lt pl bd lk tr tb x1 x2 x3).1) then (((md_Main_perform mn lt pl bd lk tr tb x1 x2 x3).1), ((md_Main_perform mn lt pl bd lk tr tb x1 x2 x3).2.1), x4, ((md_Main_perform mn lt pl bd lk tr tb x1 x2 x3).2.2.2)) else (if ((md_Main_perform mn lt pl bd lk tr tb x1 x2 x3).1) = (-14 : Int32) then (((md_Main_perform mn lt pl bd lk tr tb x1 x2 x3).1), ((md_Main_perform mn lt pl bd lk tr tb x1 x2 x3).2.1), x4, ((md_Main_perform mn lt pl bd lk tr tb x1 x2 x3).2.2.2)) else (((md_Main_perform mn lt pl bd lk tr tb x1 x2 x3).1), ((md_Main_perform mn lt pl bd lk tr tb x1 x2 x3).2.1), ((md_Main_perform mn lt pl bd lk tr tb x1 x2 x3).2.2.1), ((md_Main_perform mn lt pl bd lk tr tb x1 x2 x3).2.2.2)))) else ((-2 : Int32), mn, lt, bd))))))) else (if (md_Plan_hasTask pl x1) = 0 then ((-1 : Int32), mn, lt, bd) else (if x2 < 0 then ((-2 : Int32), mn, lt, bd) else (if (5 : Int32) < x2 then ((-2 : Int32), mn, lt, bd) else (if (lg_cmp x4 lt) < 0 then ((-2 : Int32), mn, lt, bd) else (if (lg_cmp x4 (1000000000 : Int64)) ≤ 0 then (if 0 ≤ ((md_Main_perform mn lt pl bd lk tr tb x1 x2 x3).1) then (((md_Main_perform mn lt pl bd lk tr tb x1 x2 x3).1), ((md_Main_perform mn lt pl bd lk tr tb x1 x2 x3).2.1), x4, ((md_Main_perform mn lt pl bd lk tr tb x1 x2 x3).2.2.2)) else (if ((md_Main_perform mn lt pl bd lk tr tb x1 x2 x3).1) = (-14 : Int32) then (((md_Main_perform mn lt pl bd lk tr tb x1 x2 x3).1), ((md_Main_perform mn lt pl bd lk tr tb x1 x2 x3).2.1), x4, ((md_Main_perform mn lt pl bd lk tr tb x1 x2 x3).2.2.2)) else (((md_Main_perform mn lt pl bd lk tr tb x1 x2 x3).1), ((md_Main_perform mn lt pl bd lk tr tb x1 x2 x3).2.1), ((md_Main_perform mn lt pl bd lk tr tb x1 x2 x3).2.2.1), ((md_Main_perform mn lt pl bd lk tr tb x1 x2 x3).2.2.2)))) else ((-2 : Int32), mn, lt, bd))))))))
abbrev pq_Main_step (dC : Nat → ClassId) (dI : Nat → Nat → Nat) (cI cZ cO : ClassId) (amn apl abd alk atr atb : Nat → Nat) (mn : cr_S) (lt : Int64) (pl : cr_S) (bd : cr_S) (lk : cr_S) (tr : cr_S) (tb : cr_S) (x1 : Int32) (x2 : Int32) (x3 : Int32) (x4 : Int64) (A : Nat → Prop) : Array Value → State → Outcome → State → Prop :=
  va_Qi (fun (r : Int32) (u : cr_S × Int64 × cr_S) => r = (md_Main_step mn lt pl bd lk tr tb x1 x2 x3 x4).1 ∧ u.1 = (md_Main_step mn lt pl bd lk tr tb x1 x2 x3 x4).2.1 ∧ u.2.1 = (md_Main_step mn lt pl bd lk tr tb x1 x2 x3 x4).2.2.1 ∧ u.2.2 = (md_Main_step mn lt pl bd lk tr tb x1 x2 x3 x4).2.2.2 ∧ cr_RBoard u.2.2) (fun (u : cr_S × Int64 × cr_S) t => va_P (dC, dI) vwCl (cw_Main cI cZ cO amn apl abd alk atr u.1 u.2.1 ++ cw_Plan cI cZ cO apl pl ++ cw_Board cI cZ cO abd apl u.2.2 ++ cw_Locks cI cZ cO alk lk ++ cw_Trial cI cZ cO atr apl atb tr ++ cw_Board cI cZ cO atb apl tb) t.heap ∧ va_K (dC, dI) vwCl [(cI, .int), (cZ, .boolean), (cO, .array .int)] t ∧ va_D A (cw_Main cI cZ cO amn apl abd alk atr u.1 u.2.1 ++ cw_Plan cI cZ cO apl pl ++ cw_Board cI cZ cO abd apl u.2.2 ++ cw_Locks cI cZ cO alk lk ++ cw_Trial cI cZ cO atr apl atb tr ++ cw_Board cI cZ cO atb apl tb)) A
set_option maxHeartbeats 4000000 in
set_option maxRecDepth 100000 in
theorem ct_Main_step (l : Launch) (dC : Nat → ClassId) (dI : Nat → Nat → Nat) (cI cZ cO : ClassId) (amn apl abd alk atr atb : Nat → Nat) (sz : Nat) (mn : cr_S) (lt : Int64) (pl : cr_S) (bd : cr_S) (lk : cr_S) (tr : cr_S) (tb : cr_S) (x1 : Int32) (x2 : Int32) (x3 : Int32) (x4 : Int64) (hR_tb : cr_RBoard tb) (hR_lk : cr_RLocks lk) (hR_bd : cr_RBoard bd) (hR_pl : cr_RPlan pl) : Met l ny_Main_step nw_Main_step ({ frames := 6, cells := 0, slots := 0, locals := 136 } : Room) (va_Pc [.ref (amn 0), .int x1, .int x2, .int x3, .long x4] (fun U => U.heap.size = sz ∧ va_P (dC, dI) vwCl (cw_Main cI cZ cO amn apl abd alk atr mn lt ++ cw_Plan cI cZ cO apl pl ++ cw_Board cI cZ cO abd apl bd ++ cw_Locks cI cZ cO alk lk ++ cw_Trial cI cZ cO atr apl atb tr ++ cw_Board cI cZ cO atb apl tb) U.heap ∧ va_K (dC, dI) vwCl [(cI, .int), (cZ, .boolean), (cO, .array .int)] U ∧ va_D (fun _ => True) (cw_Main cI cZ cO amn apl abd alk atr mn lt ++ cw_Plan cI cZ cO apl pl ++ cw_Board cI cZ cO abd apl bd ++ cw_Locks cI cZ cO alk lk ++ cw_Trial cI cZ cO atr apl atb tr ++ cw_Board cI cZ cO atb apl tb))) (pq_Main_step dC dI cI cZ cO amn apl abd alk atr atb mn lt pl bd lk tr tb x1 x2 x3 x4 (va_A (cw_Main cI cZ cO amn apl abd alk atr mn lt ++ cw_Plan cI cZ cO apl pl ++ cw_Board cI cZ cO abd apl bd ++ cw_Locks cI cZ cO alk lk ++ cw_Trial cI cZ cO atr apl atb tr ++ cw_Board cI cZ cO atb apl tb) sz)) 0 0 (va_A (cw_Main cI cZ cO amn apl abd alk atr mn lt ++ cw_Plan cI cZ cO apl pl ++ cw_Board cI cZ cO abd apl bd ++ cw_Locks cI cZ cO alk lk ++ cw_Trial cI cZ cO atr apl atb tr ++ cw_Board cI cZ cO atb apl tb) sz) := by
  refine Met.ofW (cc := prog_1_method_6_code) (maxL := 8) (ret := (some .int)) (by decide) rfl ?_
  intro p e s m args below meth c s₁ B hml hv
  obtain ⟨rfl, hsz, hP, hK, hD0⟩ := hv
  have hx := B.exec
  have hb := B.bytes
  have hr := B.returns
  have hts0 := atoms_spec (ws := nw_Main_step) B.pre
  have hts : ∀ w ∈ ng_tbl, w.before ([.ref (amn 0), .int x1, .int x2, .int x3, .long x4] : List Value).toArray s = true := fun w h => hts0 w (List.mem_cons_of_mem _ h)
  have hown : s.vm.findClass "CeilingRows" = some m.cls := findClass_of_methodNamed B.named
  have hlocks := B.notSynchronized
  subst hsz
  have hD := hD0.self (sz := s.heap.size)
  generalize hAe : va_A (cw_Main cI cZ cO amn apl abd alk atr mn lt ++ cw_Plan cI cZ cO apl pl ++ cw_Board cI cZ cO abd apl bd ++ cw_Locks cI cZ cO alk lk ++ cw_Trial cI cZ cO atr apl atb tr ++ cw_Board cI cZ cO atb apl tb) s.heap.size = A at hD ⊢
  have hA : ∀ q : Nat, s.heap.size ≤ q → A q := fun q h => by rw [← hAe]; exact Or.inr h
  have hS : va_S A s.heap s.heap [] := va_S.rf
  have hP : va_P (dC, dI) vwCl (cw_Main cI cZ cO amn apl abd alk atr mn lt ++ cw_Plan cI cZ cO apl pl ++ cw_Board cI cZ cO abd apl bd ++ cw_Locks cI cZ cO alk lk ++ cw_Trial cI cZ cO atr apl atb tr ++ cw_Board cI cZ cO atb apl tb) s.heap := hP
  have hl := lv_entry ([.ref (amn 0), .int x1, .int x2, .int x3, .long x4]) (n := 8) (Nat.le_of_ble_eq_true rfl)
  rw [lg_entry_eq]
  generalize (lg_sl ([.ref (amn 0), .int x1, .int x2, .int x3, .long x4]) ++ List.replicate (8 - (lg_sl ([.ref (amn 0), .int x1, .int x2, .int x3, .long x4])).length) Slot.unset).toArray = ls at hl ⊢
  have hl : lv_has ls 8 [(0, .ref (amn 0)), (1, .int x1), (2, .int x2), (3, .int x3), (4, .long x4)] := hl
  have k_m14 : (-14 : Int32).toInt = -14 := by decide
  have k_m2 : (-2 : Int32).toInt = -2 := by decide
  have k_m1 : (-1 : Int32).toInt = -1 := by decide
  have k_0 : (0 : Int32).toInt = 0 := by decide
  have k_1 : (1 : Int32).toInt = 1 := by decide
  have k_2 : (2 : Int32).toInt = 2 := by decide
  have k_5 : (5 : Int32).toInt = 5 := by decide
  obtain ⟨tgt, hT⟩ : ∃ z, md_Main_step mn lt pl bd lk tr tb x1 x2 x3 x4 = z := ⟨_, rfl⟩
  have hM := hT
  unfold md_Main_step at hM
  refine lv_iload_n hx hb nd_Main_step_0 rfl (lv_at hl 2 rfl) ?_
  refine lv_iconst (v := 1) hx hb nd_Main_step_1 (by decide) ?_
  refine lv_icmp_eq (tgt := 10) hx hb nd_Main_step_2 (by decide) (fun c_1 => ?_) (fun c_1 => ?_)
  · have c_1t := cr_eq c_1
    rw [if_pos c_1] at hM
    refine lv_iconst (v := 1) hx hb nd_Main_step_10 (by decide) ?_
    refine lv_goto (tgt := 15) hx hb nd_Main_step_11 (by decide) ?_
    refine lv_istore (lv' := [(6, .int (1 : Int32)), (0, .ref (amn 0)), (1, .int x1), (2, .int x2), (3, .int x3), (4, .long x4)]) hx hb nd_Main_step_15 hl (by decide) rfl (fun ls hl => ?_)
    refine lv_aload_n hx hb nd_Main_step_17 rfl (lv_at hl 1 rfl) ?_
    refine va_get (D := (dC, dI)) (ci := 4) (v := .ref (apl 0)) (C := "CeilingRows") (T := nf_Main) (N := 6) hx hb hts nin_Main hown hK hP 0 rfl rfl 0 (by decide) (hts _ tw_138) (fun _ h9 => h9) rfl nd_Main_step_18 ?_
    refine lv_iload_n hx hb nd_Main_step_21 rfl (lv_at hl 2 rfl) ?_
    have hPc := hP.sub (ws' := cw_Plan cI cZ cO apl pl) [2, 3, 4, 5, 6, 7, 8, 9, 10, 11, 12, 13, 14, 15, 16, 17, 18] rfl
    have hDc := hD.sub (ws' := cw_Plan cI cZ cO apl pl) [2, 3, 4, 5, 6, 7, 8, 9, 10, 11, 12, 13, 14, 15, 16, 17, 18] (by decide) rfl
    have hFc := va_free (wc := cw_Plan cI cZ cO apl pl) hD hS hA [2, 3, 4, 5, 6, 7, 8, 9, 10, 11, 12, 13, 14, 15, 16, 17, 18] rfl
    refine va_calli (va_runV (As := [.int x1]) (rest := []) ⟨hx, hb, hml, hown, hts⟩ (ct_Plan_hasTask l dC dI cI cZ cO apl s.heap.size pl x1 hR_pl) (cwV 1 hts (ng_V tw_181 tw_182 tw_183 tw_2 tw_184) rfl rfl rfl (by decide +kernel) ⟨Nat.le_of_ble_eq_true rfl, Nat.le_of_ble_eq_true rfl⟩) ⟨fun a U g mk q => by obtain ⟨q0, q1, qP, qK, qD⟩ := q; exact ⟨q0, q1, qP, va_K.moved (u := U) (U := U.calling g mk a) (Vm.Alike.refl U.vm) qK, qD⟩, va_recv hK hPc (ci := 0) (q0 := 0) rfl rfl, fun U hU hW => ⟨rfl, by rw [hU], by rw [hU]; exact hPc, va_K.moved hW.alike hK, hDc.weaken (fun _ _ _ _ => trivial)⟩⟩ rfl rfl hl.1 rfl (lv_room (Nat.le_of_ble_eq_true rfl)) nd_Main_step_22 ⟨Nat.zero_le _, Nat.zero_le _⟩) hS (fun q _ h => hFc q h) hFc (fun r_2 u t H1 locs ht hvm hw hB hz1 hk1 hS => ?_)
    obtain ⟨hP1, hK1, hD1⟩ := hB
    rw [ht] at hP1
    obtain ⟨w_3, f_4⟩ := hw
    try rw [← w_3] at hM
    obtain ⟨hP, hD⟩ := va_join (wr := cw_Main cI cZ cO amn apl abd alk atr mn lt ++ cw_Board cI cZ cO abd apl bd ++ cw_Locks cI cZ cO alk lk ++ cw_Trial cI cZ cO atr apl atb tr ++ cw_Board cI cZ cO atb apl tb) (w1 := cw_Plan cI cZ cO apl pl) hP hD [2, 3, 4, 5, 6, 7, 8, 9, 10, 11, 12, 13, 14, 15, 16, 17, 18] [0, 1, 19, 20, 21, 22, 23, 24, 25, 26, 27, 28, 29, 30, 31, 32, 33, 34, 35, 36, 37, 38, 39, 40, 41, 42, 43, 44, 45, 46, 47, 48] rfl rfl (by decide) (by decide) hk1 hFc hP1 hD1
    have hP := hP.sub (ws' := cw_Main cI cZ cO amn apl abd alk atr mn lt ++ cw_Plan cI cZ cO apl pl ++ cw_Board cI cZ cO abd apl bd ++ cw_Locks cI cZ cO alk lk ++ cw_Trial cI cZ cO atr apl atb tr ++ cw_Board cI cZ cO atb apl tb) [0, 1, 32, 33, 34, 35, 36, 37, 38, 39, 40, 41, 42, 43, 44, 45, 46, 47, 48, 2, 3, 4, 5, 6, 7, 8, 9, 10, 11, 12, 13, 14, 15, 16, 17, 18, 19, 20, 21, 22, 23, 24, 25, 26, 27, 28, 29, 30, 31] rfl
    have hD := hD.sub (ws' := cw_Main cI cZ cO amn apl abd alk atr mn lt ++ cw_Plan cI cZ cO apl pl ++ cw_Board cI cZ cO abd apl bd ++ cw_Locks cI cZ cO alk lk ++ cw_Trial cI cZ cO atr apl atb tr ++ cw_Board cI cZ cO atb apl tb) [0, 1, 32, 33, 34, 35, 36, 37, 38, 39, 40, 41, 42, 43, 44, 45, 46, 47, 48, 2, 3, 4, 5, 6, 7, 8, 9, 10, 11, 12, 13, 14, 15, 16, 17, 18, 19, 20, 21, 22, 23, 24, 25, 26, 27, 28, 29, 30, 31] (by decide) rfl
    generalize H1 = H at hP hS ⊢
    refine lv_if_eq (tgt := 44) hx hb nd_Main_step_25 (by decide) (fun c_5 => ?_) (fun c_5 => ?_)
    · have c_5t := cr_eq c_5
      rw [if_pos c_5] at hM
      refine lv_iconst (v := -1) hx hb nd_Main_step_44 (by decide) ?_
      exact W.iret (v := (-1 : Int32)) hx hb hr (fun t ht hW => ⟨⟨(-1 : Int32), (mn, lt, bd), rfl, ⟨by rw [hT, ← hM], by rw [hT, ← hM], by rw [hT, ← hM], by rw [hT, ← hM], hR_bd⟩, by rw [ht]; exact hP, va_K.moved hW.alike hK, hD⟩, hS.F ht⟩) hS.2.2 nd_Main_step_45
    · have c_5t := cr_ne c_5
      rw [if_neg c_5] at hM
      refine lv_iload hx hb nd_Main_step_28 (lv_at hl 0 rfl) ?_
      refine lv_if_eq (tgt := 46) hx hb nd_Main_step_30 (by decide) (fun c_6 => ?_) (fun c_6 => ?_)
      · exact absurd c_6 (by decide)
      · refine lv_aload_n hx hb nd_Main_step_33 rfl (lv_at hl 1 rfl) ?_
        refine va_get (D := (dC, dI)) (ci := 4) (v := .ref (apl 0)) (C := "CeilingRows") (T := nf_Main) (N := 6) hx hb hts nin_Main hown hK hP 0 rfl rfl 0 (by decide) (hts _ tw_138) (fun _ h9 => h9) rfl nd_Main_step_34 ?_
        refine lv_iload_n hx hb nd_Main_step_37 rfl (lv_at hl 4 rfl) ?_
        have hPc := hP.sub (ws' := cw_Plan cI cZ cO apl pl) [2, 3, 4, 5, 6, 7, 8, 9, 10, 11, 12, 13, 14, 15, 16, 17, 18] rfl
        have hDc := hD.sub (ws' := cw_Plan cI cZ cO apl pl) [2, 3, 4, 5, 6, 7, 8, 9, 10, 11, 12, 13, 14, 15, 16, 17, 18] (by decide) rfl
        have hFc := va_free (wc := cw_Plan cI cZ cO apl pl) hD hS hA [2, 3, 4, 5, 6, 7, 8, 9, 10, 11, 12, 13, 14, 15, 16, 17, 18] rfl
        refine va_calli (va_runV (As := [.int x3]) (rest := []) ⟨hx, hb, hml, hown, hts⟩ (ct_Plan_hasResource l dC dI cI cZ cO apl H.size pl x3 hR_pl) (cwV 1 hts (ng_V tw_185 tw_186 tw_187 tw_2 tw_188) rfl rfl rfl (by decide +kernel) ⟨Nat.le_of_ble_eq_true rfl, Nat.le_of_ble_eq_true rfl⟩) ⟨fun a U g mk q => by obtain ⟨q0, q1, qP, qK, qD⟩ := q; exact ⟨q0, q1, qP, va_K.moved (u := U) (U := U.calling g mk a) (Vm.Alike.refl U.vm) qK, qD⟩, va_recv hK hPc (ci := 0) (q0 := 0) rfl rfl, fun U hU hW => ⟨rfl, by rw [hU], by rw [hU]; exact hPc, va_K.moved hW.alike hK, hDc.weaken (fun _ _ _ _ => trivial)⟩⟩ rfl rfl hl.1 rfl (lv_room (Nat.le_of_ble_eq_true rfl)) nd_Main_step_38 ⟨Nat.zero_le _, Nat.zero_le _⟩) hS (fun q _ h => hFc q h) hFc (fun r_7 u t H1 locs ht hvm hw hB hz1 hk1 hS => ?_)
        obtain ⟨hP1, hK1, hD1⟩ := hB
        rw [ht] at hP1
        obtain ⟨w_8, f_9⟩ := hw
        try rw [← w_8] at hM
        obtain ⟨hP, hD⟩ := va_join (wr := cw_Main cI cZ cO amn apl abd alk atr mn lt ++ cw_Board cI cZ cO abd apl bd ++ cw_Locks cI cZ cO alk lk ++ cw_Trial cI cZ cO atr apl atb tr ++ cw_Board cI cZ cO atb apl tb) (w1 := cw_Plan cI cZ cO apl pl) hP hD [2, 3, 4, 5, 6, 7, 8, 9, 10, 11, 12, 13, 14, 15, 16, 17, 18] [0, 1, 19, 20, 21, 22, 23, 24, 25, 26, 27, 28, 29, 30, 31, 32, 33, 34, 35, 36, 37, 38, 39, 40, 41, 42, 43, 44, 45, 46, 47, 48] rfl rfl (by decide) (by decide) hk1 hFc hP1 hD1
        have hP := hP.sub (ws' := cw_Main cI cZ cO amn apl abd alk atr mn lt ++ cw_Plan cI cZ cO apl pl ++ cw_Board cI cZ cO abd apl bd ++ cw_Locks cI cZ cO alk lk ++ cw_Trial cI cZ cO atr apl atb tr ++ cw_Board cI cZ cO atb apl tb) [0, 1, 32, 33, 34, 35, 36, 37, 38, 39, 40, 41, 42, 43, 44, 45, 46, 47, 48, 2, 3, 4, 5, 6, 7, 8, 9, 10, 11, 12, 13, 14, 15, 16, 17, 18, 19, 20, 21, 22, 23, 24, 25, 26, 27, 28, 29, 30, 31] rfl
        have hD := hD.sub (ws' := cw_Main cI cZ cO amn apl abd alk atr mn lt ++ cw_Plan cI cZ cO apl pl ++ cw_Board cI cZ cO abd apl bd ++ cw_Locks cI cZ cO alk lk ++ cw_Trial cI cZ cO atr apl atb tr ++ cw_Board cI cZ cO atb apl tb) [0, 1, 32, 33, 34, 35, 36, 37, 38, 39, 40, 41, 42, 43, 44, 45, 46, 47, 48, 2, 3, 4, 5, 6, 7, 8, 9, 10, 11, 12, 13, 14, 15, 16, 17, 18, 19, 20, 21, 22, 23, 24, 25, 26, 27, 28, 29, 30, 31] (by decide) rfl
        generalize H1 = H at hP hS ⊢
        refine lv_if_ne (tgt := 46) hx hb nd_Main_step_41 (by decide) (fun c_10 => ?_) (fun c_10 => ?_)
        · have c_10t := cr_ne c_10
          rw [if_neg c_10] at hM
          refine lv_iload_n hx hb nd_Main_step_46 rfl (lv_at hl 3 rfl) ?_
          refine lv_if_lt (tgt := 74) hx hb nd_Main_step_47 (by decide) (fun c_11 => ?_) (fun c_11 => ?_)
          · have c_11t := cr_lt c_11
            rw [if_pos c_11] at hM
            refine lv_bipush (v := -2) hx hb nd_Main_step_74 (by decide) ?_
            exact W.iret (v := (-2 : Int32)) hx hb hr (fun t ht hW => ⟨⟨(-2 : Int32), (mn, lt, bd), rfl, ⟨by rw [hT, ← hM], by rw [hT, ← hM], by rw [hT, ← hM], by rw [hT, ← hM], hR_bd⟩, by rw [ht]; exact hP, va_K.moved hW.alike hK, hD⟩, hS.F ht⟩) hS.2.2 nd_Main_step_76
          · have c_11t := cr_nlt c_11
            rw [if_neg c_11] at hM
            refine lv_iload_n hx hb nd_Main_step_50 rfl (lv_at hl 3 rfl) ?_
            refine lv_iconst (v := 5) hx hb nd_Main_step_51 (by decide) ?_
            refine lv_icmp_gt (tgt := 74) hx hb nd_Main_step_52 (by decide) (fun c_12 => ?_) (fun c_12 => ?_)
            · have c_12t := cr_lt c_12
              rw [if_pos c_12] at hM
              refine lv_bipush (v := -2) hx hb nd_Main_step_74 (by decide) ?_
              exact W.iret (v := (-2 : Int32)) hx hb hr (fun t ht hW => ⟨⟨(-2 : Int32), (mn, lt, bd), rfl, ⟨by rw [hT, ← hM], by rw [hT, ← hM], by rw [hT, ← hM], by rw [hT, ← hM], hR_bd⟩, by rw [ht]; exact hP, va_K.moved hW.alike hK, hD⟩, hS.F ht⟩) hS.2.2 nd_Main_step_76
            · have c_12t := cr_nlt c_12
              rw [if_neg c_12] at hM
              refine lv_lload hx hb nd_Main_step_55 (lv_at hl 5 rfl) ?_
              refine lv_aload_n hx hb nd_Main_step_57 rfl (lv_at hl 1 rfl) ?_
              refine va_get (D := (dC, dI)) (ci := 4) (v := .long lt) (C := "CeilingRows") (T := nf_Main) (N := 6) hx hb hts nin_Main hown hK hP 0 rfl rfl 5 (by decide) (hts _ tw_143) (fun _ h9 => h9) rfl nd_Main_step_58 ?_
              refine W.lcmp hx hb nd_Main_step_61 ?_
              refine lv_if_lt (tgt := 74) hx hb nd_Main_step_62 (by decide) (fun c_13 => ?_) (fun c_13 => ?_)
              · have c_13t := cr_lt c_13
                rw [if_pos c_13] at hM
                refine lv_bipush (v := -2) hx hb nd_Main_step_74 (by decide) ?_
                exact W.iret (v := (-2 : Int32)) hx hb hr (fun t ht hW => ⟨⟨(-2 : Int32), (mn, lt, bd), rfl, ⟨by rw [hT, ← hM], by rw [hT, ← hM], by rw [hT, ← hM], by rw [hT, ← hM], hR_bd⟩, by rw [ht]; exact hP, va_K.moved hW.alike hK, hD⟩, hS.F ht⟩) hS.2.2 nd_Main_step_76
              · have c_13t := cr_nlt c_13
                rw [if_neg c_13] at hM
                refine lv_lload hx hb nd_Main_step_65 (lv_at hl 5 rfl) ?_
                refine lv_ldc2 (v := 1000000000) hx hb hown (hts _ tw_217) nd_Main_step_67 ?_
                refine W.lcmp hx hb nd_Main_step_70 ?_
                refine lv_if_le (tgt := 77) hx hb nd_Main_step_71 (by decide) (fun c_14 => ?_) (fun c_14 => ?_)
                · have c_14t := cr_le c_14
                  rw [if_pos c_14] at hM
                  refine lv_aload_n hx hb nd_Main_step_77 rfl (lv_at hl 1 rfl) ?_
                  refine lv_iload_n hx hb nd_Main_step_78 rfl (lv_at hl 2 rfl) ?_
                  refine lv_iload_n hx hb nd_Main_step_79 rfl (lv_at hl 3 rfl) ?_
                  refine lv_iload_n hx hb nd_Main_step_80 rfl (lv_at hl 4 rfl) ?_
                  have hPc := hP
                  have hDc := hD
                  have hFc := va_free (wc := cw_Main cI cZ cO amn apl abd alk atr mn lt ++ cw_Plan cI cZ cO apl pl ++ cw_Board cI cZ cO abd apl bd ++ cw_Locks cI cZ cO alk lk ++ cw_Trial cI cZ cO atr apl atb tr ++ cw_Board cI cZ cO atb apl tb) hD hS hA [0, 1, 2, 3, 4, 5, 6, 7, 8, 9, 10, 11, 12, 13, 14, 15, 16, 17, 18, 19, 20, 21, 22, 23, 24, 25, 26, 27, 28, 29, 30, 31, 32, 33, 34, 35, 36, 37, 38, 39, 40, 41, 42, 43, 44, 45, 46, 47, 48] rfl
                  refine va_calli (va_runV (As := [.int x1, .int x2, .int x3]) (rest := []) ⟨hx, hb, hml, hown, hts⟩ (ct_Main_perform l dC dI cI cZ cO amn apl abd alk atr atb H.size mn lt pl bd lk tr tb x1 x2 x3 hR_tb hR_lk hR_bd hR_pl (by omega) (by omega) (by omega)) (cwV 3 hts (ng_V tw_218 tw_220 tp_0 tw_1 tw_221) rfl rfl rfl (by decide +kernel) ⟨Nat.le_of_ble_eq_true rfl, Nat.le_of_ble_eq_true rfl⟩) ⟨fun a U g mk q => by obtain ⟨q0, q1, qP, qK, qD⟩ := q; exact ⟨q0, q1, qP, va_K.moved (u := U) (U := U.calling g mk a) (Vm.Alike.refl U.vm) qK, qD⟩, va_recv hK hPc (ci := 4) (q0 := 0) rfl rfl, fun U hU hW => ⟨rfl, by rw [hU], by rw [hU]; exact hPc, va_K.moved hW.alike hK, hDc.weaken (fun _ _ _ _ => trivial)⟩⟩ rfl rfl hl.1 rfl (lv_room (Nat.le_of_ble_eq_true rfl)) nd_Main_step_81 ⟨Nat.zero_le _, Nat.zero_le _⟩) hS (fun q _ h => hFc q h) hFc (fun r_15 u t H1 locs ht hvm hw hB hz1 hk1 hS => ?_)
                  obtain ⟨hP1, hK1, hD1⟩ := hB
                  rw [ht] at hP1
                  obtain ⟨mnq_17, ltq_19, bdq_21⟩ := u
                  dsimp only at hw hP1 hD1
                  obtain ⟨w_16, w_18, w_20, w_22, hR_23⟩ := hw
                  try rw [← w_16] at hM
                  try rw [← w_18] at hM
                  try rw [← w_20] at hM
                  try rw [← w_22] at hM
                  have hP := hP1
                  have hD := cr_Dw hD1 hFc
                  generalize H1 = H at hP hS ⊢
                  refine lv_istore (lv' := [(7, .int r_15), (6, .int (1 : Int32)), (0, .ref (amn 0)), (1, .int x1), (2, .int x2), (3, .int x3), (4, .long x4)]) hx hb nd_Main_step_84 hl (by decide) rfl (fun ls hl => ?_)
                  refine lv_iload hx hb nd_Main_step_86 (lv_at hl 0 rfl) ?_
                  refine lv_if_ge (tgt := 98) hx hb nd_Main_step_88 (by decide) (fun c_24 => ?_) (fun c_24 => ?_)
                  · have c_24t := cr_le c_24
                    rw [if_pos c_24] at hM
                    refine lv_aload_n hx hb nd_Main_step_98 rfl (lv_at hl 2 rfl) ?_
                    refine lv_lload hx hb nd_Main_step_99 (lv_at hl 6 rfl) ?_
                    refine va_put (D := (dC, dI)) (ci := 4) (v := .long x4) (ty := .long) (C := "CeilingRows") (T := nf_Main) (N := 6) hx hb hts nin_Main nt_Main nto_Main nno_Main hown hK hP hD hS 0 rfl rfl 5 (by decide) (hts _ tw_143) (fun _ h9 => h9) rfl (by decide +kernel) rfl rfl (Nat.le_of_ble_eq_true rfl) nd_Main_step_101 (fun H locs hP hD hS => ?_)
                    have hP : va_P (dC, dI) vwCl (cw_Main cI cZ cO amn apl abd alk atr mnq_17 x4 ++ cw_Plan cI cZ cO apl pl ++ cw_Board cI cZ cO abd apl bdq_21 ++ cw_Locks cI cZ cO alk lk ++ cw_Trial cI cZ cO atr apl atb tr ++ cw_Board cI cZ cO atb apl tb) H := hP
                    have hD : va_D A (cw_Main cI cZ cO amn apl abd alk atr mnq_17 x4 ++ cw_Plan cI cZ cO apl pl ++ cw_Board cI cZ cO abd apl bdq_21 ++ cw_Locks cI cZ cO alk lk ++ cw_Trial cI cZ cO atr apl atb tr ++ cw_Board cI cZ cO atb apl tb) := hD
                    refine lv_iload hx hb nd_Main_step_104 (lv_at hl 0 rfl) ?_
                    exact W.iret (v := r_15) hx hb hr (fun t ht hW => ⟨⟨r_15, (mnq_17, x4, bdq_21), rfl, ⟨by rw [hT, ← hM], by rw [hT, ← hM], by rw [hT, ← hM], by rw [hT, ← hM], hR_23⟩, by rw [ht]; exact hP, va_K.moved hW.alike hK, hD⟩, hS.F ht⟩) hS.2.2 nd_Main_step_106
                  · have c_24t := cr_nle c_24
                    rw [if_neg c_24] at hM
                    refine lv_iload hx hb nd_Main_step_91 (lv_at hl 0 rfl) ?_
                    refine lv_bipush (v := -14) hx hb nd_Main_step_93 (by decide) ?_
                    refine lv_icmp_ne (tgt := 104) hx hb nd_Main_step_95 (by decide) (fun c_25 => ?_) (fun c_25 => ?_)
                    · have c_25t := cr_ne c_25
                      rw [if_neg c_25] at hM
                      refine lv_iload hx hb nd_Main_step_104 (lv_at hl 0 rfl) ?_
                      exact W.iret (v := r_15) hx hb hr (fun t ht hW => ⟨⟨r_15, (mnq_17, ltq_19, bdq_21), rfl, ⟨by rw [hT, ← hM], by rw [hT, ← hM], by rw [hT, ← hM], by rw [hT, ← hM], hR_23⟩, by rw [ht]; exact hP, va_K.moved hW.alike hK, hD⟩, hS.F ht⟩) hS.2.2 nd_Main_step_106
                    · have c_25t := cr_eq c_25
                      rw [if_pos c_25] at hM
                      refine lv_aload_n hx hb nd_Main_step_98 rfl (lv_at hl 2 rfl) ?_
                      refine lv_lload hx hb nd_Main_step_99 (lv_at hl 6 rfl) ?_
                      refine va_put (D := (dC, dI)) (ci := 4) (v := .long x4) (ty := .long) (C := "CeilingRows") (T := nf_Main) (N := 6) hx hb hts nin_Main nt_Main nto_Main nno_Main hown hK hP hD hS 0 rfl rfl 5 (by decide) (hts _ tw_143) (fun _ h9 => h9) rfl (by decide +kernel) rfl rfl (Nat.le_of_ble_eq_true rfl) nd_Main_step_101 (fun H locs hP hD hS => ?_)
                      have hP : va_P (dC, dI) vwCl (cw_Main cI cZ cO amn apl abd alk atr mnq_17 x4 ++ cw_Plan cI cZ cO apl pl ++ cw_Board cI cZ cO abd apl bdq_21 ++ cw_Locks cI cZ cO alk lk ++ cw_Trial cI cZ cO atr apl atb tr ++ cw_Board cI cZ cO atb apl tb) H := hP
                      have hD : va_D A (cw_Main cI cZ cO amn apl abd alk atr mnq_17 x4 ++ cw_Plan cI cZ cO apl pl ++ cw_Board cI cZ cO abd apl bdq_21 ++ cw_Locks cI cZ cO alk lk ++ cw_Trial cI cZ cO atr apl atb tr ++ cw_Board cI cZ cO atb apl tb) := hD
                      refine lv_iload hx hb nd_Main_step_104 (lv_at hl 0 rfl) ?_
                      exact W.iret (v := r_15) hx hb hr (fun t ht hW => ⟨⟨r_15, (mnq_17, x4, bdq_21), rfl, ⟨by rw [hT, ← hM], by rw [hT, ← hM], by rw [hT, ← hM], by rw [hT, ← hM], hR_23⟩, by rw [ht]; exact hP, va_K.moved hW.alike hK, hD⟩, hS.F ht⟩) hS.2.2 nd_Main_step_106
                · have c_14t := cr_nle c_14
                  rw [if_neg c_14] at hM
                  refine lv_bipush (v := -2) hx hb nd_Main_step_74 (by decide) ?_
                  exact W.iret (v := (-2 : Int32)) hx hb hr (fun t ht hW => ⟨⟨(-2 : Int32), (mn, lt, bd), rfl, ⟨by rw [hT, ← hM], by rw [hT, ← hM], by rw [hT, ← hM], by rw [hT, ← hM], hR_bd⟩, by rw [ht]; exact hP, va_K.moved hW.alike hK, hD⟩, hS.F ht⟩) hS.2.2 nd_Main_step_76
        · have c_10t := cr_eq c_10
          rw [if_pos c_10] at hM
          refine lv_iconst (v := -1) hx hb nd_Main_step_44 (by decide) ?_
          exact W.iret (v := (-1 : Int32)) hx hb hr (fun t ht hW => ⟨⟨(-1 : Int32), (mn, lt, bd), rfl, ⟨by rw [hT, ← hM], by rw [hT, ← hM], by rw [hT, ← hM], by rw [hT, ← hM], hR_bd⟩, by rw [ht]; exact hP, va_K.moved hW.alike hK, hD⟩, hS.F ht⟩) hS.2.2 nd_Main_step_45
  · have c_1t := cr_ne c_1
    rw [if_neg c_1] at hM
    refine lv_iload_n hx hb nd_Main_step_5 rfl (lv_at hl 2 rfl) ?_
    refine lv_iconst (v := 2) hx hb nd_Main_step_6 (by decide) ?_
    refine lv_icmp_ne (tgt := 14) hx hb nd_Main_step_7 (by decide) (fun c_26 => ?_) (fun c_26 => ?_)
    · have c_26t := cr_ne c_26
      rw [if_neg c_26] at hM
      refine lv_iconst (v := 0) hx hb nd_Main_step_14 (by decide) ?_
      refine lv_istore (lv' := [(6, .int (0 : Int32)), (0, .ref (amn 0)), (1, .int x1), (2, .int x2), (3, .int x3), (4, .long x4)]) hx hb nd_Main_step_15 hl (by decide) rfl (fun ls hl => ?_)
      refine lv_aload_n hx hb nd_Main_step_17 rfl (lv_at hl 1 rfl) ?_
      refine va_get (D := (dC, dI)) (ci := 4) (v := .ref (apl 0)) (C := "CeilingRows") (T := nf_Main) (N := 6) hx hb hts nin_Main hown hK hP 0 rfl rfl 0 (by decide) (hts _ tw_138) (fun _ h9 => h9) rfl nd_Main_step_18 ?_
      refine lv_iload_n hx hb nd_Main_step_21 rfl (lv_at hl 2 rfl) ?_
      have hPc := hP.sub (ws' := cw_Plan cI cZ cO apl pl) [2, 3, 4, 5, 6, 7, 8, 9, 10, 11, 12, 13, 14, 15, 16, 17, 18] rfl
      have hDc := hD.sub (ws' := cw_Plan cI cZ cO apl pl) [2, 3, 4, 5, 6, 7, 8, 9, 10, 11, 12, 13, 14, 15, 16, 17, 18] (by decide) rfl
      have hFc := va_free (wc := cw_Plan cI cZ cO apl pl) hD hS hA [2, 3, 4, 5, 6, 7, 8, 9, 10, 11, 12, 13, 14, 15, 16, 17, 18] rfl
      refine va_calli (va_runV (As := [.int x1]) (rest := []) ⟨hx, hb, hml, hown, hts⟩ (ct_Plan_hasTask l dC dI cI cZ cO apl s.heap.size pl x1 hR_pl) (cwV 1 hts (ng_V tw_181 tw_182 tw_183 tw_2 tw_184) rfl rfl rfl (by decide +kernel) ⟨Nat.le_of_ble_eq_true rfl, Nat.le_of_ble_eq_true rfl⟩) ⟨fun a U g mk q => by obtain ⟨q0, q1, qP, qK, qD⟩ := q; exact ⟨q0, q1, qP, va_K.moved (u := U) (U := U.calling g mk a) (Vm.Alike.refl U.vm) qK, qD⟩, va_recv hK hPc (ci := 0) (q0 := 0) rfl rfl, fun U hU hW => ⟨rfl, by rw [hU], by rw [hU]; exact hPc, va_K.moved hW.alike hK, hDc.weaken (fun _ _ _ _ => trivial)⟩⟩ rfl rfl hl.1 rfl (lv_room (Nat.le_of_ble_eq_true rfl)) nd_Main_step_22 ⟨Nat.zero_le _, Nat.zero_le _⟩) hS (fun q _ h => hFc q h) hFc (fun r_27 u t H1 locs ht hvm hw hB hz1 hk1 hS => ?_)
      obtain ⟨hP1, hK1, hD1⟩ := hB
      rw [ht] at hP1
      obtain ⟨w_28, f_29⟩ := hw
      try rw [← w_28] at hM
      obtain ⟨hP, hD⟩ := va_join (wr := cw_Main cI cZ cO amn apl abd alk atr mn lt ++ cw_Board cI cZ cO abd apl bd ++ cw_Locks cI cZ cO alk lk ++ cw_Trial cI cZ cO atr apl atb tr ++ cw_Board cI cZ cO atb apl tb) (w1 := cw_Plan cI cZ cO apl pl) hP hD [2, 3, 4, 5, 6, 7, 8, 9, 10, 11, 12, 13, 14, 15, 16, 17, 18] [0, 1, 19, 20, 21, 22, 23, 24, 25, 26, 27, 28, 29, 30, 31, 32, 33, 34, 35, 36, 37, 38, 39, 40, 41, 42, 43, 44, 45, 46, 47, 48] rfl rfl (by decide) (by decide) hk1 hFc hP1 hD1
      have hP := hP.sub (ws' := cw_Main cI cZ cO amn apl abd alk atr mn lt ++ cw_Plan cI cZ cO apl pl ++ cw_Board cI cZ cO abd apl bd ++ cw_Locks cI cZ cO alk lk ++ cw_Trial cI cZ cO atr apl atb tr ++ cw_Board cI cZ cO atb apl tb) [0, 1, 32, 33, 34, 35, 36, 37, 38, 39, 40, 41, 42, 43, 44, 45, 46, 47, 48, 2, 3, 4, 5, 6, 7, 8, 9, 10, 11, 12, 13, 14, 15, 16, 17, 18, 19, 20, 21, 22, 23, 24, 25, 26, 27, 28, 29, 30, 31] rfl
      have hD := hD.sub (ws' := cw_Main cI cZ cO amn apl abd alk atr mn lt ++ cw_Plan cI cZ cO apl pl ++ cw_Board cI cZ cO abd apl bd ++ cw_Locks cI cZ cO alk lk ++ cw_Trial cI cZ cO atr apl atb tr ++ cw_Board cI cZ cO atb apl tb) [0, 1, 32, 33, 34, 35, 36, 37, 38, 39, 40, 41, 42, 43, 44, 45, 46, 47, 48, 2, 3, 4, 5, 6, 7, 8, 9, 10, 11, 12, 13, 14, 15, 16, 17, 18, 19, 20, 21, 22, 23, 24, 25, 26, 27, 28, 29, 30, 31] (by decide) rfl
      generalize H1 = H at hP hS ⊢
      refine lv_if_eq (tgt := 44) hx hb nd_Main_step_25 (by decide) (fun c_30 => ?_) (fun c_30 => ?_)
      · have c_30t := cr_eq c_30
        rw [if_pos c_30] at hM
        refine lv_iconst (v := -1) hx hb nd_Main_step_44 (by decide) ?_
        exact W.iret (v := (-1 : Int32)) hx hb hr (fun t ht hW => ⟨⟨(-1 : Int32), (mn, lt, bd), rfl, ⟨by rw [hT, ← hM], by rw [hT, ← hM], by rw [hT, ← hM], by rw [hT, ← hM], hR_bd⟩, by rw [ht]; exact hP, va_K.moved hW.alike hK, hD⟩, hS.F ht⟩) hS.2.2 nd_Main_step_45
      · have c_30t := cr_ne c_30
        rw [if_neg c_30] at hM
        refine lv_iload hx hb nd_Main_step_28 (lv_at hl 0 rfl) ?_
        refine lv_if_eq (tgt := 46) hx hb nd_Main_step_30 (by decide) (fun c_31 => ?_) (fun c_31 => ?_)
        · refine lv_iload_n hx hb nd_Main_step_46 rfl (lv_at hl 3 rfl) ?_
          refine lv_if_lt (tgt := 74) hx hb nd_Main_step_47 (by decide) (fun c_32 => ?_) (fun c_32 => ?_)
          · have c_32t := cr_lt c_32
            rw [if_pos c_32] at hM
            refine lv_bipush (v := -2) hx hb nd_Main_step_74 (by decide) ?_
            exact W.iret (v := (-2 : Int32)) hx hb hr (fun t ht hW => ⟨⟨(-2 : Int32), (mn, lt, bd), rfl, ⟨by rw [hT, ← hM], by rw [hT, ← hM], by rw [hT, ← hM], by rw [hT, ← hM], hR_bd⟩, by rw [ht]; exact hP, va_K.moved hW.alike hK, hD⟩, hS.F ht⟩) hS.2.2 nd_Main_step_76
          · have c_32t := cr_nlt c_32
            rw [if_neg c_32] at hM
            refine lv_iload_n hx hb nd_Main_step_50 rfl (lv_at hl 3 rfl) ?_
            refine lv_iconst (v := 5) hx hb nd_Main_step_51 (by decide) ?_
            refine lv_icmp_gt (tgt := 74) hx hb nd_Main_step_52 (by decide) (fun c_33 => ?_) (fun c_33 => ?_)
            · have c_33t := cr_lt c_33
              rw [if_pos c_33] at hM
              refine lv_bipush (v := -2) hx hb nd_Main_step_74 (by decide) ?_
              exact W.iret (v := (-2 : Int32)) hx hb hr (fun t ht hW => ⟨⟨(-2 : Int32), (mn, lt, bd), rfl, ⟨by rw [hT, ← hM], by rw [hT, ← hM], by rw [hT, ← hM], by rw [hT, ← hM], hR_bd⟩, by rw [ht]; exact hP, va_K.moved hW.alike hK, hD⟩, hS.F ht⟩) hS.2.2 nd_Main_step_76
            · have c_33t := cr_nlt c_33
              rw [if_neg c_33] at hM
              refine lv_lload hx hb nd_Main_step_55 (lv_at hl 5 rfl) ?_
              refine lv_aload_n hx hb nd_Main_step_57 rfl (lv_at hl 1 rfl) ?_
              refine va_get (D := (dC, dI)) (ci := 4) (v := .long lt) (C := "CeilingRows") (T := nf_Main) (N := 6) hx hb hts nin_Main hown hK hP 0 rfl rfl 5 (by decide) (hts _ tw_143) (fun _ h9 => h9) rfl nd_Main_step_58 ?_
              refine W.lcmp hx hb nd_Main_step_61 ?_
              refine lv_if_lt (tgt := 74) hx hb nd_Main_step_62 (by decide) (fun c_34 => ?_) (fun c_34 => ?_)
              · have c_34t := cr_lt c_34
                rw [if_pos c_34] at hM
                refine lv_bipush (v := -2) hx hb nd_Main_step_74 (by decide) ?_
                exact W.iret (v := (-2 : Int32)) hx hb hr (fun t ht hW => ⟨⟨(-2 : Int32), (mn, lt, bd), rfl, ⟨by rw [hT, ← hM], by rw [hT, ← hM], by rw [hT, ← hM], by rw [hT, ← hM], hR_bd⟩, by rw [ht]; exact hP, va_K.moved hW.alike hK, hD⟩, hS.F ht⟩) hS.2.2 nd_Main_step_76
              · have c_34t := cr_nlt c_34
                rw [if_neg c_34] at hM
                refine lv_lload hx hb nd_Main_step_65 (lv_at hl 5 rfl) ?_
                refine lv_ldc2 (v := 1000000000) hx hb hown (hts _ tw_217) nd_Main_step_67 ?_
                refine W.lcmp hx hb nd_Main_step_70 ?_
                refine lv_if_le (tgt := 77) hx hb nd_Main_step_71 (by decide) (fun c_35 => ?_) (fun c_35 => ?_)
                · have c_35t := cr_le c_35
                  rw [if_pos c_35] at hM
                  refine lv_aload_n hx hb nd_Main_step_77 rfl (lv_at hl 1 rfl) ?_
                  refine lv_iload_n hx hb nd_Main_step_78 rfl (lv_at hl 2 rfl) ?_
                  refine lv_iload_n hx hb nd_Main_step_79 rfl (lv_at hl 3 rfl) ?_
                  refine lv_iload_n hx hb nd_Main_step_80 rfl (lv_at hl 4 rfl) ?_
                  have hPc := hP
                  have hDc := hD
                  have hFc := va_free (wc := cw_Main cI cZ cO amn apl abd alk atr mn lt ++ cw_Plan cI cZ cO apl pl ++ cw_Board cI cZ cO abd apl bd ++ cw_Locks cI cZ cO alk lk ++ cw_Trial cI cZ cO atr apl atb tr ++ cw_Board cI cZ cO atb apl tb) hD hS hA [0, 1, 2, 3, 4, 5, 6, 7, 8, 9, 10, 11, 12, 13, 14, 15, 16, 17, 18, 19, 20, 21, 22, 23, 24, 25, 26, 27, 28, 29, 30, 31, 32, 33, 34, 35, 36, 37, 38, 39, 40, 41, 42, 43, 44, 45, 46, 47, 48] rfl
                  refine va_calli (va_runV (As := [.int x1, .int x2, .int x3]) (rest := []) ⟨hx, hb, hml, hown, hts⟩ (ct_Main_perform l dC dI cI cZ cO amn apl abd alk atr atb H.size mn lt pl bd lk tr tb x1 x2 x3 hR_tb hR_lk hR_bd hR_pl (by omega) (by omega) (by omega)) (cwV 3 hts (ng_V tw_218 tw_220 tp_0 tw_1 tw_221) rfl rfl rfl (by decide +kernel) ⟨Nat.le_of_ble_eq_true rfl, Nat.le_of_ble_eq_true rfl⟩) ⟨fun a U g mk q => by obtain ⟨q0, q1, qP, qK, qD⟩ := q; exact ⟨q0, q1, qP, va_K.moved (u := U) (U := U.calling g mk a) (Vm.Alike.refl U.vm) qK, qD⟩, va_recv hK hPc (ci := 4) (q0 := 0) rfl rfl, fun U hU hW => ⟨rfl, by rw [hU], by rw [hU]; exact hPc, va_K.moved hW.alike hK, hDc.weaken (fun _ _ _ _ => trivial)⟩⟩ rfl rfl hl.1 rfl (lv_room (Nat.le_of_ble_eq_true rfl)) nd_Main_step_81 ⟨Nat.zero_le _, Nat.zero_le _⟩) hS (fun q _ h => hFc q h) hFc (fun r_36 u t H1 locs ht hvm hw hB hz1 hk1 hS => ?_)
                  obtain ⟨hP1, hK1, hD1⟩ := hB
                  rw [ht] at hP1
                  obtain ⟨mnq_38, ltq_40, bdq_42⟩ := u
                  dsimp only at hw hP1 hD1
                  obtain ⟨w_37, w_39, w_41, w_43, hR_44⟩ := hw
                  try rw [← w_37] at hM
                  try rw [← w_39] at hM
                  try rw [← w_41] at hM
                  try rw [← w_43] at hM
                  have hP := hP1
                  have hD := cr_Dw hD1 hFc
                  generalize H1 = H at hP hS ⊢
                  refine lv_istore (lv' := [(7, .int r_36), (6, .int (0 : Int32)), (0, .ref (amn 0)), (1, .int x1), (2, .int x2), (3, .int x3), (4, .long x4)]) hx hb nd_Main_step_84 hl (by decide) rfl (fun ls hl => ?_)
                  refine lv_iload hx hb nd_Main_step_86 (lv_at hl 0 rfl) ?_
                  refine lv_if_ge (tgt := 98) hx hb nd_Main_step_88 (by decide) (fun c_45 => ?_) (fun c_45 => ?_)
                  · have c_45t := cr_le c_45
                    rw [if_pos c_45] at hM
                    refine lv_aload_n hx hb nd_Main_step_98 rfl (lv_at hl 2 rfl) ?_
                    refine lv_lload hx hb nd_Main_step_99 (lv_at hl 6 rfl) ?_
                    refine va_put (D := (dC, dI)) (ci := 4) (v := .long x4) (ty := .long) (C := "CeilingRows") (T := nf_Main) (N := 6) hx hb hts nin_Main nt_Main nto_Main nno_Main hown hK hP hD hS 0 rfl rfl 5 (by decide) (hts _ tw_143) (fun _ h9 => h9) rfl (by decide +kernel) rfl rfl (Nat.le_of_ble_eq_true rfl) nd_Main_step_101 (fun H locs hP hD hS => ?_)
                    have hP : va_P (dC, dI) vwCl (cw_Main cI cZ cO amn apl abd alk atr mnq_38 x4 ++ cw_Plan cI cZ cO apl pl ++ cw_Board cI cZ cO abd apl bdq_42 ++ cw_Locks cI cZ cO alk lk ++ cw_Trial cI cZ cO atr apl atb tr ++ cw_Board cI cZ cO atb apl tb) H := hP
                    have hD : va_D A (cw_Main cI cZ cO amn apl abd alk atr mnq_38 x4 ++ cw_Plan cI cZ cO apl pl ++ cw_Board cI cZ cO abd apl bdq_42 ++ cw_Locks cI cZ cO alk lk ++ cw_Trial cI cZ cO atr apl atb tr ++ cw_Board cI cZ cO atb apl tb) := hD
                    refine lv_iload hx hb nd_Main_step_104 (lv_at hl 0 rfl) ?_
                    exact W.iret (v := r_36) hx hb hr (fun t ht hW => ⟨⟨r_36, (mnq_38, x4, bdq_42), rfl, ⟨by rw [hT, ← hM], by rw [hT, ← hM], by rw [hT, ← hM], by rw [hT, ← hM], hR_44⟩, by rw [ht]; exact hP, va_K.moved hW.alike hK, hD⟩, hS.F ht⟩) hS.2.2 nd_Main_step_106
                  · have c_45t := cr_nle c_45
                    rw [if_neg c_45] at hM
                    refine lv_iload hx hb nd_Main_step_91 (lv_at hl 0 rfl) ?_
                    refine lv_bipush (v := -14) hx hb nd_Main_step_93 (by decide) ?_
                    refine lv_icmp_ne (tgt := 104) hx hb nd_Main_step_95 (by decide) (fun c_46 => ?_) (fun c_46 => ?_)
                    · have c_46t := cr_ne c_46
                      rw [if_neg c_46] at hM
                      refine lv_iload hx hb nd_Main_step_104 (lv_at hl 0 rfl) ?_
                      exact W.iret (v := r_36) hx hb hr (fun t ht hW => ⟨⟨r_36, (mnq_38, ltq_40, bdq_42), rfl, ⟨by rw [hT, ← hM], by rw [hT, ← hM], by rw [hT, ← hM], by rw [hT, ← hM], hR_44⟩, by rw [ht]; exact hP, va_K.moved hW.alike hK, hD⟩, hS.F ht⟩) hS.2.2 nd_Main_step_106
                    · have c_46t := cr_eq c_46
                      rw [if_pos c_46] at hM
                      refine lv_aload_n hx hb nd_Main_step_98 rfl (lv_at hl 2 rfl) ?_
                      refine lv_lload hx hb nd_Main_step_99 (lv_at hl 6 rfl) ?_
                      refine va_put (D := (dC, dI)) (ci := 4) (v := .long x4) (ty := .long) (C := "CeilingRows") (T := nf_Main) (N := 6) hx hb hts nin_Main nt_Main nto_Main nno_Main hown hK hP hD hS 0 rfl rfl 5 (by decide) (hts _ tw_143) (fun _ h9 => h9) rfl (by decide +kernel) rfl rfl (Nat.le_of_ble_eq_true rfl) nd_Main_step_101 (fun H locs hP hD hS => ?_)
                      have hP : va_P (dC, dI) vwCl (cw_Main cI cZ cO amn apl abd alk atr mnq_38 x4 ++ cw_Plan cI cZ cO apl pl ++ cw_Board cI cZ cO abd apl bdq_42 ++ cw_Locks cI cZ cO alk lk ++ cw_Trial cI cZ cO atr apl atb tr ++ cw_Board cI cZ cO atb apl tb) H := hP
                      have hD : va_D A (cw_Main cI cZ cO amn apl abd alk atr mnq_38 x4 ++ cw_Plan cI cZ cO apl pl ++ cw_Board cI cZ cO abd apl bdq_42 ++ cw_Locks cI cZ cO alk lk ++ cw_Trial cI cZ cO atr apl atb tr ++ cw_Board cI cZ cO atb apl tb) := hD
                      refine lv_iload hx hb nd_Main_step_104 (lv_at hl 0 rfl) ?_
                      exact W.iret (v := r_36) hx hb hr (fun t ht hW => ⟨⟨r_36, (mnq_38, x4, bdq_42), rfl, ⟨by rw [hT, ← hM], by rw [hT, ← hM], by rw [hT, ← hM], by rw [hT, ← hM], hR_44⟩, by rw [ht]; exact hP, va_K.moved hW.alike hK, hD⟩, hS.F ht⟩) hS.2.2 nd_Main_step_106
                · have c_35t := cr_nle c_35
                  rw [if_neg c_35] at hM
                  refine lv_bipush (v := -2) hx hb nd_Main_step_74 (by decide) ?_
                  exact W.iret (v := (-2 : Int32)) hx hb hr (fun t ht hW => ⟨⟨(-2 : Int32), (mn, lt, bd), rfl, ⟨by rw [hT, ← hM], by rw [hT, ← hM], by rw [hT, ← hM], by rw [hT, ← hM], hR_bd⟩, by rw [ht]; exact hP, va_K.moved hW.alike hK, hD⟩, hS.F ht⟩) hS.2.2 nd_Main_step_76
        · exact absurd c_31 (by decide)
    · have c_26t := cr_eq c_26
      rw [if_pos c_26] at hM
      refine lv_iconst (v := 1) hx hb nd_Main_step_10 (by decide) ?_
      refine lv_goto (tgt := 15) hx hb nd_Main_step_11 (by decide) ?_
      refine lv_istore (lv' := [(6, .int (1 : Int32)), (0, .ref (amn 0)), (1, .int x1), (2, .int x2), (3, .int x3), (4, .long x4)]) hx hb nd_Main_step_15 hl (by decide) rfl (fun ls hl => ?_)
      refine lv_aload_n hx hb nd_Main_step_17 rfl (lv_at hl 1 rfl) ?_
      refine va_get (D := (dC, dI)) (ci := 4) (v := .ref (apl 0)) (C := "CeilingRows") (T := nf_Main) (N := 6) hx hb hts nin_Main hown hK hP 0 rfl rfl 0 (by decide) (hts _ tw_138) (fun _ h9 => h9) rfl nd_Main_step_18 ?_
      refine lv_iload_n hx hb nd_Main_step_21 rfl (lv_at hl 2 rfl) ?_
      have hPc := hP.sub (ws' := cw_Plan cI cZ cO apl pl) [2, 3, 4, 5, 6, 7, 8, 9, 10, 11, 12, 13, 14, 15, 16, 17, 18] rfl
      have hDc := hD.sub (ws' := cw_Plan cI cZ cO apl pl) [2, 3, 4, 5, 6, 7, 8, 9, 10, 11, 12, 13, 14, 15, 16, 17, 18] (by decide) rfl
      have hFc := va_free (wc := cw_Plan cI cZ cO apl pl) hD hS hA [2, 3, 4, 5, 6, 7, 8, 9, 10, 11, 12, 13, 14, 15, 16, 17, 18] rfl
      refine va_calli (va_runV (As := [.int x1]) (rest := []) ⟨hx, hb, hml, hown, hts⟩ (ct_Plan_hasTask l dC dI cI cZ cO apl s.heap.size pl x1 hR_pl) (cwV 1 hts (ng_V tw_181 tw_182 tw_183 tw_2 tw_184) rfl rfl rfl (by decide +kernel) ⟨Nat.le_of_ble_eq_true rfl, Nat.le_of_ble_eq_true rfl⟩) ⟨fun a U g mk q => by obtain ⟨q0, q1, qP, qK, qD⟩ := q; exact ⟨q0, q1, qP, va_K.moved (u := U) (U := U.calling g mk a) (Vm.Alike.refl U.vm) qK, qD⟩, va_recv hK hPc (ci := 0) (q0 := 0) rfl rfl, fun U hU hW => ⟨rfl, by rw [hU], by rw [hU]; exact hPc, va_K.moved hW.alike hK, hDc.weaken (fun _ _ _ _ => trivial)⟩⟩ rfl rfl hl.1 rfl (lv_room (Nat.le_of_ble_eq_true rfl)) nd_Main_step_22 ⟨Nat.zero_le _, Nat.zero_le _⟩) hS (fun q _ h => hFc q h) hFc (fun r_47 u t H1 locs ht hvm hw hB hz1 hk1 hS => ?_)
      obtain ⟨hP1, hK1, hD1⟩ := hB
      rw [ht] at hP1
      obtain ⟨w_48, f_49⟩ := hw
      try rw [← w_48] at hM
      obtain ⟨hP, hD⟩ := va_join (wr := cw_Main cI cZ cO amn apl abd alk atr mn lt ++ cw_Board cI cZ cO abd apl bd ++ cw_Locks cI cZ cO alk lk ++ cw_Trial cI cZ cO atr apl atb tr ++ cw_Board cI cZ cO atb apl tb) (w1 := cw_Plan cI cZ cO apl pl) hP hD [2, 3, 4, 5, 6, 7, 8, 9, 10, 11, 12, 13, 14, 15, 16, 17, 18] [0, 1, 19, 20, 21, 22, 23, 24, 25, 26, 27, 28, 29, 30, 31, 32, 33, 34, 35, 36, 37, 38, 39, 40, 41, 42, 43, 44, 45, 46, 47, 48] rfl rfl (by decide) (by decide) hk1 hFc hP1 hD1
      have hP := hP.sub (ws' := cw_Main cI cZ cO amn apl abd alk atr mn lt ++ cw_Plan cI cZ cO apl pl ++ cw_Board cI cZ cO abd apl bd ++ cw_Locks cI cZ cO alk lk ++ cw_Trial cI cZ cO atr apl atb tr ++ cw_Board cI cZ cO atb apl tb) [0, 1, 32, 33, 34, 35, 36, 37, 38, 39, 40, 41, 42, 43, 44, 45, 46, 47, 48, 2, 3, 4, 5, 6, 7, 8, 9, 10, 11, 12, 13, 14, 15, 16, 17, 18, 19, 20, 21, 22, 23, 24, 25, 26, 27, 28, 29, 30, 31] rfl
      have hD := hD.sub (ws' := cw_Main cI cZ cO amn apl abd alk atr mn lt ++ cw_Plan cI cZ cO apl pl ++ cw_Board cI cZ cO abd apl bd ++ cw_Locks cI cZ cO alk lk ++ cw_Trial cI cZ cO atr apl atb tr ++ cw_Board cI cZ cO atb apl tb) [0, 1, 32, 33, 34, 35, 36, 37, 38, 39, 40, 41, 42, 43, 44, 45, 46, 47, 48, 2, 3, 4, 5, 6, 7, 8, 9, 10, 11, 12, 13, 14, 15, 16, 17, 18, 19, 20, 21, 22, 23, 24, 25, 26, 27, 28, 29, 30, 31] (by decide) rfl
      generalize H1 = H at hP hS ⊢
      refine lv_if_eq (tgt := 44) hx hb nd_Main_step_25 (by decide) (fun c_50 => ?_) (fun c_50 => ?_)
      · have c_50t := cr_eq c_50
        rw [if_pos c_50] at hM
        refine lv_iconst (v := -1) hx hb nd_Main_step_44 (by decide) ?_
        exact W.iret (v := (-1 : Int32)) hx hb hr (fun t ht hW => ⟨⟨(-1 : Int32), (mn, lt, bd), rfl, ⟨by rw [hT, ← hM], by rw [hT, ← hM], by rw [hT, ← hM], by rw [hT, ← hM], hR_bd⟩, by rw [ht]; exact hP, va_K.moved hW.alike hK, hD⟩, hS.F ht⟩) hS.2.2 nd_Main_step_45
      · have c_50t := cr_ne c_50
        rw [if_neg c_50] at hM
        refine lv_iload hx hb nd_Main_step_28 (lv_at hl 0 rfl) ?_
        refine lv_if_eq (tgt := 46) hx hb nd_Main_step_30 (by decide) (fun c_51 => ?_) (fun c_51 => ?_)
        · exact absurd c_51 (by decide)
        · refine lv_aload_n hx hb nd_Main_step_33 rfl (lv_at hl 1 rfl) ?_
          refine va_get (D := (dC, dI)) (ci := 4) (v := .ref (apl 0)) (C := "CeilingRows") (T := nf_Main) (N := 6) hx hb hts nin_Main hown hK hP 0 rfl rfl 0 (by decide) (hts _ tw_138) (fun _ h9 => h9) rfl nd_Main_step_34 ?_
          refine lv_iload_n hx hb nd_Main_step_37 rfl (lv_at hl 4 rfl) ?_
          have hPc := hP.sub (ws' := cw_Plan cI cZ cO apl pl) [2, 3, 4, 5, 6, 7, 8, 9, 10, 11, 12, 13, 14, 15, 16, 17, 18] rfl
          have hDc := hD.sub (ws' := cw_Plan cI cZ cO apl pl) [2, 3, 4, 5, 6, 7, 8, 9, 10, 11, 12, 13, 14, 15, 16, 17, 18] (by decide) rfl
          have hFc := va_free (wc := cw_Plan cI cZ cO apl pl) hD hS hA [2, 3, 4, 5, 6, 7, 8, 9, 10, 11, 12, 13, 14, 15, 16, 17, 18] rfl
          refine va_calli (va_runV (As := [.int x3]) (rest := []) ⟨hx, hb, hml, hown, hts⟩ (ct_Plan_hasResource l dC dI cI cZ cO apl H.size pl x3 hR_pl) (cwV 1 hts (ng_V tw_185 tw_186 tw_187 tw_2 tw_188) rfl rfl rfl (by decide +kernel) ⟨Nat.le_of_ble_eq_true rfl, Nat.le_of_ble_eq_true rfl⟩) ⟨fun a U g mk q => by obtain ⟨q0, q1, qP, qK, qD⟩ := q; exact ⟨q0, q1, qP, va_K.moved (u := U) (U := U.calling g mk a) (Vm.Alike.refl U.vm) qK, qD⟩, va_recv hK hPc (ci := 0) (q0 := 0) rfl rfl, fun U hU hW => ⟨rfl, by rw [hU], by rw [hU]; exact hPc, va_K.moved hW.alike hK, hDc.weaken (fun _ _ _ _ => trivial)⟩⟩ rfl rfl hl.1 rfl (lv_room (Nat.le_of_ble_eq_true rfl)) nd_Main_step_38 ⟨Nat.zero_le _, Nat.zero_le _⟩) hS (fun q _ h => hFc q h) hFc (fun r_52 u t H1 locs ht hvm hw hB hz1 hk1 hS => ?_)
          obtain ⟨hP1, hK1, hD1⟩ := hB
          rw [ht] at hP1
          obtain ⟨w_53, f_54⟩ := hw
          try rw [← w_53] at hM
          obtain ⟨hP, hD⟩ := va_join (wr := cw_Main cI cZ cO amn apl abd alk atr mn lt ++ cw_Board cI cZ cO abd apl bd ++ cw_Locks cI cZ cO alk lk ++ cw_Trial cI cZ cO atr apl atb tr ++ cw_Board cI cZ cO atb apl tb) (w1 := cw_Plan cI cZ cO apl pl) hP hD [2, 3, 4, 5, 6, 7, 8, 9, 10, 11, 12, 13, 14, 15, 16, 17, 18] [0, 1, 19, 20, 21, 22, 23, 24, 25, 26, 27, 28, 29, 30, 31, 32, 33, 34, 35, 36, 37, 38, 39, 40, 41, 42, 43, 44, 45, 46, 47, 48] rfl rfl (by decide) (by decide) hk1 hFc hP1 hD1
          have hP := hP.sub (ws' := cw_Main cI cZ cO amn apl abd alk atr mn lt ++ cw_Plan cI cZ cO apl pl ++ cw_Board cI cZ cO abd apl bd ++ cw_Locks cI cZ cO alk lk ++ cw_Trial cI cZ cO atr apl atb tr ++ cw_Board cI cZ cO atb apl tb) [0, 1, 32, 33, 34, 35, 36, 37, 38, 39, 40, 41, 42, 43, 44, 45, 46, 47, 48, 2, 3, 4, 5, 6, 7, 8, 9, 10, 11, 12, 13, 14, 15, 16, 17, 18, 19, 20, 21, 22, 23, 24, 25, 26, 27, 28, 29, 30, 31] rfl
          have hD := hD.sub (ws' := cw_Main cI cZ cO amn apl abd alk atr mn lt ++ cw_Plan cI cZ cO apl pl ++ cw_Board cI cZ cO abd apl bd ++ cw_Locks cI cZ cO alk lk ++ cw_Trial cI cZ cO atr apl atb tr ++ cw_Board cI cZ cO atb apl tb) [0, 1, 32, 33, 34, 35, 36, 37, 38, 39, 40, 41, 42, 43, 44, 45, 46, 47, 48, 2, 3, 4, 5, 6, 7, 8, 9, 10, 11, 12, 13, 14, 15, 16, 17, 18, 19, 20, 21, 22, 23, 24, 25, 26, 27, 28, 29, 30, 31] (by decide) rfl
          generalize H1 = H at hP hS ⊢
          refine lv_if_ne (tgt := 46) hx hb nd_Main_step_41 (by decide) (fun c_55 => ?_) (fun c_55 => ?_)
          · have c_55t := cr_ne c_55
            rw [if_neg c_55] at hM
            refine lv_iload_n hx hb nd_Main_step_46 rfl (lv_at hl 3 rfl) ?_
            refine lv_if_lt (tgt := 74) hx hb nd_Main_step_47 (by decide) (fun c_56 => ?_) (fun c_56 => ?_)
            · have c_56t := cr_lt c_56
              rw [if_pos c_56] at hM
              refine lv_bipush (v := -2) hx hb nd_Main_step_74 (by decide) ?_
              exact W.iret (v := (-2 : Int32)) hx hb hr (fun t ht hW => ⟨⟨(-2 : Int32), (mn, lt, bd), rfl, ⟨by rw [hT, ← hM], by rw [hT, ← hM], by rw [hT, ← hM], by rw [hT, ← hM], hR_bd⟩, by rw [ht]; exact hP, va_K.moved hW.alike hK, hD⟩, hS.F ht⟩) hS.2.2 nd_Main_step_76
            · have c_56t := cr_nlt c_56
              rw [if_neg c_56] at hM
              refine lv_iload_n hx hb nd_Main_step_50 rfl (lv_at hl 3 rfl) ?_
              refine lv_iconst (v := 5) hx hb nd_Main_step_51 (by decide) ?_
              refine lv_icmp_gt (tgt := 74) hx hb nd_Main_step_52 (by decide) (fun c_57 => ?_) (fun c_57 => ?_)
              · have c_57t := cr_lt c_57
                rw [if_pos c_57] at hM
                refine lv_bipush (v := -2) hx hb nd_Main_step_74 (by decide) ?_
                exact W.iret (v := (-2 : Int32)) hx hb hr (fun t ht hW => ⟨⟨(-2 : Int32), (mn, lt, bd), rfl, ⟨by rw [hT, ← hM], by rw [hT, ← hM], by rw [hT, ← hM], by rw [hT, ← hM], hR_bd⟩, by rw [ht]; exact hP, va_K.moved hW.alike hK, hD⟩, hS.F ht⟩) hS.2.2 nd_Main_step_76
              · have c_57t := cr_nlt c_57
                rw [if_neg c_57] at hM
                refine lv_lload hx hb nd_Main_step_55 (lv_at hl 5 rfl) ?_
                refine lv_aload_n hx hb nd_Main_step_57 rfl (lv_at hl 1 rfl) ?_
                refine va_get (D := (dC, dI)) (ci := 4) (v := .long lt) (C := "CeilingRows") (T := nf_Main) (N := 6) hx hb hts nin_Main hown hK hP 0 rfl rfl 5 (by decide) (hts _ tw_143) (fun _ h9 => h9) rfl nd_Main_step_58 ?_
                refine W.lcmp hx hb nd_Main_step_61 ?_
                refine lv_if_lt (tgt := 74) hx hb nd_Main_step_62 (by decide) (fun c_58 => ?_) (fun c_58 => ?_)
                · have c_58t := cr_lt c_58
                  rw [if_pos c_58] at hM
                  refine lv_bipush (v := -2) hx hb nd_Main_step_74 (by decide) ?_
                  exact W.iret (v := (-2 : Int32)) hx hb hr (fun t ht hW => ⟨⟨(-2 : Int32), (mn, lt, bd), rfl, ⟨by rw [hT, ← hM], by rw [hT, ← hM], by rw [hT, ← hM], by rw [hT, ← hM], hR_bd⟩, by rw [ht]; exact hP, va_K.moved hW.alike hK, hD⟩, hS.F ht⟩) hS.2.2 nd_Main_step_76
                · have c_58t := cr_nlt c_58
                  rw [if_neg c_58] at hM
                  refine lv_lload hx hb nd_Main_step_65 (lv_at hl 5 rfl) ?_
                  refine lv_ldc2 (v := 1000000000) hx hb hown (hts _ tw_217) nd_Main_step_67 ?_
                  refine W.lcmp hx hb nd_Main_step_70 ?_
                  refine lv_if_le (tgt := 77) hx hb nd_Main_step_71 (by decide) (fun c_59 => ?_) (fun c_59 => ?_)
                  · have c_59t := cr_le c_59
                    rw [if_pos c_59] at hM
                    refine lv_aload_n hx hb nd_Main_step_77 rfl (lv_at hl 1 rfl) ?_
                    refine lv_iload_n hx hb nd_Main_step_78 rfl (lv_at hl 2 rfl) ?_
                    refine lv_iload_n hx hb nd_Main_step_79 rfl (lv_at hl 3 rfl) ?_
                    refine lv_iload_n hx hb nd_Main_step_80 rfl (lv_at hl 4 rfl) ?_
                    have hPc := hP
                    have hDc := hD
                    have hFc := va_free (wc := cw_Main cI cZ cO amn apl abd alk atr mn lt ++ cw_Plan cI cZ cO apl pl ++ cw_Board cI cZ cO abd apl bd ++ cw_Locks cI cZ cO alk lk ++ cw_Trial cI cZ cO atr apl atb tr ++ cw_Board cI cZ cO atb apl tb) hD hS hA [0, 1, 2, 3, 4, 5, 6, 7, 8, 9, 10, 11, 12, 13, 14, 15, 16, 17, 18, 19, 20, 21, 22, 23, 24, 25, 26, 27, 28, 29, 30, 31, 32, 33, 34, 35, 36, 37, 38, 39, 40, 41, 42, 43, 44, 45, 46, 47, 48] rfl
                    refine va_calli (va_runV (As := [.int x1, .int x2, .int x3]) (rest := []) ⟨hx, hb, hml, hown, hts⟩ (ct_Main_perform l dC dI cI cZ cO amn apl abd alk atr atb H.size mn lt pl bd lk tr tb x1 x2 x3 hR_tb hR_lk hR_bd hR_pl (by omega) (by omega) (by omega)) (cwV 3 hts (ng_V tw_218 tw_220 tp_0 tw_1 tw_221) rfl rfl rfl (by decide +kernel) ⟨Nat.le_of_ble_eq_true rfl, Nat.le_of_ble_eq_true rfl⟩) ⟨fun a U g mk q => by obtain ⟨q0, q1, qP, qK, qD⟩ := q; exact ⟨q0, q1, qP, va_K.moved (u := U) (U := U.calling g mk a) (Vm.Alike.refl U.vm) qK, qD⟩, va_recv hK hPc (ci := 4) (q0 := 0) rfl rfl, fun U hU hW => ⟨rfl, by rw [hU], by rw [hU]; exact hPc, va_K.moved hW.alike hK, hDc.weaken (fun _ _ _ _ => trivial)⟩⟩ rfl rfl hl.1 rfl (lv_room (Nat.le_of_ble_eq_true rfl)) nd_Main_step_81 ⟨Nat.zero_le _, Nat.zero_le _⟩) hS (fun q _ h => hFc q h) hFc (fun r_60 u t H1 locs ht hvm hw hB hz1 hk1 hS => ?_)
                    obtain ⟨hP1, hK1, hD1⟩ := hB
                    rw [ht] at hP1
                    obtain ⟨mnq_62, ltq_64, bdq_66⟩ := u
                    dsimp only at hw hP1 hD1
                    obtain ⟨w_61, w_63, w_65, w_67, hR_68⟩ := hw
                    try rw [← w_61] at hM
                    try rw [← w_63] at hM
                    try rw [← w_65] at hM
                    try rw [← w_67] at hM
                    have hP := hP1
                    have hD := cr_Dw hD1 hFc
                    generalize H1 = H at hP hS ⊢
                    refine lv_istore (lv' := [(7, .int r_60), (6, .int (1 : Int32)), (0, .ref (amn 0)), (1, .int x1), (2, .int x2), (3, .int x3), (4, .long x4)]) hx hb nd_Main_step_84 hl (by decide) rfl (fun ls hl => ?_)
                    refine lv_iload hx hb nd_Main_step_86 (lv_at hl 0 rfl) ?_
                    refine lv_if_ge (tgt := 98) hx hb nd_Main_step_88 (by decide) (fun c_69 => ?_) (fun c_69 => ?_)
                    · have c_69t := cr_le c_69
                      rw [if_pos c_69] at hM
                      refine lv_aload_n hx hb nd_Main_step_98 rfl (lv_at hl 2 rfl) ?_
                      refine lv_lload hx hb nd_Main_step_99 (lv_at hl 6 rfl) ?_
                      refine va_put (D := (dC, dI)) (ci := 4) (v := .long x4) (ty := .long) (C := "CeilingRows") (T := nf_Main) (N := 6) hx hb hts nin_Main nt_Main nto_Main nno_Main hown hK hP hD hS 0 rfl rfl 5 (by decide) (hts _ tw_143) (fun _ h9 => h9) rfl (by decide +kernel) rfl rfl (Nat.le_of_ble_eq_true rfl) nd_Main_step_101 (fun H locs hP hD hS => ?_)
                      have hP : va_P (dC, dI) vwCl (cw_Main cI cZ cO amn apl abd alk atr mnq_62 x4 ++ cw_Plan cI cZ cO apl pl ++ cw_Board cI cZ cO abd apl bdq_66 ++ cw_Locks cI cZ cO alk lk ++ cw_Trial cI cZ cO atr apl atb tr ++ cw_Board cI cZ cO atb apl tb) H := hP
                      have hD : va_D A (cw_Main cI cZ cO amn apl abd alk atr mnq_62 x4 ++ cw_Plan cI cZ cO apl pl ++ cw_Board cI cZ cO abd apl bdq_66 ++ cw_Locks cI cZ cO alk lk ++ cw_Trial cI cZ cO atr apl atb tr ++ cw_Board cI cZ cO atb apl tb) := hD
                      refine lv_iload hx hb nd_Main_step_104 (lv_at hl 0 rfl) ?_
                      exact W.iret (v := r_60) hx hb hr (fun t ht hW => ⟨⟨r_60, (mnq_62, x4, bdq_66), rfl, ⟨by rw [hT, ← hM], by rw [hT, ← hM], by rw [hT, ← hM], by rw [hT, ← hM], hR_68⟩, by rw [ht]; exact hP, va_K.moved hW.alike hK, hD⟩, hS.F ht⟩) hS.2.2 nd_Main_step_106
                    · have c_69t := cr_nle c_69
                      rw [if_neg c_69] at hM
                      refine lv_iload hx hb nd_Main_step_91 (lv_at hl 0 rfl) ?_
                      refine lv_bipush (v := -14) hx hb nd_Main_step_93 (by decide) ?_
                      refine lv_icmp_ne (tgt := 104) hx hb nd_Main_step_95 (by decide) (fun c_70 => ?_) (fun c_70 => ?_)
                      · have c_70t := cr_ne c_70
                        rw [if_neg c_70] at hM
                        refine lv_iload hx hb nd_Main_step_104 (lv_at hl 0 rfl) ?_
                        exact W.iret (v := r_60) hx hb hr (fun t ht hW => ⟨⟨r_60, (mnq_62, ltq_64, bdq_66), rfl, ⟨by rw [hT, ← hM], by rw [hT, ← hM], by rw [hT, ← hM], by rw [hT, ← hM], hR_68⟩, by rw [ht]; exact hP, va_K.moved hW.alike hK, hD⟩, hS.F ht⟩) hS.2.2 nd_Main_step_106
                      · have c_70t := cr_eq c_70
                        rw [if_pos c_70] at hM
                        refine lv_aload_n hx hb nd_Main_step_98 rfl (lv_at hl 2 rfl) ?_
                        refine lv_lload hx hb nd_Main_step_99 (lv_at hl 6 rfl) ?_
                        refine va_put (D := (dC, dI)) (ci := 4) (v := .long x4) (ty := .long) (C := "CeilingRows") (T := nf_Main) (N := 6) hx hb hts nin_Main nt_Main nto_Main nno_Main hown hK hP hD hS 0 rfl rfl 5 (by decide) (hts _ tw_143) (fun _ h9 => h9) rfl (by decide +kernel) rfl rfl (Nat.le_of_ble_eq_true rfl) nd_Main_step_101 (fun H locs hP hD hS => ?_)
                        have hP : va_P (dC, dI) vwCl (cw_Main cI cZ cO amn apl abd alk atr mnq_62 x4 ++ cw_Plan cI cZ cO apl pl ++ cw_Board cI cZ cO abd apl bdq_66 ++ cw_Locks cI cZ cO alk lk ++ cw_Trial cI cZ cO atr apl atb tr ++ cw_Board cI cZ cO atb apl tb) H := hP
                        have hD : va_D A (cw_Main cI cZ cO amn apl abd alk atr mnq_62 x4 ++ cw_Plan cI cZ cO apl pl ++ cw_Board cI cZ cO abd apl bdq_66 ++ cw_Locks cI cZ cO alk lk ++ cw_Trial cI cZ cO atr apl atb tr ++ cw_Board cI cZ cO atb apl tb) := hD
                        refine lv_iload hx hb nd_Main_step_104 (lv_at hl 0 rfl) ?_
                        exact W.iret (v := r_60) hx hb hr (fun t ht hW => ⟨⟨r_60, (mnq_62, x4, bdq_66), rfl, ⟨by rw [hT, ← hM], by rw [hT, ← hM], by rw [hT, ← hM], by rw [hT, ← hM], hR_68⟩, by rw [ht]; exact hP, va_K.moved hW.alike hK, hD⟩, hS.F ht⟩) hS.2.2 nd_Main_step_106
                  · have c_59t := cr_nle c_59
                    rw [if_neg c_59] at hM
                    refine lv_bipush (v := -2) hx hb nd_Main_step_74 (by decide) ?_
                    exact W.iret (v := (-2 : Int32)) hx hb hr (fun t ht hW => ⟨⟨(-2 : Int32), (mn, lt, bd), rfl, ⟨by rw [hT, ← hM], by rw [hT, ← hM], by rw [hT, ← hM], by rw [hT, ← hM], hR_bd⟩, by rw [ht]; exact hP, va_K.moved hW.alike hK, hD⟩, hS.F ht⟩) hS.2.2 nd_Main_step_76
          · have c_55t := cr_eq c_55
            rw [if_pos c_55] at hM
            refine lv_iconst (v := -1) hx hb nd_Main_step_44 (by decide) ?_
            exact W.iret (v := (-1 : Int32)) hx hb hr (fun t ht hW => ⟨⟨(-1 : Int32), (mn, lt, bd), rfl, ⟨by rw [hT, ← hM], by rw [hT, ← hM], by rw [hT, ← hM], by rw [hT, ← hM], hR_bd⟩, by rw [ht]; exact hP, va_K.moved hW.alike hK, hD⟩, hS.F ht⟩) hS.2.2 nd_Main_step_45

theorem nd_Main_rank_0 : decode prog_1_method_7_code 0 = .ok (.aload_n 0, 1) := by decide +kernel
theorem nd_Main_rank_1 : decode prog_1_method_7_code 1 = .ok (.getfield 12, 3) := by decide +kernel
theorem nd_Main_rank_4 : decode prog_1_method_7_code 4 = .ok (.iload_n 1, 1) := by decide +kernel
theorem nd_Main_rank_5 : decode prog_1_method_7_code 5 = .ok (.invokevirtual 66, 3) := by decide +kernel
theorem nd_Main_rank_8 : decode prog_1_method_7_code 8 = .ok (.ifCond .eq (14), 3) := by decide +kernel
theorem nd_Main_rank_11 : decode prog_1_method_7_code 11 = .ok (.aload_n 0, 1) := by decide +kernel
theorem nd_Main_rank_12 : decode prog_1_method_7_code 12 = .ok (.getfield 21, 3) := by decide +kernel
theorem nd_Main_rank_15 : decode prog_1_method_7_code 15 = .ok (.iload_n 1, 1) := by decide +kernel
theorem nd_Main_rank_16 : decode prog_1_method_7_code 16 = .ok (.invokevirtual 101, 3) := by decide +kernel
theorem nd_Main_rank_19 : decode prog_1_method_7_code 19 = .ok (.goto (4), 3) := by decide +kernel
theorem nd_Main_rank_22 : decode prog_1_method_7_code 22 = .ok (.iconst (-1), 1) := by decide +kernel
theorem nd_Main_rank_23 : decode prog_1_method_7_code 23 = .ok (.ireturn, 1) := by decide +kernel
def md_Main_rank (mn : cr_S) (lt : Int64) (pl : cr_S) (bd : cr_S) (lk : cr_S) (tr : cr_S) (tb : cr_S) (x1 : Int32) : Int32 :=
  (if (md_Plan_hasTask pl x1) = 0 then (-1 : Int32) else (md_Board_rankNow pl bd x1))
abbrev pq_Main_rank (dC : Nat → ClassId) (dI : Nat → Nat → Nat) (cI cZ cO : ClassId) (amn apl abd alk atr atb : Nat → Nat) (mn : cr_S) (lt : Int64) (pl : cr_S) (bd : cr_S) (lk : cr_S) (tr : cr_S) (tb : cr_S) (x1 : Int32) (A : Nat → Prop) : Array Value → State → Outcome → State → Prop :=
  va_Qi (fun (r : Int32) (_ : Unit) => r = md_Main_rank mn lt pl bd lk tr tb x1) (fun (_ : Unit) t => va_P (dC, dI) vwCl (cw_Main cI cZ cO amn apl abd alk atr mn lt ++ cw_Plan cI cZ cO apl pl ++ cw_Board cI cZ cO abd apl bd ++ cw_Locks cI cZ cO alk lk ++ cw_Trial cI cZ cO atr apl atb tr ++ cw_Board cI cZ cO atb apl tb) t.heap ∧ va_K (dC, dI) vwCl [(cI, .int), (cZ, .boolean), (cO, .array .int)] t ∧ va_D A (cw_Main cI cZ cO amn apl abd alk atr mn lt ++ cw_Plan cI cZ cO apl pl ++ cw_Board cI cZ cO abd apl bd ++ cw_Locks cI cZ cO alk lk ++ cw_Trial cI cZ cO atr apl atb tr ++ cw_Board cI cZ cO atb apl tb)) A
set_option maxHeartbeats 4000000 in
set_option maxRecDepth 100000 in
theorem ct_Main_rank (l : Launch) (dC : Nat → ClassId) (dI : Nat → Nat → Nat) (cI cZ cO : ClassId) (amn apl abd alk atr atb : Nat → Nat) (sz : Nat) (mn : cr_S) (lt : Int64) (pl : cr_S) (bd : cr_S) (lk : cr_S) (tr : cr_S) (tb : cr_S) (x1 : Int32) (hR_tb : cr_RBoard tb) (hR_lk : cr_RLocks lk) (hR_bd : cr_RBoard bd) (hR_pl : cr_RPlan pl) : Met l ny_Main_rank nw_Main_rank ({ frames := 2, cells := 0, slots := 0, locals := 44 } : Room) (va_Pc [.ref (amn 0), .int x1] (fun U => U.heap.size = sz ∧ va_P (dC, dI) vwCl (cw_Main cI cZ cO amn apl abd alk atr mn lt ++ cw_Plan cI cZ cO apl pl ++ cw_Board cI cZ cO abd apl bd ++ cw_Locks cI cZ cO alk lk ++ cw_Trial cI cZ cO atr apl atb tr ++ cw_Board cI cZ cO atb apl tb) U.heap ∧ va_K (dC, dI) vwCl [(cI, .int), (cZ, .boolean), (cO, .array .int)] U ∧ va_D (fun _ => True) (cw_Main cI cZ cO amn apl abd alk atr mn lt ++ cw_Plan cI cZ cO apl pl ++ cw_Board cI cZ cO abd apl bd ++ cw_Locks cI cZ cO alk lk ++ cw_Trial cI cZ cO atr apl atb tr ++ cw_Board cI cZ cO atb apl tb))) (pq_Main_rank dC dI cI cZ cO amn apl abd alk atr atb mn lt pl bd lk tr tb x1 (va_A (cw_Main cI cZ cO amn apl abd alk atr mn lt ++ cw_Plan cI cZ cO apl pl ++ cw_Board cI cZ cO abd apl bd ++ cw_Locks cI cZ cO alk lk ++ cw_Trial cI cZ cO atr apl atb tr ++ cw_Board cI cZ cO atb apl tb) sz)) 0 0 (va_A (cw_Main cI cZ cO amn apl abd alk atr mn lt ++ cw_Plan cI cZ cO apl pl ++ cw_Board cI cZ cO abd apl bd ++ cw_Locks cI cZ cO alk lk ++ cw_Trial cI cZ cO atr apl atb tr ++ cw_Board cI cZ cO atb apl tb) sz) := by
  refine Met.ofW (cc := prog_1_method_7_code) (maxL := 2) (ret := (some .int)) (by decide) rfl ?_
  intro p e s m args below meth c s₁ B hml hv
  obtain ⟨rfl, hsz, hP, hK, hD0⟩ := hv
  have hx := B.exec
  have hb := B.bytes
  have hr := B.returns
  have hts0 := atoms_spec (ws := nw_Main_rank) B.pre
  have hts : ∀ w ∈ ng_tbl, w.before ([.ref (amn 0), .int x1] : List Value).toArray s = true := fun w h => hts0 w (List.mem_cons_of_mem _ h)
  have hown : s.vm.findClass "CeilingRows" = some m.cls := findClass_of_methodNamed B.named
  have hlocks := B.notSynchronized
  subst hsz
  have hD := hD0.self (sz := s.heap.size)
  generalize hAe : va_A (cw_Main cI cZ cO amn apl abd alk atr mn lt ++ cw_Plan cI cZ cO apl pl ++ cw_Board cI cZ cO abd apl bd ++ cw_Locks cI cZ cO alk lk ++ cw_Trial cI cZ cO atr apl atb tr ++ cw_Board cI cZ cO atb apl tb) s.heap.size = A at hD ⊢
  have hA : ∀ q : Nat, s.heap.size ≤ q → A q := fun q h => by rw [← hAe]; exact Or.inr h
  have hS : va_S A s.heap s.heap [] := va_S.rf
  have hP : va_P (dC, dI) vwCl (cw_Main cI cZ cO amn apl abd alk atr mn lt ++ cw_Plan cI cZ cO apl pl ++ cw_Board cI cZ cO abd apl bd ++ cw_Locks cI cZ cO alk lk ++ cw_Trial cI cZ cO atr apl atb tr ++ cw_Board cI cZ cO atb apl tb) s.heap := hP
  have hl := lv_entry ([.ref (amn 0), .int x1]) (n := 2) (Nat.le_of_ble_eq_true rfl)
  rw [lg_entry_eq]
  generalize (lg_sl ([.ref (amn 0), .int x1]) ++ List.replicate (2 - (lg_sl ([.ref (amn 0), .int x1])).length) Slot.unset).toArray = ls at hl ⊢
  have hl : lv_has ls 2 [(0, .ref (amn 0)), (1, .int x1)] := hl
  have k_m1 : (-1 : Int32).toInt = -1 := by decide
  have k_0 : (0 : Int32).toInt = 0 := by decide
  obtain ⟨tgt, hT⟩ : ∃ z, md_Main_rank mn lt pl bd lk tr tb x1 = z := ⟨_, rfl⟩
  have hM := hT
  unfold md_Main_rank at hM
  refine lv_aload_n hx hb nd_Main_rank_0 rfl (lv_at hl 0 rfl) ?_
  refine va_get (D := (dC, dI)) (ci := 4) (v := .ref (apl 0)) (C := "CeilingRows") (T := nf_Main) (N := 6) hx hb hts nin_Main hown hK hP 0 rfl rfl 0 (by decide) (hts _ tw_138) (fun _ h9 => h9) rfl nd_Main_rank_1 ?_
  refine lv_iload_n hx hb nd_Main_rank_4 rfl (lv_at hl 1 rfl) ?_
  have hPc := hP.sub (ws' := cw_Plan cI cZ cO apl pl) [2, 3, 4, 5, 6, 7, 8, 9, 10, 11, 12, 13, 14, 15, 16, 17, 18] rfl
  have hDc := hD.sub (ws' := cw_Plan cI cZ cO apl pl) [2, 3, 4, 5, 6, 7, 8, 9, 10, 11, 12, 13, 14, 15, 16, 17, 18] (by decide) rfl
  have hFc := va_free (wc := cw_Plan cI cZ cO apl pl) hD hS hA [2, 3, 4, 5, 6, 7, 8, 9, 10, 11, 12, 13, 14, 15, 16, 17, 18] rfl
  refine va_calli (va_runV (As := [.int x1]) (rest := []) ⟨hx, hb, hml, hown, hts⟩ (ct_Plan_hasTask l dC dI cI cZ cO apl s.heap.size pl x1 hR_pl) (cwV 1 hts (ng_V tw_181 tw_182 tw_183 tw_2 tw_184) rfl rfl rfl (by decide +kernel) ⟨Nat.le_of_ble_eq_true rfl, Nat.le_of_ble_eq_true rfl⟩) ⟨fun a U g mk q => by obtain ⟨q0, q1, qP, qK, qD⟩ := q; exact ⟨q0, q1, qP, va_K.moved (u := U) (U := U.calling g mk a) (Vm.Alike.refl U.vm) qK, qD⟩, va_recv hK hPc (ci := 0) (q0 := 0) rfl rfl, fun U hU hW => ⟨rfl, by rw [hU], by rw [hU]; exact hPc, va_K.moved hW.alike hK, hDc.weaken (fun _ _ _ _ => trivial)⟩⟩ rfl rfl hl.1 rfl (lv_room (Nat.le_of_ble_eq_true rfl)) nd_Main_rank_5 ⟨Nat.zero_le _, Nat.zero_le _⟩) hS (fun q _ h => hFc q h) hFc (fun r_1 u t H1 locs ht hvm hw hB hz1 hk1 hS => ?_)
  obtain ⟨hP1, hK1, hD1⟩ := hB
  rw [ht] at hP1
  obtain ⟨w_2, f_3⟩ := hw
  try rw [← w_2] at hM
  obtain ⟨hP, hD⟩ := va_join (wr := cw_Main cI cZ cO amn apl abd alk atr mn lt ++ cw_Board cI cZ cO abd apl bd ++ cw_Locks cI cZ cO alk lk ++ cw_Trial cI cZ cO atr apl atb tr ++ cw_Board cI cZ cO atb apl tb) (w1 := cw_Plan cI cZ cO apl pl) hP hD [2, 3, 4, 5, 6, 7, 8, 9, 10, 11, 12, 13, 14, 15, 16, 17, 18] [0, 1, 19, 20, 21, 22, 23, 24, 25, 26, 27, 28, 29, 30, 31, 32, 33, 34, 35, 36, 37, 38, 39, 40, 41, 42, 43, 44, 45, 46, 47, 48] rfl rfl (by decide) (by decide) hk1 hFc hP1 hD1
  have hP := hP.sub (ws' := cw_Main cI cZ cO amn apl abd alk atr mn lt ++ cw_Plan cI cZ cO apl pl ++ cw_Board cI cZ cO abd apl bd ++ cw_Locks cI cZ cO alk lk ++ cw_Trial cI cZ cO atr apl atb tr ++ cw_Board cI cZ cO atb apl tb) [0, 1, 32, 33, 34, 35, 36, 37, 38, 39, 40, 41, 42, 43, 44, 45, 46, 47, 48, 2, 3, 4, 5, 6, 7, 8, 9, 10, 11, 12, 13, 14, 15, 16, 17, 18, 19, 20, 21, 22, 23, 24, 25, 26, 27, 28, 29, 30, 31] rfl
  have hD := hD.sub (ws' := cw_Main cI cZ cO amn apl abd alk atr mn lt ++ cw_Plan cI cZ cO apl pl ++ cw_Board cI cZ cO abd apl bd ++ cw_Locks cI cZ cO alk lk ++ cw_Trial cI cZ cO atr apl atb tr ++ cw_Board cI cZ cO atb apl tb) [0, 1, 32, 33, 34, 35, 36, 37, 38, 39, 40, 41, 42, 43, 44, 45, 46, 47, 48, 2, 3, 4, 5, 6, 7, 8, 9, 10, 11, 12, 13, 14, 15, 16, 17, 18, 19, 20, 21, 22, 23, 24, 25, 26, 27, 28, 29, 30, 31] (by decide) rfl
  generalize H1 = H at hP hS ⊢
  refine lv_if_eq (tgt := 22) hx hb nd_Main_rank_8 (by decide) (fun c_4 => ?_) (fun c_4 => ?_)
  · have c_4t := cr_eq c_4
    rw [if_pos c_4] at hM
    refine lv_iconst (v := -1) hx hb nd_Main_rank_22 (by decide) ?_
    exact W.iret (v := (-1 : Int32)) hx hb hr (fun t ht hW => ⟨⟨(-1 : Int32), (), rfl, by rw [hT, ← hM], by rw [ht]; exact hP, va_K.moved hW.alike hK, hD⟩, hS.F ht⟩) hS.2.2 nd_Main_rank_23
  · have c_4t := cr_ne c_4
    rw [if_neg c_4] at hM
    refine lv_aload_n hx hb nd_Main_rank_11 rfl (lv_at hl 0 rfl) ?_
    refine va_get (D := (dC, dI)) (ci := 4) (v := .ref (abd 0)) (C := "CeilingRows") (T := nf_Main) (N := 6) hx hb hts nin_Main hown hK hP 0 rfl rfl 1 (by decide) (hts _ tw_139) (fun _ h9 => h9) rfl nd_Main_rank_12 ?_
    refine lv_iload_n hx hb nd_Main_rank_15 rfl (lv_at hl 1 rfl) ?_
    have hPc := hP.sub (ws' := cw_Plan cI cZ cO apl pl ++ cw_Board cI cZ cO abd apl bd) [2, 3, 4, 5, 6, 7, 8, 9, 10, 11, 12, 13, 14, 15, 16, 17, 18, 19, 20, 21, 22, 23, 24] rfl
    have hDc := hD.sub (ws' := cw_Plan cI cZ cO apl pl ++ cw_Board cI cZ cO abd apl bd) [2, 3, 4, 5, 6, 7, 8, 9, 10, 11, 12, 13, 14, 15, 16, 17, 18, 19, 20, 21, 22, 23, 24] (by decide) rfl
    have hFc := va_free (wc := cw_Plan cI cZ cO apl pl ++ cw_Board cI cZ cO abd apl bd) hD hS hA [2, 3, 4, 5, 6, 7, 8, 9, 10, 11, 12, 13, 14, 15, 16, 17, 18, 19, 20, 21, 22, 23, 24] rfl
    refine va_calli (va_runV (As := [.int x1]) (rest := []) ⟨hx, hb, hml, hown, hts⟩ (ct_Board_rankNow l dC dI cI cZ cO apl abd H.size pl bd x1 hR_bd hR_pl (by omega)) (cwV 1 hts (ng_V tw_289 tw_243 tw_244 tw_3 tw_245) rfl rfl rfl (by decide +kernel) ⟨Nat.le_of_ble_eq_true rfl, Nat.le_of_ble_eq_true rfl⟩) ⟨fun a U g mk q => by obtain ⟨q0, q1, qP, qK, qD⟩ := q; exact ⟨q0, q1, qP, va_K.moved (u := U) (U := U.calling g mk a) (Vm.Alike.refl U.vm) qK, qD⟩, va_recv hK hPc (ci := 1) (q0 := 17) rfl rfl, fun U hU hW => ⟨rfl, by rw [hU], by rw [hU]; exact hPc, va_K.moved hW.alike hK, hDc.weaken (fun _ _ _ _ => trivial)⟩⟩ rfl rfl hl.1 rfl (lv_room (Nat.le_of_ble_eq_true rfl)) nd_Main_rank_16 ⟨Nat.zero_le _, Nat.zero_le _⟩) hS (fun q _ h => hFc q h) hFc (fun r_5 u t H1 locs ht hvm hw hB hz1 hk1 hS => ?_)
    obtain ⟨hP1, hK1, hD1⟩ := hB
    rw [ht] at hP1
    have w_6 := hw
    try rw [← w_6] at hM
    obtain ⟨hP, hD⟩ := va_join (wr := cw_Main cI cZ cO amn apl abd alk atr mn lt ++ cw_Locks cI cZ cO alk lk ++ cw_Trial cI cZ cO atr apl atb tr ++ cw_Board cI cZ cO atb apl tb) (w1 := cw_Plan cI cZ cO apl pl ++ cw_Board cI cZ cO abd apl bd) hP hD [2, 3, 4, 5, 6, 7, 8, 9, 10, 11, 12, 13, 14, 15, 16, 17, 18, 19, 20, 21, 22, 23, 24] [0, 1, 25, 26, 27, 28, 29, 30, 31, 32, 33, 34, 35, 36, 37, 38, 39, 40, 41, 42, 43, 44, 45, 46, 47, 48] rfl rfl (by decide) (by decide) hk1 hFc hP1 hD1
    have hP := hP.sub (ws' := cw_Main cI cZ cO amn apl abd alk atr mn lt ++ cw_Plan cI cZ cO apl pl ++ cw_Board cI cZ cO abd apl bd ++ cw_Locks cI cZ cO alk lk ++ cw_Trial cI cZ cO atr apl atb tr ++ cw_Board cI cZ cO atb apl tb) [0, 1, 26, 27, 28, 29, 30, 31, 32, 33, 34, 35, 36, 37, 38, 39, 40, 41, 42, 43, 44, 45, 46, 47, 48, 2, 3, 4, 5, 6, 7, 8, 9, 10, 11, 12, 13, 14, 15, 16, 17, 18, 19, 20, 21, 22, 23, 24, 25] rfl
    have hD := hD.sub (ws' := cw_Main cI cZ cO amn apl abd alk atr mn lt ++ cw_Plan cI cZ cO apl pl ++ cw_Board cI cZ cO abd apl bd ++ cw_Locks cI cZ cO alk lk ++ cw_Trial cI cZ cO atr apl atb tr ++ cw_Board cI cZ cO atb apl tb) [0, 1, 26, 27, 28, 29, 30, 31, 32, 33, 34, 35, 36, 37, 38, 39, 40, 41, 42, 43, 44, 45, 46, 47, 48, 2, 3, 4, 5, 6, 7, 8, 9, 10, 11, 12, 13, 14, 15, 16, 17, 18, 19, 20, 21, 22, 23, 24, 25] (by decide) rfl
    generalize H1 = H at hP hS ⊢
    refine lv_goto (tgt := 23) hx hb nd_Main_rank_19 (by decide) ?_
    exact W.iret (v := r_5) hx hb hr (fun t ht hW => ⟨⟨r_5, (), rfl, by rw [hT, ← hM], by rw [ht]; exact hP, va_K.moved hW.alike hK, hD⟩, hS.F ht⟩) hS.2.2 nd_Main_rank_23

theorem nd_Main_holder_0 : decode prog_1_method_8_code 0 = .ok (.aload_n 0, 1) := by decide +kernel
theorem nd_Main_holder_1 : decode prog_1_method_8_code 1 = .ok (.getfield 12, 3) := by decide +kernel
theorem nd_Main_holder_4 : decode prog_1_method_8_code 4 = .ok (.iload_n 1, 1) := by decide +kernel
theorem nd_Main_holder_5 : decode prog_1_method_8_code 5 = .ok (.invokevirtual 69, 3) := by decide +kernel
theorem nd_Main_holder_8 : decode prog_1_method_8_code 8 = .ok (.ifCond .eq (15), 3) := by decide +kernel
theorem nd_Main_holder_11 : decode prog_1_method_8_code 11 = .ok (.aload_n 0, 1) := by decide +kernel
theorem nd_Main_holder_12 : decode prog_1_method_8_code 12 = .ok (.getfield 21, 3) := by decide +kernel
theorem nd_Main_holder_15 : decode prog_1_method_8_code 15 = .ok (.getfield 105, 3) := by decide +kernel
theorem nd_Main_holder_18 : decode prog_1_method_8_code 18 = .ok (.iload_n 1, 1) := by decide +kernel
theorem nd_Main_holder_19 : decode prog_1_method_8_code 19 = .ok (.iaload, 1) := by decide +kernel
theorem nd_Main_holder_20 : decode prog_1_method_8_code 20 = .ok (.goto (4), 3) := by decide +kernel
theorem nd_Main_holder_23 : decode prog_1_method_8_code 23 = .ok (.iconst (-1), 1) := by decide +kernel
theorem nd_Main_holder_24 : decode prog_1_method_8_code 24 = .ok (.ireturn, 1) := by decide +kernel
def md_Main_holder (mn : cr_S) (lt : Int64) (pl : cr_S) (bd : cr_S) (lk : cr_S) (tr : cr_S) (tb : cr_S) (x1 : Int32) : Int32 :=
  (if (md_Plan_hasResource pl x1) = 0 then (-1 : Int32) else (bd 4 x1.toNatClampNeg))
abbrev pq_Main_holder (dC : Nat → ClassId) (dI : Nat → Nat → Nat) (cI cZ cO : ClassId) (amn apl abd alk atr atb : Nat → Nat) (mn : cr_S) (lt : Int64) (pl : cr_S) (bd : cr_S) (lk : cr_S) (tr : cr_S) (tb : cr_S) (x1 : Int32) (A : Nat → Prop) : Array Value → State → Outcome → State → Prop :=
  va_Qi (fun (r : Int32) (_ : Unit) => r = md_Main_holder mn lt pl bd lk tr tb x1) (fun (_ : Unit) t => va_P (dC, dI) vwCl (cw_Main cI cZ cO amn apl abd alk atr mn lt ++ cw_Plan cI cZ cO apl pl ++ cw_Board cI cZ cO abd apl bd ++ cw_Locks cI cZ cO alk lk ++ cw_Trial cI cZ cO atr apl atb tr ++ cw_Board cI cZ cO atb apl tb) t.heap ∧ va_K (dC, dI) vwCl [(cI, .int), (cZ, .boolean), (cO, .array .int)] t ∧ va_D A (cw_Main cI cZ cO amn apl abd alk atr mn lt ++ cw_Plan cI cZ cO apl pl ++ cw_Board cI cZ cO abd apl bd ++ cw_Locks cI cZ cO alk lk ++ cw_Trial cI cZ cO atr apl atb tr ++ cw_Board cI cZ cO atb apl tb)) A
set_option maxHeartbeats 4000000 in
set_option maxRecDepth 100000 in
theorem ct_Main_holder (l : Launch) (dC : Nat → ClassId) (dI : Nat → Nat → Nat) (cI cZ cO : ClassId) (amn apl abd alk atr atb : Nat → Nat) (sz : Nat) (mn : cr_S) (lt : Int64) (pl : cr_S) (bd : cr_S) (lk : cr_S) (tr : cr_S) (tb : cr_S) (x1 : Int32) (hR_tb : cr_RBoard tb) (hR_lk : cr_RLocks lk) (hR_bd : cr_RBoard bd) (hR_pl : cr_RPlan pl) : Met l ny_Main_holder nw_Main_holder ({ frames := 1, cells := 0, slots := 0, locals := 21 } : Room) (va_Pc [.ref (amn 0), .int x1] (fun U => U.heap.size = sz ∧ va_P (dC, dI) vwCl (cw_Main cI cZ cO amn apl abd alk atr mn lt ++ cw_Plan cI cZ cO apl pl ++ cw_Board cI cZ cO abd apl bd ++ cw_Locks cI cZ cO alk lk ++ cw_Trial cI cZ cO atr apl atb tr ++ cw_Board cI cZ cO atb apl tb) U.heap ∧ va_K (dC, dI) vwCl [(cI, .int), (cZ, .boolean), (cO, .array .int)] U ∧ va_D (fun _ => True) (cw_Main cI cZ cO amn apl abd alk atr mn lt ++ cw_Plan cI cZ cO apl pl ++ cw_Board cI cZ cO abd apl bd ++ cw_Locks cI cZ cO alk lk ++ cw_Trial cI cZ cO atr apl atb tr ++ cw_Board cI cZ cO atb apl tb))) (pq_Main_holder dC dI cI cZ cO amn apl abd alk atr atb mn lt pl bd lk tr tb x1 (va_A (cw_Main cI cZ cO amn apl abd alk atr mn lt ++ cw_Plan cI cZ cO apl pl ++ cw_Board cI cZ cO abd apl bd ++ cw_Locks cI cZ cO alk lk ++ cw_Trial cI cZ cO atr apl atb tr ++ cw_Board cI cZ cO atb apl tb) sz)) 0 0 (va_A (cw_Main cI cZ cO amn apl abd alk atr mn lt ++ cw_Plan cI cZ cO apl pl ++ cw_Board cI cZ cO abd apl bd ++ cw_Locks cI cZ cO alk lk ++ cw_Trial cI cZ cO atr apl atb tr ++ cw_Board cI cZ cO atb apl tb) sz) := by
  refine Met.ofW (cc := prog_1_method_8_code) (maxL := 2) (ret := (some .int)) (by decide) rfl ?_
  intro p e s m args below meth c s₁ B hml hv
  obtain ⟨rfl, hsz, hP, hK, hD0⟩ := hv
  have hx := B.exec
  have hb := B.bytes
  have hr := B.returns
  have hts0 := atoms_spec (ws := nw_Main_holder) B.pre
  have hts : ∀ w ∈ ng_tbl, w.before ([.ref (amn 0), .int x1] : List Value).toArray s = true := fun w h => hts0 w (List.mem_cons_of_mem _ h)
  have hown : s.vm.findClass "CeilingRows" = some m.cls := findClass_of_methodNamed B.named
  have hlocks := B.notSynchronized
  subst hsz
  have hD := hD0.self (sz := s.heap.size)
  generalize hAe : va_A (cw_Main cI cZ cO amn apl abd alk atr mn lt ++ cw_Plan cI cZ cO apl pl ++ cw_Board cI cZ cO abd apl bd ++ cw_Locks cI cZ cO alk lk ++ cw_Trial cI cZ cO atr apl atb tr ++ cw_Board cI cZ cO atb apl tb) s.heap.size = A at hD ⊢
  have hA : ∀ q : Nat, s.heap.size ≤ q → A q := fun q h => by rw [← hAe]; exact Or.inr h
  have hS : va_S A s.heap s.heap [] := va_S.rf
  have hP : va_P (dC, dI) vwCl (cw_Main cI cZ cO amn apl abd alk atr mn lt ++ cw_Plan cI cZ cO apl pl ++ cw_Board cI cZ cO abd apl bd ++ cw_Locks cI cZ cO alk lk ++ cw_Trial cI cZ cO atr apl atb tr ++ cw_Board cI cZ cO atb apl tb) s.heap := hP
  have hl := lv_entry ([.ref (amn 0), .int x1]) (n := 2) (Nat.le_of_ble_eq_true rfl)
  rw [lg_entry_eq]
  generalize (lg_sl ([.ref (amn 0), .int x1]) ++ List.replicate (2 - (lg_sl ([.ref (amn 0), .int x1])).length) Slot.unset).toArray = ls at hl ⊢
  have hl : lv_has ls 2 [(0, .ref (amn 0)), (1, .int x1)] := hl
  have k_m1 : (-1 : Int32).toInt = -1 := by decide
  have k_0 : (0 : Int32).toInt = 0 := by decide
  obtain ⟨tgt, hT⟩ : ∃ z, md_Main_holder mn lt pl bd lk tr tb x1 = z := ⟨_, rfl⟩
  have hM := hT
  unfold md_Main_holder at hM
  refine lv_aload_n hx hb nd_Main_holder_0 rfl (lv_at hl 0 rfl) ?_
  refine va_get (D := (dC, dI)) (ci := 4) (v := .ref (apl 0)) (C := "CeilingRows") (T := nf_Main) (N := 6) hx hb hts nin_Main hown hK hP 0 rfl rfl 0 (by decide) (hts _ tw_138) (fun _ h9 => h9) rfl nd_Main_holder_1 ?_
  refine lv_iload_n hx hb nd_Main_holder_4 rfl (lv_at hl 1 rfl) ?_
  have hPc := hP.sub (ws' := cw_Plan cI cZ cO apl pl) [2, 3, 4, 5, 6, 7, 8, 9, 10, 11, 12, 13, 14, 15, 16, 17, 18] rfl
  have hDc := hD.sub (ws' := cw_Plan cI cZ cO apl pl) [2, 3, 4, 5, 6, 7, 8, 9, 10, 11, 12, 13, 14, 15, 16, 17, 18] (by decide) rfl
  have hFc := va_free (wc := cw_Plan cI cZ cO apl pl) hD hS hA [2, 3, 4, 5, 6, 7, 8, 9, 10, 11, 12, 13, 14, 15, 16, 17, 18] rfl
  refine va_calli (va_runV (As := [.int x1]) (rest := []) ⟨hx, hb, hml, hown, hts⟩ (ct_Plan_hasResource l dC dI cI cZ cO apl s.heap.size pl x1 hR_pl) (cwV 1 hts (ng_V tw_185 tw_186 tw_187 tw_2 tw_188) rfl rfl rfl (by decide +kernel) ⟨Nat.le_of_ble_eq_true rfl, Nat.le_of_ble_eq_true rfl⟩) ⟨fun a U g mk q => by obtain ⟨q0, q1, qP, qK, qD⟩ := q; exact ⟨q0, q1, qP, va_K.moved (u := U) (U := U.calling g mk a) (Vm.Alike.refl U.vm) qK, qD⟩, va_recv hK hPc (ci := 0) (q0 := 0) rfl rfl, fun U hU hW => ⟨rfl, by rw [hU], by rw [hU]; exact hPc, va_K.moved hW.alike hK, hDc.weaken (fun _ _ _ _ => trivial)⟩⟩ rfl rfl hl.1 rfl (lv_room (Nat.le_of_ble_eq_true rfl)) nd_Main_holder_5 ⟨Nat.zero_le _, Nat.zero_le _⟩) hS (fun q _ h => hFc q h) hFc (fun r_1 u t H1 locs ht hvm hw hB hz1 hk1 hS => ?_)
  obtain ⟨hP1, hK1, hD1⟩ := hB
  rw [ht] at hP1
  obtain ⟨w_2, f_3⟩ := hw
  try rw [← w_2] at hM
  obtain ⟨hP, hD⟩ := va_join (wr := cw_Main cI cZ cO amn apl abd alk atr mn lt ++ cw_Board cI cZ cO abd apl bd ++ cw_Locks cI cZ cO alk lk ++ cw_Trial cI cZ cO atr apl atb tr ++ cw_Board cI cZ cO atb apl tb) (w1 := cw_Plan cI cZ cO apl pl) hP hD [2, 3, 4, 5, 6, 7, 8, 9, 10, 11, 12, 13, 14, 15, 16, 17, 18] [0, 1, 19, 20, 21, 22, 23, 24, 25, 26, 27, 28, 29, 30, 31, 32, 33, 34, 35, 36, 37, 38, 39, 40, 41, 42, 43, 44, 45, 46, 47, 48] rfl rfl (by decide) (by decide) hk1 hFc hP1 hD1
  have hP := hP.sub (ws' := cw_Main cI cZ cO amn apl abd alk atr mn lt ++ cw_Plan cI cZ cO apl pl ++ cw_Board cI cZ cO abd apl bd ++ cw_Locks cI cZ cO alk lk ++ cw_Trial cI cZ cO atr apl atb tr ++ cw_Board cI cZ cO atb apl tb) [0, 1, 32, 33, 34, 35, 36, 37, 38, 39, 40, 41, 42, 43, 44, 45, 46, 47, 48, 2, 3, 4, 5, 6, 7, 8, 9, 10, 11, 12, 13, 14, 15, 16, 17, 18, 19, 20, 21, 22, 23, 24, 25, 26, 27, 28, 29, 30, 31] rfl
  have hD := hD.sub (ws' := cw_Main cI cZ cO amn apl abd alk atr mn lt ++ cw_Plan cI cZ cO apl pl ++ cw_Board cI cZ cO abd apl bd ++ cw_Locks cI cZ cO alk lk ++ cw_Trial cI cZ cO atr apl atb tr ++ cw_Board cI cZ cO atb apl tb) [0, 1, 32, 33, 34, 35, 36, 37, 38, 39, 40, 41, 42, 43, 44, 45, 46, 47, 48, 2, 3, 4, 5, 6, 7, 8, 9, 10, 11, 12, 13, 14, 15, 16, 17, 18, 19, 20, 21, 22, 23, 24, 25, 26, 27, 28, 29, 30, 31] (by decide) rfl
  generalize H1 = H at hP hS ⊢
  refine lv_if_eq (tgt := 23) hx hb nd_Main_holder_8 (by decide) (fun c_4 => ?_) (fun c_4 => ?_)
  · have c_4t := cr_eq c_4
    rw [if_pos c_4] at hM
    refine lv_iconst (v := -1) hx hb nd_Main_holder_23 (by decide) ?_
    exact W.iret (v := (-1 : Int32)) hx hb hr (fun t ht hW => ⟨⟨(-1 : Int32), (), rfl, by rw [hT, ← hM], by rw [ht]; exact hP, va_K.moved hW.alike hK, hD⟩, hS.F ht⟩) hS.2.2 nd_Main_holder_24
  · have c_4t := cr_ne c_4
    rw [if_neg c_4] at hM
    refine lv_aload_n hx hb nd_Main_holder_11 rfl (lv_at hl 0 rfl) ?_
    refine va_get (D := (dC, dI)) (ci := 4) (v := .ref (abd 0)) (C := "CeilingRows") (T := nf_Main) (N := 6) hx hb hts nin_Main hown hK hP 0 rfl rfl 1 (by decide) (hts _ tw_139) (fun _ h9 => h9) rfl nd_Main_holder_12 ?_
    refine va_get (D := (dC, dI)) (ci := 1) (v := .ref (abd 4)) (C := "CeilingRows$Board") (T := nf_Board) (N := 7) hx hb hts nin_Board hown hK hP 19 rfl rfl 5 (by decide) (hts _ tw_77) (fun _ h9 => h9) rfl nd_Main_holder_15 ?_
    refine lv_iload_n hx hb nd_Main_holder_18 rfl (lv_at hl 1 rfl) ?_
    have b_5 : vp_in x1 9 := vp_in_iff.mpr (by omega)
    refine va_iald hx hb hK hP 23 0 rfl rfl b_5 nd_Main_holder_19 ?_
    refine lv_goto (tgt := 24) hx hb nd_Main_holder_20 (by decide) ?_
    exact W.iret (v := (bd 4 x1.toNatClampNeg)) hx hb hr (fun t ht hW => ⟨⟨(bd 4 x1.toNatClampNeg), (), rfl, by rw [hT, ← hM], by rw [ht]; exact hP, va_K.moved hW.alike hK, hD⟩, hS.F ht⟩) hS.2.2 nd_Main_holder_24

theorem nd_Main_blocking_0 : decode prog_1_method_9_code 0 = .ok (.aload_n 0, 1) := by decide +kernel
theorem nd_Main_blocking_1 : decode prog_1_method_9_code 1 = .ok (.getfield 12, 3) := by decide +kernel
theorem nd_Main_blocking_4 : decode prog_1_method_9_code 4 = .ok (.iload_n 1, 1) := by decide +kernel
theorem nd_Main_blocking_5 : decode prog_1_method_9_code 5 = .ok (.invokevirtual 66, 3) := by decide +kernel
theorem nd_Main_blocking_8 : decode prog_1_method_9_code 8 = .ok (.ifCond .ne (7), 3) := by decide +kernel
theorem nd_Main_blocking_11 : decode prog_1_method_9_code 11 = .ok (.ldc2_w 108, 3) := by decide +kernel
theorem nd_Main_blocking_14 : decode prog_1_method_9_code 14 = .ok (.lreturn, 1) := by decide +kernel
theorem nd_Main_blocking_15 : decode prog_1_method_9_code 15 = .ok (.iconst 0, 1) := by decide +kernel
theorem nd_Main_blocking_16 : decode prog_1_method_9_code 16 = .ok (.istore_n 2, 1) := by decide +kernel
theorem nd_Main_blocking_17 : decode prog_1_method_9_code 17 = .ok (.iconst 1, 1) := by decide +kernel
theorem nd_Main_blocking_18 : decode prog_1_method_9_code 18 = .ok (.istore_n 3, 1) := by decide +kernel
theorem nd_Main_blocking_19 : decode prog_1_method_9_code 19 = .ok (.iload_n 3, 1) := by decide +kernel
theorem nd_Main_blocking_20 : decode prog_1_method_9_code 20 = .ok (.aload_n 0, 1) := by decide +kernel
theorem nd_Main_blocking_21 : decode prog_1_method_9_code 21 = .ok (.getfield 12, 3) := by decide +kernel
theorem nd_Main_blocking_24 : decode prog_1_method_9_code 24 = .ok (.getfield 51, 3) := by decide +kernel
theorem nd_Main_blocking_27 : decode prog_1_method_9_code 27 = .ok (.if_icmp .gt (23), 3) := by decide +kernel
theorem nd_Main_blocking_30 : decode prog_1_method_9_code 30 = .ok (.iload_n 2, 1) := by decide +kernel
theorem nd_Main_blocking_31 : decode prog_1_method_9_code 31 = .ok (.aload_n 0, 1) := by decide +kernel
theorem nd_Main_blocking_32 : decode prog_1_method_9_code 32 = .ok (.getfield 12, 3) := by decide +kernel
theorem nd_Main_blocking_35 : decode prog_1_method_9_code 35 = .ok (.iload_n 1, 1) := by decide +kernel
theorem nd_Main_blocking_36 : decode prog_1_method_9_code 36 = .ok (.iload_n 3, 1) := by decide +kernel
theorem nd_Main_blocking_37 : decode prog_1_method_9_code 37 = .ok (.invokevirtual 110, 3) := by decide +kernel
theorem nd_Main_blocking_40 : decode prog_1_method_9_code 40 = .ok (.invokestatic 113, 3) := by decide +kernel
theorem nd_Main_blocking_43 : decode prog_1_method_9_code 43 = .ok (.istore_n 2, 1) := by decide +kernel
theorem nd_Main_blocking_44 : decode prog_1_method_9_code 44 = .ok (.iinc 3 1, 3) := by decide +kernel
theorem nd_Main_blocking_47 : decode prog_1_method_9_code 47 = .ok (.goto (-28), 3) := by decide +kernel
theorem nd_Main_blocking_50 : decode prog_1_method_9_code 50 = .ok (.iload_n 2, 1) := by decide +kernel
theorem nd_Main_blocking_51 : decode prog_1_method_9_code 51 = .ok (.i2l, 1) := by decide +kernel
theorem nd_Main_blocking_52 : decode prog_1_method_9_code 52 = .ok (.lreturn, 1) := by decide +kernel
def lo_Main_blocking_19 (mn : cr_S) (lt : Int64) (pl : cr_S) (bd : cr_S) (lk : cr_S) (tr : cr_S) (tb : cr_S) (x1 : Int32) : Nat → Int32 → Int32 → Int64
  | 0, _, _ => 0
  | n_19 + 1, v2_19, v3_19 =>
    (if (pl 0 0) < v3_19 then v2_19.toInt64 else (lo_Main_blocking_19 mn lt pl bd lk tr tb x1 n_19 (cr_max v2_19 (md_Plan_longestDelay pl x1 v3_19)) (v3_19 + (1 : Int32))))
def md_Main_blocking (mn : cr_S) (lt : Int64) (pl : cr_S) (bd : cr_S) (lk : cr_S) (tr : cr_S) (tb : cr_S) (x1 : Int32) : Int64 :=
  (if (md_Plan_hasTask pl x1) = 0 then (-1 : Int64) else (lo_Main_blocking_19 mn lt pl bd lk tr tb x1 11 (0 : Int32) (1 : Int32)))
abbrev pq_Main_blocking (dC : Nat → ClassId) (dI : Nat → Nat → Nat) (cI cZ cO : ClassId) (amn apl abd alk atr atb : Nat → Nat) (mn : cr_S) (lt : Int64) (pl : cr_S) (bd : cr_S) (lk : cr_S) (tr : cr_S) (tb : cr_S) (x1 : Int32) (A : Nat → Prop) : Array Value → State → Outcome → State → Prop :=
  va_Ql (fun (r : Int64) (_ : Unit) => r = md_Main_blocking mn lt pl bd lk tr tb x1) (fun (_ : Unit) t => va_P (dC, dI) vwCl (cw_Main cI cZ cO amn apl abd alk atr mn lt ++ cw_Plan cI cZ cO apl pl ++ cw_Board cI cZ cO abd apl bd ++ cw_Locks cI cZ cO alk lk ++ cw_Trial cI cZ cO atr apl atb tr ++ cw_Board cI cZ cO atb apl tb) t.heap ∧ va_K (dC, dI) vwCl [(cI, .int), (cZ, .boolean), (cO, .array .int)] t ∧ va_D A (cw_Main cI cZ cO amn apl abd alk atr mn lt ++ cw_Plan cI cZ cO apl pl ++ cw_Board cI cZ cO abd apl bd ++ cw_Locks cI cZ cO alk lk ++ cw_Trial cI cZ cO atr apl atb tr ++ cw_Board cI cZ cO atb apl tb)) A
set_option maxHeartbeats 4000000 in
set_option maxRecDepth 100000 in
theorem ct_Main_blocking (l : Launch) (dC : Nat → ClassId) (dI : Nat → Nat → Nat) (cI cZ cO : ClassId) (amn apl abd alk atr atb : Nat → Nat) (sz : Nat) (mn : cr_S) (lt : Int64) (pl : cr_S) (bd : cr_S) (lk : cr_S) (tr : cr_S) (tb : cr_S) (x1 : Int32) (hR_tb : cr_RBoard tb) (hR_lk : cr_RLocks lk) (hR_bd : cr_RBoard bd) (hR_pl : cr_RPlan pl) : Met l ny_Main_blocking nw_Main_blocking ({ frames := 2, cells := 0, slots := 0, locals := 46 } : Room) (va_Pc [.ref (amn 0), .int x1] (fun U => U.heap.size = sz ∧ va_P (dC, dI) vwCl (cw_Main cI cZ cO amn apl abd alk atr mn lt ++ cw_Plan cI cZ cO apl pl ++ cw_Board cI cZ cO abd apl bd ++ cw_Locks cI cZ cO alk lk ++ cw_Trial cI cZ cO atr apl atb tr ++ cw_Board cI cZ cO atb apl tb) U.heap ∧ va_K (dC, dI) vwCl [(cI, .int), (cZ, .boolean), (cO, .array .int)] U ∧ va_D (fun _ => True) (cw_Main cI cZ cO amn apl abd alk atr mn lt ++ cw_Plan cI cZ cO apl pl ++ cw_Board cI cZ cO abd apl bd ++ cw_Locks cI cZ cO alk lk ++ cw_Trial cI cZ cO atr apl atb tr ++ cw_Board cI cZ cO atb apl tb))) (pq_Main_blocking dC dI cI cZ cO amn apl abd alk atr atb mn lt pl bd lk tr tb x1 (va_A (cw_Main cI cZ cO amn apl abd alk atr mn lt ++ cw_Plan cI cZ cO apl pl ++ cw_Board cI cZ cO abd apl bd ++ cw_Locks cI cZ cO alk lk ++ cw_Trial cI cZ cO atr apl atb tr ++ cw_Board cI cZ cO atb apl tb) sz)) 0 0 (va_A (cw_Main cI cZ cO amn apl abd alk atr mn lt ++ cw_Plan cI cZ cO apl pl ++ cw_Board cI cZ cO abd apl bd ++ cw_Locks cI cZ cO alk lk ++ cw_Trial cI cZ cO atr apl atb tr ++ cw_Board cI cZ cO atb apl tb) sz) := by
  refine Met.ofW (cc := prog_1_method_9_code) (maxL := 4) (ret := (some .long)) (by decide) rfl ?_
  intro p e s m args below meth c s₁ B hml hv
  obtain ⟨rfl, hsz, hP, hK, hD0⟩ := hv
  have hx := B.exec
  have hb := B.bytes
  have hr := B.returns
  have hts0 := atoms_spec (ws := nw_Main_blocking) B.pre
  have hts : ∀ w ∈ ng_tbl, w.before ([.ref (amn 0), .int x1] : List Value).toArray s = true := fun w h => hts0 w (List.mem_cons_of_mem _ h)
  have hown : s.vm.findClass "CeilingRows" = some m.cls := findClass_of_methodNamed B.named
  have hlocks := B.notSynchronized
  subst hsz
  have hD := hD0.self (sz := s.heap.size)
  generalize hAe : va_A (cw_Main cI cZ cO amn apl abd alk atr mn lt ++ cw_Plan cI cZ cO apl pl ++ cw_Board cI cZ cO abd apl bd ++ cw_Locks cI cZ cO alk lk ++ cw_Trial cI cZ cO atr apl atb tr ++ cw_Board cI cZ cO atb apl tb) s.heap.size = A at hD ⊢
  have hA : ∀ q : Nat, s.heap.size ≤ q → A q := fun q h => by rw [← hAe]; exact Or.inr h
  have hS : va_S A s.heap s.heap [] := va_S.rf
  have hP : va_P (dC, dI) vwCl (cw_Main cI cZ cO amn apl abd alk atr mn lt ++ cw_Plan cI cZ cO apl pl ++ cw_Board cI cZ cO abd apl bd ++ cw_Locks cI cZ cO alk lk ++ cw_Trial cI cZ cO atr apl atb tr ++ cw_Board cI cZ cO atb apl tb) s.heap := hP
  have hl := lv_entry ([.ref (amn 0), .int x1]) (n := 4) (Nat.le_of_ble_eq_true rfl)
  rw [lg_entry_eq]
  generalize (lg_sl ([.ref (amn 0), .int x1]) ++ List.replicate (4 - (lg_sl ([.ref (amn 0), .int x1])).length) Slot.unset).toArray = ls at hl ⊢
  have hl : lv_has ls 4 [(0, .ref (amn 0)), (1, .int x1)] := hl
  have k_0 : (0 : Int32).toInt = 0 := by decide
  have k_1 : (1 : Int32).toInt = 1 := by decide
  obtain ⟨tgt, hT⟩ : ∃ z, md_Main_blocking mn lt pl bd lk tr tb x1 = z := ⟨_, rfl⟩
  have hM := hT
  unfold md_Main_blocking at hM
  refine lv_aload_n hx hb nd_Main_blocking_0 rfl (lv_at hl 0 rfl) ?_
  refine va_get (D := (dC, dI)) (ci := 4) (v := .ref (apl 0)) (C := "CeilingRows") (T := nf_Main) (N := 6) hx hb hts nin_Main hown hK hP 0 rfl rfl 0 (by decide) (hts _ tw_138) (fun _ h9 => h9) rfl nd_Main_blocking_1 ?_
  refine lv_iload_n hx hb nd_Main_blocking_4 rfl (lv_at hl 1 rfl) ?_
  have hPc := hP.sub (ws' := cw_Plan cI cZ cO apl pl) [2, 3, 4, 5, 6, 7, 8, 9, 10, 11, 12, 13, 14, 15, 16, 17, 18] rfl
  have hDc := hD.sub (ws' := cw_Plan cI cZ cO apl pl) [2, 3, 4, 5, 6, 7, 8, 9, 10, 11, 12, 13, 14, 15, 16, 17, 18] (by decide) rfl
  have hFc := va_free (wc := cw_Plan cI cZ cO apl pl) hD hS hA [2, 3, 4, 5, 6, 7, 8, 9, 10, 11, 12, 13, 14, 15, 16, 17, 18] rfl
  refine va_calli (va_runV (As := [.int x1]) (rest := []) ⟨hx, hb, hml, hown, hts⟩ (ct_Plan_hasTask l dC dI cI cZ cO apl s.heap.size pl x1 hR_pl) (cwV 1 hts (ng_V tw_181 tw_182 tw_183 tw_2 tw_184) rfl rfl rfl (by decide +kernel) ⟨Nat.le_of_ble_eq_true rfl, Nat.le_of_ble_eq_true rfl⟩) ⟨fun a U g mk q => by obtain ⟨q0, q1, qP, qK, qD⟩ := q; exact ⟨q0, q1, qP, va_K.moved (u := U) (U := U.calling g mk a) (Vm.Alike.refl U.vm) qK, qD⟩, va_recv hK hPc (ci := 0) (q0 := 0) rfl rfl, fun U hU hW => ⟨rfl, by rw [hU], by rw [hU]; exact hPc, va_K.moved hW.alike hK, hDc.weaken (fun _ _ _ _ => trivial)⟩⟩ rfl rfl hl.1 rfl (lv_room (Nat.le_of_ble_eq_true rfl)) nd_Main_blocking_5 ⟨Nat.zero_le _, Nat.zero_le _⟩) hS (fun q _ h => hFc q h) hFc (fun r_1 u t H1 locs ht hvm hw hB hz1 hk1 hS => ?_)
  obtain ⟨hP1, hK1, hD1⟩ := hB
  rw [ht] at hP1
  obtain ⟨w_2, f_3⟩ := hw
  try rw [← w_2] at hM
  obtain ⟨hP, hD⟩ := va_join (wr := cw_Main cI cZ cO amn apl abd alk atr mn lt ++ cw_Board cI cZ cO abd apl bd ++ cw_Locks cI cZ cO alk lk ++ cw_Trial cI cZ cO atr apl atb tr ++ cw_Board cI cZ cO atb apl tb) (w1 := cw_Plan cI cZ cO apl pl) hP hD [2, 3, 4, 5, 6, 7, 8, 9, 10, 11, 12, 13, 14, 15, 16, 17, 18] [0, 1, 19, 20, 21, 22, 23, 24, 25, 26, 27, 28, 29, 30, 31, 32, 33, 34, 35, 36, 37, 38, 39, 40, 41, 42, 43, 44, 45, 46, 47, 48] rfl rfl (by decide) (by decide) hk1 hFc hP1 hD1
  have hP := hP.sub (ws' := cw_Main cI cZ cO amn apl abd alk atr mn lt ++ cw_Plan cI cZ cO apl pl ++ cw_Board cI cZ cO abd apl bd ++ cw_Locks cI cZ cO alk lk ++ cw_Trial cI cZ cO atr apl atb tr ++ cw_Board cI cZ cO atb apl tb) [0, 1, 32, 33, 34, 35, 36, 37, 38, 39, 40, 41, 42, 43, 44, 45, 46, 47, 48, 2, 3, 4, 5, 6, 7, 8, 9, 10, 11, 12, 13, 14, 15, 16, 17, 18, 19, 20, 21, 22, 23, 24, 25, 26, 27, 28, 29, 30, 31] rfl
  have hD := hD.sub (ws' := cw_Main cI cZ cO amn apl abd alk atr mn lt ++ cw_Plan cI cZ cO apl pl ++ cw_Board cI cZ cO abd apl bd ++ cw_Locks cI cZ cO alk lk ++ cw_Trial cI cZ cO atr apl atb tr ++ cw_Board cI cZ cO atb apl tb) [0, 1, 32, 33, 34, 35, 36, 37, 38, 39, 40, 41, 42, 43, 44, 45, 46, 47, 48, 2, 3, 4, 5, 6, 7, 8, 9, 10, 11, 12, 13, 14, 15, 16, 17, 18, 19, 20, 21, 22, 23, 24, 25, 26, 27, 28, 29, 30, 31] (by decide) rfl
  generalize H1 = H at hP hS ⊢
  refine lv_if_ne (tgt := 15) hx hb nd_Main_blocking_8 (by decide) (fun c_4 => ?_) (fun c_4 => ?_)
  · have c_4t := cr_ne c_4
    rw [if_neg c_4] at hM
    refine lv_iconst (v := 0) hx hb nd_Main_blocking_15 (by decide) ?_
    refine lv_istore_n (lv' := [(2, .int (0 : Int32)), (0, .ref (amn 0)), (1, .int x1)]) hx hb nd_Main_blocking_16 rfl hl (by decide) rfl (fun ls hl => ?_)
    refine lv_iconst (v := 1) hx hb nd_Main_blocking_17 (by decide) ?_
    refine lv_istore_n (lv' := [(3, .int (1 : Int32)), (2, .int (0 : Int32)), (0, .ref (amn 0)), (1, .int x1)]) hx hb nd_Main_blocking_18 rfl hl (by decide) rfl (fun ls hl => ?_)
    have hl := lv_sub hl [2, 3, 1, 0] rfl
    have lp_19 : ∀ (n_19 : Nat) (v2_19 : Int32) (v3_19 : Int32), (1 ≤ v3_19.toInt ∧ v3_19.toInt ≤ 11) → (11 < v3_19.toInt + (n_19 : Int)) → lo_Main_blocking_19 mn lt pl bd lk tr tb x1 n_19 v2_19 v3_19 = tgt → ∀ (H : Heap) (locs : List Loc), va_P (dC, dI) vwCl (cw_Main cI cZ cO amn apl abd alk atr mn lt ++ cw_Plan cI cZ cO apl pl ++ cw_Board cI cZ cO abd apl bd ++ cw_Locks cI cZ cO alk lk ++ cw_Trial cI cZ cO atr apl atb tr ++ cw_Board cI cZ cO atb apl tb) H → va_D A (cw_Main cI cZ cO amn apl abd alk atr mn lt ++ cw_Plan cI cZ cO apl pl ++ cw_Board cI cZ cO abd apl bd ++ cw_Locks cI cZ cO alk lk ++ cw_Trial cI cZ cO atr apl atb tr ++ cw_Board cI cZ cO atb apl tb) → va_S A s.heap H locs → ∀ ls : Array Slot, lv_has ls 4 [(0, .ref (amn 0)), (1, .int x1), (2, .int v2_19), (3, .int v3_19)] → W p l e (headSpec nw_Main_blocking ({ frames := 2, cells := 0, slots := 0, locals := 46 } : Room)).room s m ([.ref (amn 0), .int x1] : List Value).toArray below meth c H locs 0 0 (MQ below (pq_Main_blocking dC dI cI cZ cO amn apl abd alk atr atb mn lt pl bd lk tr tb x1 A) ([.ref (amn 0), .int x1] : List Value).toArray s 0 0 A) (F0 m 19 ls []) := by
      intro n_19
      induction n_19 with
      | zero =>
        intro v2_19 v3_19 hv3_19 hn_19
        exfalso; omega
      | succ n_19 ih_19 =>
        intro v2_19 v3_19 hv3_19 hn_19 hM H locs hP hD hS ls hl
        have hn_19 : 11 < v3_19.toInt + ((n_19 : Int) + 1) := by omega
        rw [lo_Main_blocking_19] at hM
        refine lv_iload_n hx hb nd_Main_blocking_19 rfl (lv_at hl 3 rfl) ?_
        refine lv_aload_n hx hb nd_Main_blocking_20 rfl (lv_at hl 0 rfl) ?_
        refine va_get (D := (dC, dI)) (ci := 4) (v := .ref (apl 0)) (C := "CeilingRows") (T := nf_Main) (N := 6) hx hb hts nin_Main hown hK hP 0 rfl rfl 0 (by decide) (hts _ tw_138) (fun _ h9 => h9) rfl nd_Main_blocking_21 ?_
        refine va_get (D := (dC, dI)) (ci := 0) (v := .int (pl 0 0)) (C := "CeilingRows$Plan") (T := nf_Plan) (N := 7) hx hb hts nin_Plan hown hK hP 2 rfl rfl 0 (by decide) (hts _ tw_28) (fun _ h9 => h9) rfl nd_Main_blocking_24 ?_
        have f_5 := cr_rfo hR_pl.1
        refine lv_icmp_gt (tgt := 50) hx hb nd_Main_blocking_27 (by decide) (fun c_6 => ?_) (fun c_6 => ?_)
        · have c_6t := cr_lt c_6
          rw [if_pos c_6] at hM
          refine lv_iload_n hx hb nd_Main_blocking_50 rfl (lv_at hl 2 rfl) ?_
          refine lv_i2l (v := v2_19.toInt64) hx hb nd_Main_blocking_51 rfl ?_
          exact W.lret (v := v2_19.toInt64) hx hb hr (fun t ht hW => ⟨⟨v2_19.toInt64, (), rfl, by rw [hT, ← hM], by rw [ht]; exact hP, va_K.moved hW.alike hK, hD⟩, hS.F ht⟩) hS.2.2 nd_Main_blocking_52
        · have c_6t := cr_nlt c_6
          rw [if_neg c_6] at hM
          refine lv_iload_n hx hb nd_Main_blocking_30 rfl (lv_at hl 2 rfl) ?_
          refine lv_aload_n hx hb nd_Main_blocking_31 rfl (lv_at hl 0 rfl) ?_
          refine va_get (D := (dC, dI)) (ci := 4) (v := .ref (apl 0)) (C := "CeilingRows") (T := nf_Main) (N := 6) hx hb hts nin_Main hown hK hP 0 rfl rfl 0 (by decide) (hts _ tw_138) (fun _ h9 => h9) rfl nd_Main_blocking_32 ?_
          refine lv_iload_n hx hb nd_Main_blocking_35 rfl (lv_at hl 1 rfl) ?_
          refine lv_iload_n hx hb nd_Main_blocking_36 rfl (lv_at hl 3 rfl) ?_
          have hPc := hP.sub (ws' := cw_Plan cI cZ cO apl pl) [2, 3, 4, 5, 6, 7, 8, 9, 10, 11, 12, 13, 14, 15, 16, 17, 18] rfl
          have hDc := hD.sub (ws' := cw_Plan cI cZ cO apl pl) [2, 3, 4, 5, 6, 7, 8, 9, 10, 11, 12, 13, 14, 15, 16, 17, 18] (by decide) rfl
          have hFc := va_free (wc := cw_Plan cI cZ cO apl pl) hD hS hA [2, 3, 4, 5, 6, 7, 8, 9, 10, 11, 12, 13, 14, 15, 16, 17, 18] rfl
          refine va_calli (va_runV (As := [.int x1, .int v3_19]) (rest := [.int v2_19]) ⟨hx, hb, hml, hown, hts⟩ (ct_Plan_longestDelay l dC dI cI cZ cO apl H.size pl x1 v3_19 hR_pl (by omega) (by omega)) (cwV 2 hts (ng_V tw_299 tw_300 tw_301 tw_2 tw_302) rfl rfl rfl (by decide +kernel) ⟨Nat.le_of_ble_eq_true rfl, Nat.le_of_ble_eq_true rfl⟩) ⟨fun a U g mk q => by obtain ⟨q0, q1, qP, qK, qD⟩ := q; exact ⟨q0, q1, qP, va_K.moved (u := U) (U := U.calling g mk a) (Vm.Alike.refl U.vm) qK, qD⟩, va_recv hK hPc (ci := 0) (q0 := 0) rfl rfl, fun U hU hW => ⟨rfl, by rw [hU], by rw [hU]; exact hPc, va_K.moved hW.alike hK, hDc.weaken (fun _ _ _ _ => trivial)⟩⟩ rfl rfl hl.1 rfl (lv_room (Nat.le_of_ble_eq_true rfl)) nd_Main_blocking_37 ⟨Nat.zero_le _, Nat.zero_le _⟩) hS (fun q _ h => hFc q h) hFc (fun r_7 u t H1 locs ht hvm hw hB hz1 hk1 hS => ?_)
          obtain ⟨hP1, hK1, hD1⟩ := hB
          rw [ht] at hP1
          have w_8 := hw
          try rw [← w_8] at hM
          obtain ⟨hP, hD⟩ := va_join (wr := cw_Main cI cZ cO amn apl abd alk atr mn lt ++ cw_Board cI cZ cO abd apl bd ++ cw_Locks cI cZ cO alk lk ++ cw_Trial cI cZ cO atr apl atb tr ++ cw_Board cI cZ cO atb apl tb) (w1 := cw_Plan cI cZ cO apl pl) hP hD [2, 3, 4, 5, 6, 7, 8, 9, 10, 11, 12, 13, 14, 15, 16, 17, 18] [0, 1, 19, 20, 21, 22, 23, 24, 25, 26, 27, 28, 29, 30, 31, 32, 33, 34, 35, 36, 37, 38, 39, 40, 41, 42, 43, 44, 45, 46, 47, 48] rfl rfl (by decide) (by decide) hk1 hFc hP1 hD1
          have hP := hP.sub (ws' := cw_Main cI cZ cO amn apl abd alk atr mn lt ++ cw_Plan cI cZ cO apl pl ++ cw_Board cI cZ cO abd apl bd ++ cw_Locks cI cZ cO alk lk ++ cw_Trial cI cZ cO atr apl atb tr ++ cw_Board cI cZ cO atb apl tb) [0, 1, 32, 33, 34, 35, 36, 37, 38, 39, 40, 41, 42, 43, 44, 45, 46, 47, 48, 2, 3, 4, 5, 6, 7, 8, 9, 10, 11, 12, 13, 14, 15, 16, 17, 18, 19, 20, 21, 22, 23, 24, 25, 26, 27, 28, 29, 30, 31] rfl
          have hD := hD.sub (ws' := cw_Main cI cZ cO amn apl abd alk atr mn lt ++ cw_Plan cI cZ cO apl pl ++ cw_Board cI cZ cO abd apl bd ++ cw_Locks cI cZ cO alk lk ++ cw_Trial cI cZ cO atr apl atb tr ++ cw_Board cI cZ cO atb apl tb) [0, 1, 32, 33, 34, 35, 36, 37, 38, 39, 40, 41, 42, 43, 44, 45, 46, 47, 48, 2, 3, 4, 5, 6, 7, 8, 9, 10, 11, 12, 13, 14, 15, 16, 17, 18, 19, 20, 21, 22, 23, 24, 25, 26, 27, 28, 29, 30, 31] (by decide) rfl
          generalize H1 = H at hP hS ⊢
          refine va_mmax hx hb (by rw [hml]; exact hl.1.symm) hown (hts _ tw_307) (hts _ tw_207) (hts _ tw_7) (hts _ tw_208) (Nat.le_of_ble_eq_true rfl) (Nat.le_of_ble_eq_true rfl) (Nat.zero_le _) (Nat.zero_le _) nd_Main_blocking_40 ?_
          refine lv_istore_n (lv' := [(2, .int (cr_max v2_19 r_7)), (0, .ref (amn 0)), (1, .int x1), (3, .int v3_19)]) hx hb nd_Main_blocking_43 rfl hl (by decide) rfl (fun ls hl => ?_)
          have e_9 : (v3_19 + (1 : Int32)).toInt = v3_19.toInt + (1 : Int32).toInt := cr_add (by omega)
          refine lv_iinc (v := (v3_19 + (1 : Int32))) (lv' := [(3, .int (v3_19 + (1 : Int32))), (2, .int (cr_max v2_19 r_7)), (0, .ref (amn 0)), (1, .int x1)]) hx hb nd_Main_blocking_44 hl (k := 3) rfl (by rfl) (by decide) rfl (fun ls hl => ?_)
          refine lv_goto (tgt := 19) hx hb nd_Main_blocking_47 (by decide) ?_
          exact ih_19 (cr_max v2_19 r_7) (v3_19 + (1 : Int32)) (by omega) (by omega) hM _ _ hP hD hS _ (lv_sub hl [2, 3, 1, 0] rfl)
    exact lp_19 11 (0 : Int32) (1 : Int32) (by omega) (by omega) hM _ _ hP hD hS _ hl
  · have c_4t := cr_eq c_4
    rw [if_pos c_4] at hM
    refine lv_ldc2 (v := -1) hx hb hown (hts _ tw_298) nd_Main_blocking_11 ?_
    exact W.lret (v := (-1 : Int64)) hx hb hr (fun t ht hW => ⟨⟨(-1 : Int64), (), rfl, by rw [hT, ← hM], by rw [ht]; exact hP, va_K.moved hW.alike hK, hD⟩, hS.F ht⟩) hS.2.2 nd_Main_blocking_14

theorem nd_Main_lock_0 : decode prog_1_method_10_code 0 = .ok (.iload_n 1, 1) := by decide +kernel
theorem nd_Main_lock_1 : decode prog_1_method_10_code 1 = .ok (.invokestatic 47, 3) := by decide +kernel
theorem nd_Main_lock_4 : decode prog_1_method_10_code 4 = .ok (.ifCond .ne (5), 3) := by decide +kernel
theorem nd_Main_lock_7 : decode prog_1_method_10_code 7 = .ok (.iconst (-1), 1) := by decide +kernel
theorem nd_Main_lock_8 : decode prog_1_method_10_code 8 = .ok (.ireturn, 1) := by decide +kernel
theorem nd_Main_lock_9 : decode prog_1_method_10_code 9 = .ok (.iload_n 2, 1) := by decide +kernel
theorem nd_Main_lock_10 : decode prog_1_method_10_code 10 = .ok (.ifCond .eq (15), 3) := by decide +kernel
theorem nd_Main_lock_13 : decode prog_1_method_10_code 13 = .ok (.iload_n 2, 1) := by decide +kernel
theorem nd_Main_lock_14 : decode prog_1_method_10_code 14 = .ok (.bipush (-8), 2) := by decide +kernel
theorem nd_Main_lock_16 : decode prog_1_method_10_code 16 = .ok (.if_icmp .lt (9), 3) := by decide +kernel
theorem nd_Main_lock_19 : decode prog_1_method_10_code 19 = .ok (.iload_n 2, 1) := by decide +kernel
theorem nd_Main_lock_20 : decode prog_1_method_10_code 20 = .ok (.bipush 8, 2) := by decide +kernel
theorem nd_Main_lock_22 : decode prog_1_method_10_code 22 = .ok (.if_icmp .le (6), 3) := by decide +kernel
theorem nd_Main_lock_25 : decode prog_1_method_10_code 25 = .ok (.bipush (-2), 2) := by decide +kernel
theorem nd_Main_lock_27 : decode prog_1_method_10_code 27 = .ok (.ireturn, 1) := by decide +kernel
theorem nd_Main_lock_28 : decode prog_1_method_10_code 28 = .ok (.aload_n 0, 1) := by decide +kernel
theorem nd_Main_lock_29 : decode prog_1_method_10_code 29 = .ok (.getfield 28, 3) := by decide +kernel
theorem nd_Main_lock_32 : decode prog_1_method_10_code 32 = .ok (.iload_n 1, 1) := by decide +kernel
theorem nd_Main_lock_33 : decode prog_1_method_10_code 33 = .ok (.invokevirtual 118, 3) := by decide +kernel
theorem nd_Main_lock_36 : decode prog_1_method_10_code 36 = .ok (.ifCond .eq (6), 3) := by decide +kernel
theorem nd_Main_lock_39 : decode prog_1_method_10_code 39 = .ok (.bipush (-3), 2) := by decide +kernel
theorem nd_Main_lock_41 : decode prog_1_method_10_code 41 = .ok (.ireturn, 1) := by decide +kernel
theorem nd_Main_lock_42 : decode prog_1_method_10_code 42 = .ok (.iload_n 2, 1) := by decide +kernel
theorem nd_Main_lock_43 : decode prog_1_method_10_code 43 = .ok (.ifCond .le (15), 3) := by decide +kernel
theorem nd_Main_lock_46 : decode prog_1_method_10_code 46 = .ok (.aload_n 0, 1) := by decide +kernel
theorem nd_Main_lock_47 : decode prog_1_method_10_code 47 = .ok (.getfield 28, 3) := by decide +kernel
theorem nd_Main_lock_50 : decode prog_1_method_10_code 50 = .ok (.iload_n 1, 1) := by decide +kernel
theorem nd_Main_lock_51 : decode prog_1_method_10_code 51 = .ok (.iload_n 2, 1) := by decide +kernel
theorem nd_Main_lock_52 : decode prog_1_method_10_code 52 = .ok (.invokevirtual 121, 3) := by decide +kernel
theorem nd_Main_lock_55 : decode prog_1_method_10_code 55 = .ok (.goto (13), 3) := by decide +kernel
theorem nd_Main_lock_58 : decode prog_1_method_10_code 58 = .ok (.aload_n 0, 1) := by decide +kernel
theorem nd_Main_lock_59 : decode prog_1_method_10_code 59 = .ok (.getfield 28, 3) := by decide +kernel
theorem nd_Main_lock_62 : decode prog_1_method_10_code 62 = .ok (.iload_n 1, 1) := by decide +kernel
theorem nd_Main_lock_63 : decode prog_1_method_10_code 63 = .ok (.iload_n 2, 1) := by decide +kernel
theorem nd_Main_lock_64 : decode prog_1_method_10_code 64 = .ok (.ineg, 1) := by decide +kernel
theorem nd_Main_lock_65 : decode prog_1_method_10_code 65 = .ok (.invokevirtual 124, 3) := by decide +kernel
theorem nd_Main_lock_68 : decode prog_1_method_10_code 68 = .ok (.ireturn, 1) := by decide +kernel
def md_Main_lock (mn : cr_S) (lt : Int64) (pl : cr_S) (bd : cr_S) (lk : cr_S) (tr : cr_S) (tb : cr_S) (x1 : Int32) (x2 : Int32) : Int32 × cr_S :=
  (if (md_Main_isCore  x1) = 0 then ((-1 : Int32), lk) else (if x2 = 0 then ((-2 : Int32), lk) else (if x2 < (-8 : Int32) then ((-2 : Int32), lk) else (if x2 ≤ (8 : Int32) then (if (md_Locks_spins lk x1) = 0 then (if x2 ≤ 0 then (((md_Locks_release lk x1 (-x2)).1), ((md_Locks_release lk x1 (-x2)).2)) else (((md_Locks_acquire lk x1 x2).1), ((md_Locks_acquire lk x1 x2).2))) else ((-3 : Int32), lk)) else ((-2 : Int32), lk)))))
abbrev pq_Main_lock (dC : Nat → ClassId) (dI : Nat → Nat → Nat) (cI cZ cO : ClassId) (amn apl abd alk atr atb : Nat → Nat) (mn : cr_S) (lt : Int64) (pl : cr_S) (bd : cr_S) (lk : cr_S) (tr : cr_S) (tb : cr_S) (x1 : Int32) (x2 : Int32) (A : Nat → Prop) : Array Value → State → Outcome → State → Prop :=
  va_Qi (fun (r : Int32) (lk' : cr_S) => r = (md_Main_lock mn lt pl bd lk tr tb x1 x2).1 ∧ lk' = (md_Main_lock mn lt pl bd lk tr tb x1 x2).2 ∧ cr_RLocks lk') (fun (lk' : cr_S) t => va_P (dC, dI) vwCl (cw_Main cI cZ cO amn apl abd alk atr mn lt ++ cw_Plan cI cZ cO apl pl ++ cw_Board cI cZ cO abd apl bd ++ cw_Locks cI cZ cO alk lk' ++ cw_Trial cI cZ cO atr apl atb tr ++ cw_Board cI cZ cO atb apl tb) t.heap ∧ va_K (dC, dI) vwCl [(cI, .int), (cZ, .boolean), (cO, .array .int)] t ∧ va_D A (cw_Main cI cZ cO amn apl abd alk atr mn lt ++ cw_Plan cI cZ cO apl pl ++ cw_Board cI cZ cO abd apl bd ++ cw_Locks cI cZ cO alk lk' ++ cw_Trial cI cZ cO atr apl atb tr ++ cw_Board cI cZ cO atb apl tb)) A
set_option maxHeartbeats 4000000 in
set_option maxRecDepth 100000 in
theorem ct_Main_lock (l : Launch) (dC : Nat → ClassId) (dI : Nat → Nat → Nat) (cI cZ cO : ClassId) (amn apl abd alk atr atb : Nat → Nat) (sz : Nat) (mn : cr_S) (lt : Int64) (pl : cr_S) (bd : cr_S) (lk : cr_S) (tr : cr_S) (tb : cr_S) (x1 : Int32) (x2 : Int32) (hR_tb : cr_RBoard tb) (hR_lk : cr_RLocks lk) (hR_bd : cr_RBoard bd) (hR_pl : cr_RPlan pl) : Met l ny_Main_lock nw_Main_lock ({ frames := 2, cells := 0, slots := 0, locals := 47 } : Room) (va_Pc [.ref (amn 0), .int x1, .int x2] (fun U => U.heap.size = sz ∧ va_P (dC, dI) vwCl (cw_Main cI cZ cO amn apl abd alk atr mn lt ++ cw_Plan cI cZ cO apl pl ++ cw_Board cI cZ cO abd apl bd ++ cw_Locks cI cZ cO alk lk ++ cw_Trial cI cZ cO atr apl atb tr ++ cw_Board cI cZ cO atb apl tb) U.heap ∧ va_K (dC, dI) vwCl [(cI, .int), (cZ, .boolean), (cO, .array .int)] U ∧ va_D (fun _ => True) (cw_Main cI cZ cO amn apl abd alk atr mn lt ++ cw_Plan cI cZ cO apl pl ++ cw_Board cI cZ cO abd apl bd ++ cw_Locks cI cZ cO alk lk ++ cw_Trial cI cZ cO atr apl atb tr ++ cw_Board cI cZ cO atb apl tb))) (pq_Main_lock dC dI cI cZ cO amn apl abd alk atr atb mn lt pl bd lk tr tb x1 x2 (va_A (cw_Main cI cZ cO amn apl abd alk atr mn lt ++ cw_Plan cI cZ cO apl pl ++ cw_Board cI cZ cO abd apl bd ++ cw_Locks cI cZ cO alk lk ++ cw_Trial cI cZ cO atr apl atb tr ++ cw_Board cI cZ cO atb apl tb) sz)) 0 0 (va_A (cw_Main cI cZ cO amn apl abd alk atr mn lt ++ cw_Plan cI cZ cO apl pl ++ cw_Board cI cZ cO abd apl bd ++ cw_Locks cI cZ cO alk lk ++ cw_Trial cI cZ cO atr apl atb tr ++ cw_Board cI cZ cO atb apl tb) sz) := by
  refine Met.ofW (cc := prog_1_method_10_code) (maxL := 3) (ret := (some .int)) (by decide) rfl ?_
  intro p e s m args below meth c s₁ B hml hv
  obtain ⟨rfl, hsz, hP, hK, hD0⟩ := hv
  have hx := B.exec
  have hb := B.bytes
  have hr := B.returns
  have hts0 := atoms_spec (ws := nw_Main_lock) B.pre
  have hts : ∀ w ∈ ng_tbl, w.before ([.ref (amn 0), .int x1, .int x2] : List Value).toArray s = true := fun w h => hts0 w (List.mem_cons_of_mem _ h)
  have hown : s.vm.findClass "CeilingRows" = some m.cls := findClass_of_methodNamed B.named
  have hlocks := B.notSynchronized
  subst hsz
  have hD := hD0.self (sz := s.heap.size)
  generalize hAe : va_A (cw_Main cI cZ cO amn apl abd alk atr mn lt ++ cw_Plan cI cZ cO apl pl ++ cw_Board cI cZ cO abd apl bd ++ cw_Locks cI cZ cO alk lk ++ cw_Trial cI cZ cO atr apl atb tr ++ cw_Board cI cZ cO atb apl tb) s.heap.size = A at hD ⊢
  have hA : ∀ q : Nat, s.heap.size ≤ q → A q := fun q h => by rw [← hAe]; exact Or.inr h
  have hS : va_S A s.heap s.heap [] := va_S.rf
  have hP : va_P (dC, dI) vwCl (cw_Main cI cZ cO amn apl abd alk atr mn lt ++ cw_Plan cI cZ cO apl pl ++ cw_Board cI cZ cO abd apl bd ++ cw_Locks cI cZ cO alk lk ++ cw_Trial cI cZ cO atr apl atb tr ++ cw_Board cI cZ cO atb apl tb) s.heap := hP
  have hl := lv_entry ([.ref (amn 0), .int x1, .int x2]) (n := 3) (Nat.le_of_ble_eq_true rfl)
  rw [lg_entry_eq]
  generalize (lg_sl ([.ref (amn 0), .int x1, .int x2]) ++ List.replicate (3 - (lg_sl ([.ref (amn 0), .int x1, .int x2])).length) Slot.unset).toArray = ls at hl ⊢
  have hl : lv_has ls 3 [(0, .ref (amn 0)), (1, .int x1), (2, .int x2)] := hl
  have k_m8 : (-8 : Int32).toInt = -8 := by decide
  have k_m3 : (-3 : Int32).toInt = -3 := by decide
  have k_m2 : (-2 : Int32).toInt = -2 := by decide
  have k_m1 : (-1 : Int32).toInt = -1 := by decide
  have k_0 : (0 : Int32).toInt = 0 := by decide
  have k_8 : (8 : Int32).toInt = 8 := by decide
  obtain ⟨tgt, hT⟩ : ∃ z, md_Main_lock mn lt pl bd lk tr tb x1 x2 = z := ⟨_, rfl⟩
  have hM := hT
  unfold md_Main_lock at hM
  refine lv_iload_n hx hb nd_Main_lock_0 rfl (lv_at hl 1 rfl) ?_
  have hPc := hP.sub (ws' := ([] : va_W)) [] rfl
  have hDc := hD.sub (ws' := ([] : va_W)) [] (by decide) rfl
  have hFc := va_free (wc := ([] : va_W)) hD hS hA [] rfl
  refine va_calli (va_runS (As := [.int x1]) (rest := []) ⟨hx, hb, hml, hown, hts⟩ (ct_Main_isCore l dC dI cI cZ cO  s.heap.size  x1 ) (va_cwS 1 hts (ng_S tw_162 tw_163 tw_1 tw_164) rfl rfl rfl (by decide +kernel) ⟨Nat.le_of_ble_eq_true rfl, Nat.le_of_ble_eq_true rfl⟩) ⟨fun a U g mk q => by obtain ⟨q0, q1, qP, qK, qD⟩ := q; exact ⟨q0, q1, qP, va_K.moved (u := U) (U := U.calling g mk a) (Vm.Alike.refl U.vm) qK, qD⟩, fun U hU hW => ⟨rfl, by rw [hU], by rw [hU]; exact hPc, va_K.moved hW.alike hK, hDc.weaken (fun _ _ _ _ => trivial)⟩⟩ rfl rfl hl.1 rfl (lv_room (Nat.le_of_ble_eq_true rfl)) nd_Main_lock_1 ⟨Nat.zero_le _, Nat.zero_le _⟩) hS (fun q _ h => hFc q h) hFc (fun r_1 u t H1 locs ht hvm hw hB hz1 hk1 hS => ?_)
  obtain ⟨hP1, hK1, hD1⟩ := hB
  rw [ht] at hP1
  obtain ⟨w_2, f_3⟩ := hw
  try rw [← w_2] at hM
  obtain ⟨hP, hD⟩ := va_join (wr := cw_Main cI cZ cO amn apl abd alk atr mn lt ++ cw_Plan cI cZ cO apl pl ++ cw_Board cI cZ cO abd apl bd ++ cw_Locks cI cZ cO alk lk ++ cw_Trial cI cZ cO atr apl atb tr ++ cw_Board cI cZ cO atb apl tb) (w1 := ([] : va_W)) hP hD [] [0, 1, 2, 3, 4, 5, 6, 7, 8, 9, 10, 11, 12, 13, 14, 15, 16, 17, 18, 19, 20, 21, 22, 23, 24, 25, 26, 27, 28, 29, 30, 31, 32, 33, 34, 35, 36, 37, 38, 39, 40, 41, 42, 43, 44, 45, 46, 47, 48] rfl rfl (by decide) (by decide) hk1 hFc hP1 hD1
  have hP := hP.sub (ws' := cw_Main cI cZ cO amn apl abd alk atr mn lt ++ cw_Plan cI cZ cO apl pl ++ cw_Board cI cZ cO abd apl bd ++ cw_Locks cI cZ cO alk lk ++ cw_Trial cI cZ cO atr apl atb tr ++ cw_Board cI cZ cO atb apl tb) [0, 1, 2, 3, 4, 5, 6, 7, 8, 9, 10, 11, 12, 13, 14, 15, 16, 17, 18, 19, 20, 21, 22, 23, 24, 25, 26, 27, 28, 29, 30, 31, 32, 33, 34, 35, 36, 37, 38, 39, 40, 41, 42, 43, 44, 45, 46, 47, 48] rfl
  have hD := hD.sub (ws' := cw_Main cI cZ cO amn apl abd alk atr mn lt ++ cw_Plan cI cZ cO apl pl ++ cw_Board cI cZ cO abd apl bd ++ cw_Locks cI cZ cO alk lk ++ cw_Trial cI cZ cO atr apl atb tr ++ cw_Board cI cZ cO atb apl tb) [0, 1, 2, 3, 4, 5, 6, 7, 8, 9, 10, 11, 12, 13, 14, 15, 16, 17, 18, 19, 20, 21, 22, 23, 24, 25, 26, 27, 28, 29, 30, 31, 32, 33, 34, 35, 36, 37, 38, 39, 40, 41, 42, 43, 44, 45, 46, 47, 48] (by decide) rfl
  generalize H1 = H at hP hS ⊢
  refine lv_if_ne (tgt := 9) hx hb nd_Main_lock_4 (by decide) (fun c_4 => ?_) (fun c_4 => ?_)
  · have c_4t := cr_ne c_4
    rw [if_neg c_4] at hM
    refine lv_iload_n hx hb nd_Main_lock_9 rfl (lv_at hl 2 rfl) ?_
    refine lv_if_eq (tgt := 25) hx hb nd_Main_lock_10 (by decide) (fun c_5 => ?_) (fun c_5 => ?_)
    · have c_5t := cr_eq c_5
      rw [if_pos c_5] at hM
      refine lv_bipush (v := -2) hx hb nd_Main_lock_25 (by decide) ?_
      exact W.iret (v := (-2 : Int32)) hx hb hr (fun t ht hW => ⟨⟨(-2 : Int32), lk, rfl, ⟨by rw [hT, ← hM], by rw [hT, ← hM], hR_lk⟩, by rw [ht]; exact hP, va_K.moved hW.alike hK, hD⟩, hS.F ht⟩) hS.2.2 nd_Main_lock_27
    · have c_5t := cr_ne c_5
      rw [if_neg c_5] at hM
      refine lv_iload_n hx hb nd_Main_lock_13 rfl (lv_at hl 2 rfl) ?_
      refine lv_bipush (v := -8) hx hb nd_Main_lock_14 (by decide) ?_
      refine lv_icmp_lt (tgt := 25) hx hb nd_Main_lock_16 (by decide) (fun c_6 => ?_) (fun c_6 => ?_)
      · have c_6t := cr_lt c_6
        rw [if_pos c_6] at hM
        refine lv_bipush (v := -2) hx hb nd_Main_lock_25 (by decide) ?_
        exact W.iret (v := (-2 : Int32)) hx hb hr (fun t ht hW => ⟨⟨(-2 : Int32), lk, rfl, ⟨by rw [hT, ← hM], by rw [hT, ← hM], hR_lk⟩, by rw [ht]; exact hP, va_K.moved hW.alike hK, hD⟩, hS.F ht⟩) hS.2.2 nd_Main_lock_27
      · have c_6t := cr_nlt c_6
        rw [if_neg c_6] at hM
        refine lv_iload_n hx hb nd_Main_lock_19 rfl (lv_at hl 2 rfl) ?_
        refine lv_bipush (v := 8) hx hb nd_Main_lock_20 (by decide) ?_
        refine lv_icmp_le (tgt := 28) hx hb nd_Main_lock_22 (by decide) (fun c_7 => ?_) (fun c_7 => ?_)
        · have c_7t := cr_le c_7
          rw [if_pos c_7] at hM
          refine lv_aload_n hx hb nd_Main_lock_28 rfl (lv_at hl 0 rfl) ?_
          refine va_get (D := (dC, dI)) (ci := 4) (v := .ref (alk 0)) (C := "CeilingRows") (T := nf_Main) (N := 6) hx hb hts nin_Main hown hK hP 0 rfl rfl 2 (by decide) (hts _ tw_140) (fun _ h9 => h9) rfl nd_Main_lock_29 ?_
          refine lv_iload_n hx hb nd_Main_lock_32 rfl (lv_at hl 1 rfl) ?_
          have hPc := hP.sub (ws' := cw_Locks cI cZ cO alk lk) [25, 26, 27, 28] rfl
          have hDc := hD.sub (ws' := cw_Locks cI cZ cO alk lk) [25, 26, 27, 28] (by decide) rfl
          have hFc := va_free (wc := cw_Locks cI cZ cO alk lk) hD hS hA [25, 26, 27, 28] rfl
          refine va_calli (va_runV (As := [.int x1]) (rest := []) ⟨hx, hb, hml, hown, hts⟩ (ct_Locks_spins l dC dI cI cZ cO alk H.size lk x1 hR_lk (by omega)) (cwV 1 hts (ng_V tw_234 tw_235 tw_236 tw_4 tw_237) rfl rfl rfl (by decide +kernel) ⟨Nat.le_of_ble_eq_true rfl, Nat.le_of_ble_eq_true rfl⟩) ⟨fun a U g mk q => by obtain ⟨q0, q1, qP, qK, qD⟩ := q; exact ⟨q0, q1, qP, va_K.moved (u := U) (U := U.calling g mk a) (Vm.Alike.refl U.vm) qK, qD⟩, va_recv hK hPc (ci := 2) (q0 := 0) rfl rfl, fun U hU hW => ⟨rfl, by rw [hU], by rw [hU]; exact hPc, va_K.moved hW.alike hK, hDc.weaken (fun _ _ _ _ => trivial)⟩⟩ rfl rfl hl.1 rfl (lv_room (Nat.le_of_ble_eq_true rfl)) nd_Main_lock_33 ⟨Nat.zero_le _, Nat.zero_le _⟩) hS (fun q _ h => hFc q h) hFc (fun r_8 u t H1 locs ht hvm hw hB hz1 hk1 hS => ?_)
          obtain ⟨hP1, hK1, hD1⟩ := hB
          rw [ht] at hP1
          have w_9 := hw
          try rw [← w_9] at hM
          obtain ⟨hP, hD⟩ := va_join (wr := cw_Main cI cZ cO amn apl abd alk atr mn lt ++ cw_Plan cI cZ cO apl pl ++ cw_Board cI cZ cO abd apl bd ++ cw_Trial cI cZ cO atr apl atb tr ++ cw_Board cI cZ cO atb apl tb) (w1 := cw_Locks cI cZ cO alk lk) hP hD [25, 26, 27, 28] [0, 1, 2, 3, 4, 5, 6, 7, 8, 9, 10, 11, 12, 13, 14, 15, 16, 17, 18, 19, 20, 21, 22, 23, 24, 29, 30, 31, 32, 33, 34, 35, 36, 37, 38, 39, 40, 41, 42, 43, 44, 45, 46, 47, 48] rfl rfl (by decide) (by decide) hk1 hFc hP1 hD1
          have hP := hP.sub (ws' := cw_Main cI cZ cO amn apl abd alk atr mn lt ++ cw_Plan cI cZ cO apl pl ++ cw_Board cI cZ cO abd apl bd ++ cw_Locks cI cZ cO alk lk ++ cw_Trial cI cZ cO atr apl atb tr ++ cw_Board cI cZ cO atb apl tb) [0, 1, 2, 3, 4, 5, 6, 7, 8, 9, 10, 11, 12, 13, 14, 15, 16, 17, 18, 19, 20, 21, 22, 23, 24, 45, 46, 47, 48, 25, 26, 27, 28, 29, 30, 31, 32, 33, 34, 35, 36, 37, 38, 39, 40, 41, 42, 43, 44] rfl
          have hD := hD.sub (ws' := cw_Main cI cZ cO amn apl abd alk atr mn lt ++ cw_Plan cI cZ cO apl pl ++ cw_Board cI cZ cO abd apl bd ++ cw_Locks cI cZ cO alk lk ++ cw_Trial cI cZ cO atr apl atb tr ++ cw_Board cI cZ cO atb apl tb) [0, 1, 2, 3, 4, 5, 6, 7, 8, 9, 10, 11, 12, 13, 14, 15, 16, 17, 18, 19, 20, 21, 22, 23, 24, 45, 46, 47, 48, 25, 26, 27, 28, 29, 30, 31, 32, 33, 34, 35, 36, 37, 38, 39, 40, 41, 42, 43, 44] (by decide) rfl
          generalize H1 = H at hP hS ⊢
          refine lv_if_eq (tgt := 42) hx hb nd_Main_lock_36 (by decide) (fun c_10 => ?_) (fun c_10 => ?_)
          · have c_10t := cr_eq c_10
            rw [if_pos c_10] at hM
            refine lv_iload_n hx hb nd_Main_lock_42 rfl (lv_at hl 2 rfl) ?_
            refine lv_if_le (tgt := 58) hx hb nd_Main_lock_43 (by decide) (fun c_11 => ?_) (fun c_11 => ?_)
            · have c_11t := cr_le c_11
              rw [if_pos c_11] at hM
              refine lv_aload_n hx hb nd_Main_lock_58 rfl (lv_at hl 0 rfl) ?_
              refine va_get (D := (dC, dI)) (ci := 4) (v := .ref (alk 0)) (C := "CeilingRows") (T := nf_Main) (N := 6) hx hb hts nin_Main hown hK hP 0 rfl rfl 2 (by decide) (hts _ tw_140) (fun _ h9 => h9) rfl nd_Main_lock_59 ?_
              refine lv_iload_n hx hb nd_Main_lock_62 rfl (lv_at hl 1 rfl) ?_
              refine lv_iload_n hx hb nd_Main_lock_63 rfl (lv_at hl 2 rfl) ?_
              refine lv_ineg hx hb nd_Main_lock_64 ?_
              have hPc := hP.sub (ws' := cw_Locks cI cZ cO alk lk) [25, 26, 27, 28] rfl
              have hDc := hD.sub (ws' := cw_Locks cI cZ cO alk lk) [25, 26, 27, 28] (by decide) rfl
              have hFc := va_free (wc := cw_Locks cI cZ cO alk lk) hD hS hA [25, 26, 27, 28] rfl
              refine va_calli (va_runV (As := [.int x1, .int (-x2)]) (rest := []) ⟨hx, hb, hml, hown, hts⟩ (ct_Locks_release l dC dI cI cZ cO alk H.size lk x1 (-x2) hR_lk (by omega) (by omega)) (cwV 2 hts (ng_V tw_320 tw_321 tw_322 tw_4 tw_323) rfl rfl rfl (by decide +kernel) ⟨Nat.le_of_ble_eq_true rfl, Nat.le_of_ble_eq_true rfl⟩) ⟨fun a U g mk q => by obtain ⟨q0, q1, qP, qK, qD⟩ := q; exact ⟨q0, q1, qP, va_K.moved (u := U) (U := U.calling g mk a) (Vm.Alike.refl U.vm) qK, qD⟩, va_recv hK hPc (ci := 2) (q0 := 0) rfl rfl, fun U hU hW => ⟨rfl, by rw [hU], by rw [hU]; exact hPc, va_K.moved hW.alike hK, hDc.weaken (fun _ _ _ _ => trivial)⟩⟩ rfl rfl hl.1 rfl (lv_room (Nat.le_of_ble_eq_true rfl)) nd_Main_lock_65 ⟨Nat.zero_le _, Nat.zero_le _⟩) hS (fun q _ h => hFc q h) hFc (fun r_12 u t H1 locs ht hvm hw hB hz1 hk1 hS => ?_)
              obtain ⟨hP1, hK1, hD1⟩ := hB
              rw [ht] at hP1
              obtain ⟨lkq_14, rfl⟩ : ∃ z, z = u := ⟨_, rfl⟩
              obtain ⟨w_13, w_15, hR_16⟩ := hw
              try rw [← w_13] at hM
              try rw [← w_15] at hM
              obtain ⟨hP, hD⟩ := va_join (wr := cw_Main cI cZ cO amn apl abd alk atr mn lt ++ cw_Plan cI cZ cO apl pl ++ cw_Board cI cZ cO abd apl bd ++ cw_Trial cI cZ cO atr apl atb tr ++ cw_Board cI cZ cO atb apl tb) (w1 := cw_Locks cI cZ cO alk lkq_14) hP hD [25, 26, 27, 28] [0, 1, 2, 3, 4, 5, 6, 7, 8, 9, 10, 11, 12, 13, 14, 15, 16, 17, 18, 19, 20, 21, 22, 23, 24, 29, 30, 31, 32, 33, 34, 35, 36, 37, 38, 39, 40, 41, 42, 43, 44, 45, 46, 47, 48] rfl rfl (by decide) (by decide) hk1 hFc hP1 hD1
              have hP := hP.sub (ws' := cw_Main cI cZ cO amn apl abd alk atr mn lt ++ cw_Plan cI cZ cO apl pl ++ cw_Board cI cZ cO abd apl bd ++ cw_Locks cI cZ cO alk lkq_14 ++ cw_Trial cI cZ cO atr apl atb tr ++ cw_Board cI cZ cO atb apl tb) [0, 1, 2, 3, 4, 5, 6, 7, 8, 9, 10, 11, 12, 13, 14, 15, 16, 17, 18, 19, 20, 21, 22, 23, 24, 45, 46, 47, 48, 25, 26, 27, 28, 29, 30, 31, 32, 33, 34, 35, 36, 37, 38, 39, 40, 41, 42, 43, 44] rfl
              have hD := hD.sub (ws' := cw_Main cI cZ cO amn apl abd alk atr mn lt ++ cw_Plan cI cZ cO apl pl ++ cw_Board cI cZ cO abd apl bd ++ cw_Locks cI cZ cO alk lkq_14 ++ cw_Trial cI cZ cO atr apl atb tr ++ cw_Board cI cZ cO atb apl tb) [0, 1, 2, 3, 4, 5, 6, 7, 8, 9, 10, 11, 12, 13, 14, 15, 16, 17, 18, 19, 20, 21, 22, 23, 24, 45, 46, 47, 48, 25, 26, 27, 28, 29, 30, 31, 32, 33, 34, 35, 36, 37, 38, 39, 40, 41, 42, 43, 44] (by decide) rfl
              generalize H1 = H at hP hS ⊢
              exact W.iret (v := r_12) hx hb hr (fun t ht hW => ⟨⟨r_12, lkq_14, rfl, ⟨by rw [hT, ← hM], by rw [hT, ← hM], hR_16⟩, by rw [ht]; exact hP, va_K.moved hW.alike hK, hD⟩, hS.F ht⟩) hS.2.2 nd_Main_lock_68
            · have c_11t := cr_nle c_11
              rw [if_neg c_11] at hM
              refine lv_aload_n hx hb nd_Main_lock_46 rfl (lv_at hl 0 rfl) ?_
              refine va_get (D := (dC, dI)) (ci := 4) (v := .ref (alk 0)) (C := "CeilingRows") (T := nf_Main) (N := 6) hx hb hts nin_Main hown hK hP 0 rfl rfl 2 (by decide) (hts _ tw_140) (fun _ h9 => h9) rfl nd_Main_lock_47 ?_
              refine lv_iload_n hx hb nd_Main_lock_50 rfl (lv_at hl 1 rfl) ?_
              refine lv_iload_n hx hb nd_Main_lock_51 rfl (lv_at hl 2 rfl) ?_
              have hPc := hP.sub (ws' := cw_Locks cI cZ cO alk lk) [25, 26, 27, 28] rfl
              have hDc := hD.sub (ws' := cw_Locks cI cZ cO alk lk) [25, 26, 27, 28] (by decide) rfl
              have hFc := va_free (wc := cw_Locks cI cZ cO alk lk) hD hS hA [25, 26, 27, 28] rfl
              refine va_calli (va_runV (As := [.int x1, .int x2]) (rest := []) ⟨hx, hb, hml, hown, hts⟩ (ct_Locks_acquire l dC dI cI cZ cO alk H.size lk x1 x2 hR_lk (by omega) (by omega)) (cwV 2 hts (ng_V tw_312 tw_313 tw_314 tw_4 tw_315) rfl rfl rfl (by decide +kernel) ⟨Nat.le_of_ble_eq_true rfl, Nat.le_of_ble_eq_true rfl⟩) ⟨fun a U g mk q => by obtain ⟨q0, q1, qP, qK, qD⟩ := q; exact ⟨q0, q1, qP, va_K.moved (u := U) (U := U.calling g mk a) (Vm.Alike.refl U.vm) qK, qD⟩, va_recv hK hPc (ci := 2) (q0 := 0) rfl rfl, fun U hU hW => ⟨rfl, by rw [hU], by rw [hU]; exact hPc, va_K.moved hW.alike hK, hDc.weaken (fun _ _ _ _ => trivial)⟩⟩ rfl rfl hl.1 rfl (lv_room (Nat.le_of_ble_eq_true rfl)) nd_Main_lock_52 ⟨Nat.zero_le _, Nat.zero_le _⟩) hS (fun q _ h => hFc q h) hFc (fun r_17 u t H1 locs ht hvm hw hB hz1 hk1 hS => ?_)
              obtain ⟨hP1, hK1, hD1⟩ := hB
              rw [ht] at hP1
              obtain ⟨lkq_19, rfl⟩ : ∃ z, z = u := ⟨_, rfl⟩
              obtain ⟨w_18, w_20, hR_21⟩ := hw
              try rw [← w_18] at hM
              try rw [← w_20] at hM
              obtain ⟨hP, hD⟩ := va_join (wr := cw_Main cI cZ cO amn apl abd alk atr mn lt ++ cw_Plan cI cZ cO apl pl ++ cw_Board cI cZ cO abd apl bd ++ cw_Trial cI cZ cO atr apl atb tr ++ cw_Board cI cZ cO atb apl tb) (w1 := cw_Locks cI cZ cO alk lkq_19) hP hD [25, 26, 27, 28] [0, 1, 2, 3, 4, 5, 6, 7, 8, 9, 10, 11, 12, 13, 14, 15, 16, 17, 18, 19, 20, 21, 22, 23, 24, 29, 30, 31, 32, 33, 34, 35, 36, 37, 38, 39, 40, 41, 42, 43, 44, 45, 46, 47, 48] rfl rfl (by decide) (by decide) hk1 hFc hP1 hD1
              have hP := hP.sub (ws' := cw_Main cI cZ cO amn apl abd alk atr mn lt ++ cw_Plan cI cZ cO apl pl ++ cw_Board cI cZ cO abd apl bd ++ cw_Locks cI cZ cO alk lkq_19 ++ cw_Trial cI cZ cO atr apl atb tr ++ cw_Board cI cZ cO atb apl tb) [0, 1, 2, 3, 4, 5, 6, 7, 8, 9, 10, 11, 12, 13, 14, 15, 16, 17, 18, 19, 20, 21, 22, 23, 24, 45, 46, 47, 48, 25, 26, 27, 28, 29, 30, 31, 32, 33, 34, 35, 36, 37, 38, 39, 40, 41, 42, 43, 44] rfl
              have hD := hD.sub (ws' := cw_Main cI cZ cO amn apl abd alk atr mn lt ++ cw_Plan cI cZ cO apl pl ++ cw_Board cI cZ cO abd apl bd ++ cw_Locks cI cZ cO alk lkq_19 ++ cw_Trial cI cZ cO atr apl atb tr ++ cw_Board cI cZ cO atb apl tb) [0, 1, 2, 3, 4, 5, 6, 7, 8, 9, 10, 11, 12, 13, 14, 15, 16, 17, 18, 19, 20, 21, 22, 23, 24, 45, 46, 47, 48, 25, 26, 27, 28, 29, 30, 31, 32, 33, 34, 35, 36, 37, 38, 39, 40, 41, 42, 43, 44] (by decide) rfl
              generalize H1 = H at hP hS ⊢
              refine lv_goto (tgt := 68) hx hb nd_Main_lock_55 (by decide) ?_
              exact W.iret (v := r_17) hx hb hr (fun t ht hW => ⟨⟨r_17, lkq_19, rfl, ⟨by rw [hT, ← hM], by rw [hT, ← hM], hR_21⟩, by rw [ht]; exact hP, va_K.moved hW.alike hK, hD⟩, hS.F ht⟩) hS.2.2 nd_Main_lock_68
          · have c_10t := cr_ne c_10
            rw [if_neg c_10] at hM
            refine lv_bipush (v := -3) hx hb nd_Main_lock_39 (by decide) ?_
            exact W.iret (v := (-3 : Int32)) hx hb hr (fun t ht hW => ⟨⟨(-3 : Int32), lk, rfl, ⟨by rw [hT, ← hM], by rw [hT, ← hM], hR_lk⟩, by rw [ht]; exact hP, va_K.moved hW.alike hK, hD⟩, hS.F ht⟩) hS.2.2 nd_Main_lock_41
        · have c_7t := cr_nle c_7
          rw [if_neg c_7] at hM
          refine lv_bipush (v := -2) hx hb nd_Main_lock_25 (by decide) ?_
          exact W.iret (v := (-2 : Int32)) hx hb hr (fun t ht hW => ⟨⟨(-2 : Int32), lk, rfl, ⟨by rw [hT, ← hM], by rw [hT, ← hM], hR_lk⟩, by rw [ht]; exact hP, va_K.moved hW.alike hK, hD⟩, hS.F ht⟩) hS.2.2 nd_Main_lock_27
  · have c_4t := cr_eq c_4
    rw [if_pos c_4] at hM
    refine lv_iconst (v := -1) hx hb nd_Main_lock_7 (by decide) ?_
    exact W.iret (v := (-1 : Int32)) hx hb hr (fun t ht hW => ⟨⟨(-1 : Int32), lk, rfl, ⟨by rw [hT, ← hM], by rw [hT, ← hM], hR_lk⟩, by rw [ht]; exact hP, va_K.moved hW.alike hK, hD⟩, hS.F ht⟩) hS.2.2 nd_Main_lock_8

theorem nd_Main_ring_0 : decode prog_1_method_11_code 0 = .ok (.iconst 1, 1) := by decide +kernel
theorem nd_Main_ring_1 : decode prog_1_method_11_code 1 = .ok (.istore_n 1, 1) := by decide +kernel
theorem nd_Main_ring_2 : decode prog_1_method_11_code 2 = .ok (.iload_n 1, 1) := by decide +kernel
theorem nd_Main_ring_3 : decode prog_1_method_11_code 3 = .ok (.iconst 3, 1) := by decide +kernel
theorem nd_Main_ring_4 : decode prog_1_method_11_code 4 = .ok (.if_icmp .gt (22), 3) := by decide +kernel
theorem nd_Main_ring_7 : decode prog_1_method_11_code 7 = .ok (.aload_n 0, 1) := by decide +kernel
theorem nd_Main_ring_8 : decode prog_1_method_11_code 8 = .ok (.getfield 28, 3) := by decide +kernel
theorem nd_Main_ring_11 : decode prog_1_method_11_code 11 = .ok (.iload_n 1, 1) := by decide +kernel
theorem nd_Main_ring_12 : decode prog_1_method_11_code 12 = .ok (.invokevirtual 127, 3) := by decide +kernel
theorem nd_Main_ring_15 : decode prog_1_method_11_code 15 = .ok (.ifCond .eq (5), 3) := by decide +kernel
theorem nd_Main_ring_18 : decode prog_1_method_11_code 18 = .ok (.iconst 1, 1) := by decide +kernel
theorem nd_Main_ring_19 : decode prog_1_method_11_code 19 = .ok (.ireturn, 1) := by decide +kernel
theorem nd_Main_ring_20 : decode prog_1_method_11_code 20 = .ok (.iinc 1 1, 3) := by decide +kernel
theorem nd_Main_ring_23 : decode prog_1_method_11_code 23 = .ok (.goto (-21), 3) := by decide +kernel
theorem nd_Main_ring_26 : decode prog_1_method_11_code 26 = .ok (.iconst 0, 1) := by decide +kernel
theorem nd_Main_ring_27 : decode prog_1_method_11_code 27 = .ok (.ireturn, 1) := by decide +kernel
def lo_Main_ring_2 (mn : cr_S) (lt : Int64) (pl : cr_S) (bd : cr_S) (lk : cr_S) (tr : cr_S) (tb : cr_S)  : Nat → Int32 → Int32
  | 0, _ => 0
  | n_2 + 1, v1_2 =>
    (if (3 : Int32) < v1_2 then (0 : Int32) else (if (md_Locks_waitsForItself lk v1_2) = 0 then (lo_Main_ring_2 mn lt pl bd lk tr tb n_2 (v1_2 + (1 : Int32))) else (1 : Int32)))
def md_Main_ring (mn : cr_S) (lt : Int64) (pl : cr_S) (bd : cr_S) (lk : cr_S) (tr : cr_S) (tb : cr_S) : Int32 :=
  (lo_Main_ring_2 mn lt pl bd lk tr tb 4 (1 : Int32))
abbrev pq_Main_ring (dC : Nat → ClassId) (dI : Nat → Nat → Nat) (cI cZ cO : ClassId) (amn apl abd alk atr atb : Nat → Nat) (mn : cr_S) (lt : Int64) (pl : cr_S) (bd : cr_S) (lk : cr_S) (tr : cr_S) (tb : cr_S)  (A : Nat → Prop) : Array Value → State → Outcome → State → Prop :=
  va_Qi (fun (r : Int32) (_ : Unit) => r = md_Main_ring mn lt pl bd lk tr tb) (fun (_ : Unit) t => va_P (dC, dI) vwCl (cw_Main cI cZ cO amn apl abd alk atr mn lt ++ cw_Plan cI cZ cO apl pl ++ cw_Board cI cZ cO abd apl bd ++ cw_Locks cI cZ cO alk lk ++ cw_Trial cI cZ cO atr apl atb tr ++ cw_Board cI cZ cO atb apl tb) t.heap ∧ va_K (dC, dI) vwCl [(cI, .int), (cZ, .boolean), (cO, .array .int)] t ∧ va_D A (cw_Main cI cZ cO amn apl abd alk atr mn lt ++ cw_Plan cI cZ cO apl pl ++ cw_Board cI cZ cO abd apl bd ++ cw_Locks cI cZ cO alk lk ++ cw_Trial cI cZ cO atr apl atb tr ++ cw_Board cI cZ cO atb apl tb)) A
set_option maxHeartbeats 4000000 in
set_option maxRecDepth 100000 in
theorem ct_Main_ring (l : Launch) (dC : Nat → ClassId) (dI : Nat → Nat → Nat) (cI cZ cO : ClassId) (amn apl abd alk atr atb : Nat → Nat) (sz : Nat) (mn : cr_S) (lt : Int64) (pl : cr_S) (bd : cr_S) (lk : cr_S) (tr : cr_S) (tb : cr_S)  (hR_tb : cr_RBoard tb) (hR_lk : cr_RLocks lk) (hR_bd : cr_RBoard bd) (hR_pl : cr_RPlan pl) : Met l ny_Main_ring nw_Main_ring ({ frames := 2, cells := 0, slots := 0, locals := 44 } : Room) (va_Pc [.ref (amn 0)] (fun U => U.heap.size = sz ∧ va_P (dC, dI) vwCl (cw_Main cI cZ cO amn apl abd alk atr mn lt ++ cw_Plan cI cZ cO apl pl ++ cw_Board cI cZ cO abd apl bd ++ cw_Locks cI cZ cO alk lk ++ cw_Trial cI cZ cO atr apl atb tr ++ cw_Board cI cZ cO atb apl tb) U.heap ∧ va_K (dC, dI) vwCl [(cI, .int), (cZ, .boolean), (cO, .array .int)] U ∧ va_D (fun _ => True) (cw_Main cI cZ cO amn apl abd alk atr mn lt ++ cw_Plan cI cZ cO apl pl ++ cw_Board cI cZ cO abd apl bd ++ cw_Locks cI cZ cO alk lk ++ cw_Trial cI cZ cO atr apl atb tr ++ cw_Board cI cZ cO atb apl tb))) (pq_Main_ring dC dI cI cZ cO amn apl abd alk atr atb mn lt pl bd lk tr tb  (va_A (cw_Main cI cZ cO amn apl abd alk atr mn lt ++ cw_Plan cI cZ cO apl pl ++ cw_Board cI cZ cO abd apl bd ++ cw_Locks cI cZ cO alk lk ++ cw_Trial cI cZ cO atr apl atb tr ++ cw_Board cI cZ cO atb apl tb) sz)) 0 0 (va_A (cw_Main cI cZ cO amn apl abd alk atr mn lt ++ cw_Plan cI cZ cO apl pl ++ cw_Board cI cZ cO abd apl bd ++ cw_Locks cI cZ cO alk lk ++ cw_Trial cI cZ cO atr apl atb tr ++ cw_Board cI cZ cO atb apl tb) sz) := by
  refine Met.ofW (cc := prog_1_method_11_code) (maxL := 2) (ret := (some .boolean)) (by decide) rfl ?_
  intro p e s m args below meth c s₁ B hml hv
  obtain ⟨rfl, hsz, hP, hK, hD0⟩ := hv
  have hx := B.exec
  have hb := B.bytes
  have hr := B.returns
  have hts0 := atoms_spec (ws := nw_Main_ring) B.pre
  have hts : ∀ w ∈ ng_tbl, w.before ([.ref (amn 0)] : List Value).toArray s = true := fun w h => hts0 w (List.mem_cons_of_mem _ h)
  have hown : s.vm.findClass "CeilingRows" = some m.cls := findClass_of_methodNamed B.named
  have hlocks := B.notSynchronized
  subst hsz
  have hD := hD0.self (sz := s.heap.size)
  generalize hAe : va_A (cw_Main cI cZ cO amn apl abd alk atr mn lt ++ cw_Plan cI cZ cO apl pl ++ cw_Board cI cZ cO abd apl bd ++ cw_Locks cI cZ cO alk lk ++ cw_Trial cI cZ cO atr apl atb tr ++ cw_Board cI cZ cO atb apl tb) s.heap.size = A at hD ⊢
  have hA : ∀ q : Nat, s.heap.size ≤ q → A q := fun q h => by rw [← hAe]; exact Or.inr h
  have hS : va_S A s.heap s.heap [] := va_S.rf
  have hP : va_P (dC, dI) vwCl (cw_Main cI cZ cO amn apl abd alk atr mn lt ++ cw_Plan cI cZ cO apl pl ++ cw_Board cI cZ cO abd apl bd ++ cw_Locks cI cZ cO alk lk ++ cw_Trial cI cZ cO atr apl atb tr ++ cw_Board cI cZ cO atb apl tb) s.heap := hP
  have hl := lv_entry ([.ref (amn 0)]) (n := 2) (Nat.le_of_ble_eq_true rfl)
  rw [lg_entry_eq]
  generalize (lg_sl ([.ref (amn 0)]) ++ List.replicate (2 - (lg_sl ([.ref (amn 0)])).length) Slot.unset).toArray = ls at hl ⊢
  have hl : lv_has ls 2 [(0, .ref (amn 0))] := hl
  have k_0 : (0 : Int32).toInt = 0 := by decide
  have k_1 : (1 : Int32).toInt = 1 := by decide
  have k_3 : (3 : Int32).toInt = 3 := by decide
  obtain ⟨tgt, hT⟩ : ∃ z, md_Main_ring mn lt pl bd lk tr tb = z := ⟨_, rfl⟩
  have hM := hT
  unfold md_Main_ring at hM
  refine lv_iconst (v := 1) hx hb nd_Main_ring_0 (by decide) ?_
  refine lv_istore_n (lv' := [(1, .int (1 : Int32)), (0, .ref (amn 0))]) hx hb nd_Main_ring_1 rfl hl (by decide) rfl (fun ls hl => ?_)
  have hl := lv_sub hl [1, 0] rfl
  have lp_2 : ∀ (n_2 : Nat) (v1_2 : Int32), (1 ≤ v1_2.toInt ∧ v1_2.toInt ≤ 4) → (4 < v1_2.toInt + (n_2 : Int)) → lo_Main_ring_2 mn lt pl bd lk tr tb n_2 v1_2 = tgt → ∀ (H : Heap) (locs : List Loc), va_P (dC, dI) vwCl (cw_Main cI cZ cO amn apl abd alk atr mn lt ++ cw_Plan cI cZ cO apl pl ++ cw_Board cI cZ cO abd apl bd ++ cw_Locks cI cZ cO alk lk ++ cw_Trial cI cZ cO atr apl atb tr ++ cw_Board cI cZ cO atb apl tb) H → va_D A (cw_Main cI cZ cO amn apl abd alk atr mn lt ++ cw_Plan cI cZ cO apl pl ++ cw_Board cI cZ cO abd apl bd ++ cw_Locks cI cZ cO alk lk ++ cw_Trial cI cZ cO atr apl atb tr ++ cw_Board cI cZ cO atb apl tb) → va_S A s.heap H locs → ∀ ls : Array Slot, lv_has ls 2 [(0, .ref (amn 0)), (1, .int v1_2)] → W p l e (headSpec nw_Main_ring ({ frames := 2, cells := 0, slots := 0, locals := 44 } : Room)).room s m ([.ref (amn 0)] : List Value).toArray below meth c H locs 0 0 (MQ below (pq_Main_ring dC dI cI cZ cO amn apl abd alk atr atb mn lt pl bd lk tr tb  A) ([.ref (amn 0)] : List Value).toArray s 0 0 A) (F0 m 2 ls []) := by
    intro n_2
    induction n_2 with
    | zero =>
      intro v1_2 hv1_2 hn_2
      exfalso; omega
    | succ n_2 ih_2 =>
      intro v1_2 hv1_2 hn_2 hM H locs hP hD hS ls hl
      have hn_2 : 4 < v1_2.toInt + ((n_2 : Int) + 1) := by omega
      rw [lo_Main_ring_2] at hM
      refine lv_iload_n hx hb nd_Main_ring_2 rfl (lv_at hl 1 rfl) ?_
      refine lv_iconst (v := 3) hx hb nd_Main_ring_3 (by decide) ?_
      refine lv_icmp_gt (tgt := 26) hx hb nd_Main_ring_4 (by decide) (fun c_1 => ?_) (fun c_1 => ?_)
      · have c_1t := cr_lt c_1
        rw [if_pos c_1] at hM
        refine lv_iconst (v := 0) hx hb nd_Main_ring_26 (by decide) ?_
        exact W.zret (v := (0 : Int32)) (ty := .boolean) hx hb hr (by decide) (fun t ht hW => ⟨⟨(0 : Int32), (), rfl, by rw [hT, ← hM], by rw [ht]; exact hP, va_K.moved hW.alike hK, hD⟩, hS.F ht⟩) hS.2.2 nd_Main_ring_27
      · have c_1t := cr_nlt c_1
        rw [if_neg c_1] at hM
        refine lv_aload_n hx hb nd_Main_ring_7 rfl (lv_at hl 0 rfl) ?_
        refine va_get (D := (dC, dI)) (ci := 4) (v := .ref (alk 0)) (C := "CeilingRows") (T := nf_Main) (N := 6) hx hb hts nin_Main hown hK hP 0 rfl rfl 2 (by decide) (hts _ tw_140) (fun _ h9 => h9) rfl nd_Main_ring_8 ?_
        refine lv_iload_n hx hb nd_Main_ring_11 rfl (lv_at hl 1 rfl) ?_
        have hPc := hP.sub (ws' := cw_Locks cI cZ cO alk lk) [25, 26, 27, 28] rfl
        have hDc := hD.sub (ws' := cw_Locks cI cZ cO alk lk) [25, 26, 27, 28] (by decide) rfl
        have hFc := va_free (wc := cw_Locks cI cZ cO alk lk) hD hS hA [25, 26, 27, 28] rfl
        refine va_calli (va_runV (As := [.int v1_2]) (rest := []) ⟨hx, hb, hml, hown, hts⟩ (ct_Locks_waitsForItself l dC dI cI cZ cO alk H.size lk v1_2 hR_lk (by omega)) (cwV 1 hts (ng_V tw_332 tw_333 tw_334 tw_4 tw_335) rfl rfl rfl (by decide +kernel) ⟨Nat.le_of_ble_eq_true rfl, Nat.le_of_ble_eq_true rfl⟩) ⟨fun a U g mk q => by obtain ⟨q0, q1, qP, qK, qD⟩ := q; exact ⟨q0, q1, qP, va_K.moved (u := U) (U := U.calling g mk a) (Vm.Alike.refl U.vm) qK, qD⟩, va_recv hK hPc (ci := 2) (q0 := 0) rfl rfl, fun U hU hW => ⟨rfl, by rw [hU], by rw [hU]; exact hPc, va_K.moved hW.alike hK, hDc.weaken (fun _ _ _ _ => trivial)⟩⟩ rfl rfl hl.1 rfl (lv_room (Nat.le_of_ble_eq_true rfl)) nd_Main_ring_12 ⟨Nat.zero_le _, Nat.zero_le _⟩) hS (fun q _ h => hFc q h) hFc (fun r_2 u t H1 locs ht hvm hw hB hz1 hk1 hS => ?_)
        obtain ⟨hP1, hK1, hD1⟩ := hB
        rw [ht] at hP1
        have w_3 := hw
        try rw [← w_3] at hM
        obtain ⟨hP, hD⟩ := va_join (wr := cw_Main cI cZ cO amn apl abd alk atr mn lt ++ cw_Plan cI cZ cO apl pl ++ cw_Board cI cZ cO abd apl bd ++ cw_Trial cI cZ cO atr apl atb tr ++ cw_Board cI cZ cO atb apl tb) (w1 := cw_Locks cI cZ cO alk lk) hP hD [25, 26, 27, 28] [0, 1, 2, 3, 4, 5, 6, 7, 8, 9, 10, 11, 12, 13, 14, 15, 16, 17, 18, 19, 20, 21, 22, 23, 24, 29, 30, 31, 32, 33, 34, 35, 36, 37, 38, 39, 40, 41, 42, 43, 44, 45, 46, 47, 48] rfl rfl (by decide) (by decide) hk1 hFc hP1 hD1
        have hP := hP.sub (ws' := cw_Main cI cZ cO amn apl abd alk atr mn lt ++ cw_Plan cI cZ cO apl pl ++ cw_Board cI cZ cO abd apl bd ++ cw_Locks cI cZ cO alk lk ++ cw_Trial cI cZ cO atr apl atb tr ++ cw_Board cI cZ cO atb apl tb) [0, 1, 2, 3, 4, 5, 6, 7, 8, 9, 10, 11, 12, 13, 14, 15, 16, 17, 18, 19, 20, 21, 22, 23, 24, 45, 46, 47, 48, 25, 26, 27, 28, 29, 30, 31, 32, 33, 34, 35, 36, 37, 38, 39, 40, 41, 42, 43, 44] rfl
        have hD := hD.sub (ws' := cw_Main cI cZ cO amn apl abd alk atr mn lt ++ cw_Plan cI cZ cO apl pl ++ cw_Board cI cZ cO abd apl bd ++ cw_Locks cI cZ cO alk lk ++ cw_Trial cI cZ cO atr apl atb tr ++ cw_Board cI cZ cO atb apl tb) [0, 1, 2, 3, 4, 5, 6, 7, 8, 9, 10, 11, 12, 13, 14, 15, 16, 17, 18, 19, 20, 21, 22, 23, 24, 45, 46, 47, 48, 25, 26, 27, 28, 29, 30, 31, 32, 33, 34, 35, 36, 37, 38, 39, 40, 41, 42, 43, 44] (by decide) rfl
        generalize H1 = H at hP hS ⊢
        refine lv_if_eq (tgt := 20) hx hb nd_Main_ring_15 (by decide) (fun c_4 => ?_) (fun c_4 => ?_)
        · have c_4t := cr_eq c_4
          rw [if_pos c_4] at hM
          have e_5 : (v1_2 + (1 : Int32)).toInt = v1_2.toInt + (1 : Int32).toInt := cr_add (by omega)
          refine lv_iinc (v := (v1_2 + (1 : Int32))) (lv' := [(1, .int (v1_2 + (1 : Int32))), (0, .ref (amn 0))]) hx hb nd_Main_ring_20 hl (k := 1) rfl (by rfl) (by decide) rfl (fun ls hl => ?_)
          refine lv_goto (tgt := 2) hx hb nd_Main_ring_23 (by decide) ?_
          exact ih_2 (v1_2 + (1 : Int32)) (by omega) (by omega) hM _ _ hP hD hS _ (lv_sub hl [1, 0] rfl)
        · have c_4t := cr_ne c_4
          rw [if_neg c_4] at hM
          refine lv_iconst (v := 1) hx hb nd_Main_ring_18 (by decide) ?_
          exact W.zret (v := (1 : Int32)) (ty := .boolean) hx hb hr (by decide) (fun t ht hW => ⟨⟨(1 : Int32), (), rfl, by rw [hT, ← hM], by rw [ht]; exact hP, va_K.moved hW.alike hK, hD⟩, hS.F ht⟩) hS.2.2 nd_Main_ring_19
  exact lp_2 4 (1 : Int32) (by omega) (by omega) hM _ _ hP hD hS _ hl

theorem nd_Main_lower_0 : decode prog_1_method_12_code 0 = .ok (.aload_n 0, 1) := by decide +kernel
theorem nd_Main_lower_1 : decode prog_1_method_12_code 1 = .ok (.getfield 12, 3) := by decide +kernel
theorem nd_Main_lower_4 : decode prog_1_method_12_code 4 = .ok (.iload_n 1, 1) := by decide +kernel
theorem nd_Main_lower_5 : decode prog_1_method_12_code 5 = .ok (.invokevirtual 66, 3) := by decide +kernel
theorem nd_Main_lower_8 : decode prog_1_method_12_code 8 = .ok (.ifCond .ne (5), 3) := by decide +kernel
theorem nd_Main_lower_11 : decode prog_1_method_12_code 11 = .ok (.iconst (-1), 1) := by decide +kernel
theorem nd_Main_lower_12 : decode prog_1_method_12_code 12 = .ok (.ireturn, 1) := by decide +kernel
theorem nd_Main_lower_13 : decode prog_1_method_12_code 13 = .ok (.iconst 0, 1) := by decide +kernel
theorem nd_Main_lower_14 : decode prog_1_method_12_code 14 = .ok (.istore_n 3, 1) := by decide +kernel
theorem nd_Main_lower_15 : decode prog_1_method_12_code 15 = .ok (.iconst 1, 1) := by decide +kernel
theorem nd_Main_lower_16 : decode prog_1_method_12_code 16 = .ok (.istore 4, 2) := by decide +kernel
theorem nd_Main_lower_18 : decode prog_1_method_12_code 18 = .ok (.iload 4, 2) := by decide +kernel
theorem nd_Main_lower_20 : decode prog_1_method_12_code 20 = .ok (.aload_n 0, 1) := by decide +kernel
theorem nd_Main_lower_21 : decode prog_1_method_12_code 21 = .ok (.getfield 12, 3) := by decide +kernel
theorem nd_Main_lower_24 : decode prog_1_method_12_code 24 = .ok (.getfield 51, 3) := by decide +kernel
theorem nd_Main_lower_27 : decode prog_1_method_12_code 27 = .ok (.if_icmp .gt (33), 3) := by decide +kernel
theorem nd_Main_lower_30 : decode prog_1_method_12_code 30 = .ok (.aload_n 0, 1) := by decide +kernel
theorem nd_Main_lower_31 : decode prog_1_method_12_code 31 = .ok (.getfield 12, 3) := by decide +kernel
theorem nd_Main_lower_34 : decode prog_1_method_12_code 34 = .ok (.iload_n 1, 1) := by decide +kernel
theorem nd_Main_lower_35 : decode prog_1_method_12_code 35 = .ok (.iload 4, 2) := by decide +kernel
theorem nd_Main_lower_37 : decode prog_1_method_12_code 37 = .ok (.invokevirtual 110, 3) := by decide +kernel
theorem nd_Main_lower_40 : decode prog_1_method_12_code 40 = .ok (.ifCond .le (14), 3) := by decide +kernel
theorem nd_Main_lower_43 : decode prog_1_method_12_code 43 = .ok (.iload_n 3, 1) := by decide +kernel
theorem nd_Main_lower_44 : decode prog_1_method_12_code 44 = .ok (.iload_n 2, 1) := by decide +kernel
theorem nd_Main_lower_45 : decode prog_1_method_12_code 45 = .ok (.if_icmp .ne (6), 3) := by decide +kernel
theorem nd_Main_lower_48 : decode prog_1_method_12_code 48 = .ok (.iload 4, 2) := by decide +kernel
theorem nd_Main_lower_50 : decode prog_1_method_12_code 50 = .ok (.ireturn, 1) := by decide +kernel
theorem nd_Main_lower_51 : decode prog_1_method_12_code 51 = .ok (.iinc 3 1, 3) := by decide +kernel
theorem nd_Main_lower_54 : decode prog_1_method_12_code 54 = .ok (.iinc 4 1, 3) := by decide +kernel
theorem nd_Main_lower_57 : decode prog_1_method_12_code 57 = .ok (.goto (-39), 3) := by decide +kernel
theorem nd_Main_lower_60 : decode prog_1_method_12_code 60 = .ok (.iconst 0, 1) := by decide +kernel
theorem nd_Main_lower_61 : decode prog_1_method_12_code 61 = .ok (.ireturn, 1) := by decide +kernel
def lo_Main_lower_18 (mn : cr_S) (lt : Int64) (pl : cr_S) (bd : cr_S) (lk : cr_S) (tr : cr_S) (tb : cr_S) (x1 : Int32) (x2 : Int32) : Nat → Int32 → Int32 → Int32
  | 0, _, _ => 0
  | n_18 + 1, v3_18, v4_18 =>
    (if (pl 0 0) < v4_18 then (0 : Int32) else (if (md_Plan_longestDelay pl x1 v4_18) ≤ 0 then (lo_Main_lower_18 mn lt pl bd lk tr tb x1 x2 n_18 v3_18 (v4_18 + (1 : Int32))) else (if v3_18 = x2 then v4_18 else (lo_Main_lower_18 mn lt pl bd lk tr tb x1 x2 n_18 (v3_18 + (1 : Int32)) (v4_18 + (1 : Int32))))))
def md_Main_lower (mn : cr_S) (lt : Int64) (pl : cr_S) (bd : cr_S) (lk : cr_S) (tr : cr_S) (tb : cr_S) (x1 : Int32) (x2 : Int32) : Int32 :=
  (if (md_Plan_hasTask pl x1) = 0 then (-1 : Int32) else (lo_Main_lower_18 mn lt pl bd lk tr tb x1 x2 11 (0 : Int32) (1 : Int32)))
abbrev pq_Main_lower (dC : Nat → ClassId) (dI : Nat → Nat → Nat) (cI cZ cO : ClassId) (amn apl abd alk atr atb : Nat → Nat) (mn : cr_S) (lt : Int64) (pl : cr_S) (bd : cr_S) (lk : cr_S) (tr : cr_S) (tb : cr_S) (x1 : Int32) (x2 : Int32) (A : Nat → Prop) : Array Value → State → Outcome → State → Prop :=
  va_Qi (fun (r : Int32) (_ : Unit) => r = md_Main_lower mn lt pl bd lk tr tb x1 x2) (fun (_ : Unit) t => va_P (dC, dI) vwCl (cw_Main cI cZ cO amn apl abd alk atr mn lt ++ cw_Plan cI cZ cO apl pl ++ cw_Board cI cZ cO abd apl bd ++ cw_Locks cI cZ cO alk lk ++ cw_Trial cI cZ cO atr apl atb tr ++ cw_Board cI cZ cO atb apl tb) t.heap ∧ va_K (dC, dI) vwCl [(cI, .int), (cZ, .boolean), (cO, .array .int)] t ∧ va_D A (cw_Main cI cZ cO amn apl abd alk atr mn lt ++ cw_Plan cI cZ cO apl pl ++ cw_Board cI cZ cO abd apl bd ++ cw_Locks cI cZ cO alk lk ++ cw_Trial cI cZ cO atr apl atb tr ++ cw_Board cI cZ cO atb apl tb)) A
set_option maxHeartbeats 4000000 in
set_option maxRecDepth 100000 in
theorem ct_Main_lower (l : Launch) (dC : Nat → ClassId) (dI : Nat → Nat → Nat) (cI cZ cO : ClassId) (amn apl abd alk atr atb : Nat → Nat) (sz : Nat) (mn : cr_S) (lt : Int64) (pl : cr_S) (bd : cr_S) (lk : cr_S) (tr : cr_S) (tb : cr_S) (x1 : Int32) (x2 : Int32) (hR_tb : cr_RBoard tb) (hR_lk : cr_RLocks lk) (hR_bd : cr_RBoard bd) (hR_pl : cr_RPlan pl) : Met l ny_Main_lower nw_Main_lower ({ frames := 2, cells := 0, slots := 0, locals := 46 } : Room) (va_Pc [.ref (amn 0), .int x1, .int x2] (fun U => U.heap.size = sz ∧ va_P (dC, dI) vwCl (cw_Main cI cZ cO amn apl abd alk atr mn lt ++ cw_Plan cI cZ cO apl pl ++ cw_Board cI cZ cO abd apl bd ++ cw_Locks cI cZ cO alk lk ++ cw_Trial cI cZ cO atr apl atb tr ++ cw_Board cI cZ cO atb apl tb) U.heap ∧ va_K (dC, dI) vwCl [(cI, .int), (cZ, .boolean), (cO, .array .int)] U ∧ va_D (fun _ => True) (cw_Main cI cZ cO amn apl abd alk atr mn lt ++ cw_Plan cI cZ cO apl pl ++ cw_Board cI cZ cO abd apl bd ++ cw_Locks cI cZ cO alk lk ++ cw_Trial cI cZ cO atr apl atb tr ++ cw_Board cI cZ cO atb apl tb))) (pq_Main_lower dC dI cI cZ cO amn apl abd alk atr atb mn lt pl bd lk tr tb x1 x2 (va_A (cw_Main cI cZ cO amn apl abd alk atr mn lt ++ cw_Plan cI cZ cO apl pl ++ cw_Board cI cZ cO abd apl bd ++ cw_Locks cI cZ cO alk lk ++ cw_Trial cI cZ cO atr apl atb tr ++ cw_Board cI cZ cO atb apl tb) sz)) 0 0 (va_A (cw_Main cI cZ cO amn apl abd alk atr mn lt ++ cw_Plan cI cZ cO apl pl ++ cw_Board cI cZ cO abd apl bd ++ cw_Locks cI cZ cO alk lk ++ cw_Trial cI cZ cO atr apl atb tr ++ cw_Board cI cZ cO atb apl tb) sz) := by
  refine Met.ofW (cc := prog_1_method_12_code) (maxL := 5) (ret := (some .int)) (by decide) rfl ?_
  intro p e s m args below meth c s₁ B hml hv
  obtain ⟨rfl, hsz, hP, hK, hD0⟩ := hv
  have hx := B.exec
  have hb := B.bytes
  have hr := B.returns
  have hts0 := atoms_spec (ws := nw_Main_lower) B.pre
  have hts : ∀ w ∈ ng_tbl, w.before ([.ref (amn 0), .int x1, .int x2] : List Value).toArray s = true := fun w h => hts0 w (List.mem_cons_of_mem _ h)
  have hown : s.vm.findClass "CeilingRows" = some m.cls := findClass_of_methodNamed B.named
  have hlocks := B.notSynchronized
  subst hsz
  have hD := hD0.self (sz := s.heap.size)
  generalize hAe : va_A (cw_Main cI cZ cO amn apl abd alk atr mn lt ++ cw_Plan cI cZ cO apl pl ++ cw_Board cI cZ cO abd apl bd ++ cw_Locks cI cZ cO alk lk ++ cw_Trial cI cZ cO atr apl atb tr ++ cw_Board cI cZ cO atb apl tb) s.heap.size = A at hD ⊢
  have hA : ∀ q : Nat, s.heap.size ≤ q → A q := fun q h => by rw [← hAe]; exact Or.inr h
  have hS : va_S A s.heap s.heap [] := va_S.rf
  have hP : va_P (dC, dI) vwCl (cw_Main cI cZ cO amn apl abd alk atr mn lt ++ cw_Plan cI cZ cO apl pl ++ cw_Board cI cZ cO abd apl bd ++ cw_Locks cI cZ cO alk lk ++ cw_Trial cI cZ cO atr apl atb tr ++ cw_Board cI cZ cO atb apl tb) s.heap := hP
  have hl := lv_entry ([.ref (amn 0), .int x1, .int x2]) (n := 5) (Nat.le_of_ble_eq_true rfl)
  rw [lg_entry_eq]
  generalize (lg_sl ([.ref (amn 0), .int x1, .int x2]) ++ List.replicate (5 - (lg_sl ([.ref (amn 0), .int x1, .int x2])).length) Slot.unset).toArray = ls at hl ⊢
  have hl : lv_has ls 5 [(0, .ref (amn 0)), (1, .int x1), (2, .int x2)] := hl
  have k_m1 : (-1 : Int32).toInt = -1 := by decide
  have k_0 : (0 : Int32).toInt = 0 := by decide
  have k_1 : (1 : Int32).toInt = 1 := by decide
  obtain ⟨tgt, hT⟩ : ∃ z, md_Main_lower mn lt pl bd lk tr tb x1 x2 = z := ⟨_, rfl⟩
  have hM := hT
  unfold md_Main_lower at hM
  refine lv_aload_n hx hb nd_Main_lower_0 rfl (lv_at hl 0 rfl) ?_
  refine va_get (D := (dC, dI)) (ci := 4) (v := .ref (apl 0)) (C := "CeilingRows") (T := nf_Main) (N := 6) hx hb hts nin_Main hown hK hP 0 rfl rfl 0 (by decide) (hts _ tw_138) (fun _ h9 => h9) rfl nd_Main_lower_1 ?_
  refine lv_iload_n hx hb nd_Main_lower_4 rfl (lv_at hl 1 rfl) ?_
  have hPc := hP.sub (ws' := cw_Plan cI cZ cO apl pl) [2, 3, 4, 5, 6, 7, 8, 9, 10, 11, 12, 13, 14, 15, 16, 17, 18] rfl
  have hDc := hD.sub (ws' := cw_Plan cI cZ cO apl pl) [2, 3, 4, 5, 6, 7, 8, 9, 10, 11, 12, 13, 14, 15, 16, 17, 18] (by decide) rfl
  have hFc := va_free (wc := cw_Plan cI cZ cO apl pl) hD hS hA [2, 3, 4, 5, 6, 7, 8, 9, 10, 11, 12, 13, 14, 15, 16, 17, 18] rfl
  refine va_calli (va_runV (As := [.int x1]) (rest := []) ⟨hx, hb, hml, hown, hts⟩ (ct_Plan_hasTask l dC dI cI cZ cO apl s.heap.size pl x1 hR_pl) (cwV 1 hts (ng_V tw_181 tw_182 tw_183 tw_2 tw_184) rfl rfl rfl (by decide +kernel) ⟨Nat.le_of_ble_eq_true rfl, Nat.le_of_ble_eq_true rfl⟩) ⟨fun a U g mk q => by obtain ⟨q0, q1, qP, qK, qD⟩ := q; exact ⟨q0, q1, qP, va_K.moved (u := U) (U := U.calling g mk a) (Vm.Alike.refl U.vm) qK, qD⟩, va_recv hK hPc (ci := 0) (q0 := 0) rfl rfl, fun U hU hW => ⟨rfl, by rw [hU], by rw [hU]; exact hPc, va_K.moved hW.alike hK, hDc.weaken (fun _ _ _ _ => trivial)⟩⟩ rfl rfl hl.1 rfl (lv_room (Nat.le_of_ble_eq_true rfl)) nd_Main_lower_5 ⟨Nat.zero_le _, Nat.zero_le _⟩) hS (fun q _ h => hFc q h) hFc (fun r_1 u t H1 locs ht hvm hw hB hz1 hk1 hS => ?_)
  obtain ⟨hP1, hK1, hD1⟩ := hB
  rw [ht] at hP1
  obtain ⟨w_2, f_3⟩ := hw
  try rw [← w_2] at hM
  obtain ⟨hP, hD⟩ := va_join (wr := cw_Main cI cZ cO amn apl abd alk atr mn lt ++ cw_Board cI cZ cO abd apl bd ++ cw_Locks cI cZ cO alk lk ++ cw_Trial cI cZ cO atr apl atb tr ++ cw_Board cI cZ cO atb apl tb) (w1 := cw_Plan cI cZ cO apl pl) hP hD [2, 3, 4, 5, 6, 7, 8, 9, 10, 11, 12, 13, 14, 15, 16, 17, 18] [0, 1, 19, 20, 21, 22, 23, 24, 25, 26, 27, 28, 29, 30, 31, 32, 33, 34, 35, 36, 37, 38, 39, 40, 41, 42, 43, 44, 45, 46, 47, 48] rfl rfl (by decide) (by decide) hk1 hFc hP1 hD1
  have hP := hP.sub (ws' := cw_Main cI cZ cO amn apl abd alk atr mn lt ++ cw_Plan cI cZ cO apl pl ++ cw_Board cI cZ cO abd apl bd ++ cw_Locks cI cZ cO alk lk ++ cw_Trial cI cZ cO atr apl atb tr ++ cw_Board cI cZ cO atb apl tb) [0, 1, 32, 33, 34, 35, 36, 37, 38, 39, 40, 41, 42, 43, 44, 45, 46, 47, 48, 2, 3, 4, 5, 6, 7, 8, 9, 10, 11, 12, 13, 14, 15, 16, 17, 18, 19, 20, 21, 22, 23, 24, 25, 26, 27, 28, 29, 30, 31] rfl
  have hD := hD.sub (ws' := cw_Main cI cZ cO amn apl abd alk atr mn lt ++ cw_Plan cI cZ cO apl pl ++ cw_Board cI cZ cO abd apl bd ++ cw_Locks cI cZ cO alk lk ++ cw_Trial cI cZ cO atr apl atb tr ++ cw_Board cI cZ cO atb apl tb) [0, 1, 32, 33, 34, 35, 36, 37, 38, 39, 40, 41, 42, 43, 44, 45, 46, 47, 48, 2, 3, 4, 5, 6, 7, 8, 9, 10, 11, 12, 13, 14, 15, 16, 17, 18, 19, 20, 21, 22, 23, 24, 25, 26, 27, 28, 29, 30, 31] (by decide) rfl
  generalize H1 = H at hP hS ⊢
  refine lv_if_ne (tgt := 13) hx hb nd_Main_lower_8 (by decide) (fun c_4 => ?_) (fun c_4 => ?_)
  · have c_4t := cr_ne c_4
    rw [if_neg c_4] at hM
    refine lv_iconst (v := 0) hx hb nd_Main_lower_13 (by decide) ?_
    refine lv_istore_n (lv' := [(3, .int (0 : Int32)), (0, .ref (amn 0)), (1, .int x1), (2, .int x2)]) hx hb nd_Main_lower_14 rfl hl (by decide) rfl (fun ls hl => ?_)
    refine lv_iconst (v := 1) hx hb nd_Main_lower_15 (by decide) ?_
    refine lv_istore (lv' := [(4, .int (1 : Int32)), (3, .int (0 : Int32)), (0, .ref (amn 0)), (1, .int x1), (2, .int x2)]) hx hb nd_Main_lower_16 hl (by decide) rfl (fun ls hl => ?_)
    have hl := lv_sub hl [2, 3, 4, 1, 0] rfl
    have lp_18 : ∀ (n_18 : Nat) (v3_18 : Int32) (v4_18 : Int32), (1 ≤ v4_18.toInt ∧ v4_18.toInt ≤ 11) → (11 < v4_18.toInt + (n_18 : Int)) → lo_Main_lower_18 mn lt pl bd lk tr tb x1 x2 n_18 v3_18 v4_18 = tgt → ∀ (H : Heap) (locs : List Loc), va_P (dC, dI) vwCl (cw_Main cI cZ cO amn apl abd alk atr mn lt ++ cw_Plan cI cZ cO apl pl ++ cw_Board cI cZ cO abd apl bd ++ cw_Locks cI cZ cO alk lk ++ cw_Trial cI cZ cO atr apl atb tr ++ cw_Board cI cZ cO atb apl tb) H → va_D A (cw_Main cI cZ cO amn apl abd alk atr mn lt ++ cw_Plan cI cZ cO apl pl ++ cw_Board cI cZ cO abd apl bd ++ cw_Locks cI cZ cO alk lk ++ cw_Trial cI cZ cO atr apl atb tr ++ cw_Board cI cZ cO atb apl tb) → va_S A s.heap H locs → ∀ ls : Array Slot, lv_has ls 5 [(0, .ref (amn 0)), (1, .int x1), (2, .int x2), (3, .int v3_18), (4, .int v4_18)] → W p l e (headSpec nw_Main_lower ({ frames := 2, cells := 0, slots := 0, locals := 46 } : Room)).room s m ([.ref (amn 0), .int x1, .int x2] : List Value).toArray below meth c H locs 0 0 (MQ below (pq_Main_lower dC dI cI cZ cO amn apl abd alk atr atb mn lt pl bd lk tr tb x1 x2 A) ([.ref (amn 0), .int x1, .int x2] : List Value).toArray s 0 0 A) (F0 m 18 ls []) := by
      intro n_18
      induction n_18 with
      | zero =>
        intro v3_18 v4_18 hv4_18 hn_18
        exfalso; omega
      | succ n_18 ih_18 =>
        intro v3_18 v4_18 hv4_18 hn_18 hM H locs hP hD hS ls hl
        have hn_18 : 11 < v4_18.toInt + ((n_18 : Int) + 1) := by omega
        rw [lo_Main_lower_18] at hM
        refine lv_iload hx hb nd_Main_lower_18 (lv_at hl 4 rfl) ?_
        refine lv_aload_n hx hb nd_Main_lower_20 rfl (lv_at hl 0 rfl) ?_
        refine va_get (D := (dC, dI)) (ci := 4) (v := .ref (apl 0)) (C := "CeilingRows") (T := nf_Main) (N := 6) hx hb hts nin_Main hown hK hP 0 rfl rfl 0 (by decide) (hts _ tw_138) (fun _ h9 => h9) rfl nd_Main_lower_21 ?_
        refine va_get (D := (dC, dI)) (ci := 0) (v := .int (pl 0 0)) (C := "CeilingRows$Plan") (T := nf_Plan) (N := 7) hx hb hts nin_Plan hown hK hP 2 rfl rfl 0 (by decide) (hts _ tw_28) (fun _ h9 => h9) rfl nd_Main_lower_24 ?_
        have f_5 := cr_rfo hR_pl.1
        refine lv_icmp_gt (tgt := 60) hx hb nd_Main_lower_27 (by decide) (fun c_6 => ?_) (fun c_6 => ?_)
        · have c_6t := cr_lt c_6
          rw [if_pos c_6] at hM
          refine lv_iconst (v := 0) hx hb nd_Main_lower_60 (by decide) ?_
          exact W.iret (v := (0 : Int32)) hx hb hr (fun t ht hW => ⟨⟨(0 : Int32), (), rfl, by rw [hT, ← hM], by rw [ht]; exact hP, va_K.moved hW.alike hK, hD⟩, hS.F ht⟩) hS.2.2 nd_Main_lower_61
        · have c_6t := cr_nlt c_6
          rw [if_neg c_6] at hM
          refine lv_aload_n hx hb nd_Main_lower_30 rfl (lv_at hl 0 rfl) ?_
          refine va_get (D := (dC, dI)) (ci := 4) (v := .ref (apl 0)) (C := "CeilingRows") (T := nf_Main) (N := 6) hx hb hts nin_Main hown hK hP 0 rfl rfl 0 (by decide) (hts _ tw_138) (fun _ h9 => h9) rfl nd_Main_lower_31 ?_
          refine lv_iload_n hx hb nd_Main_lower_34 rfl (lv_at hl 1 rfl) ?_
          refine lv_iload hx hb nd_Main_lower_35 (lv_at hl 4 rfl) ?_
          have hPc := hP.sub (ws' := cw_Plan cI cZ cO apl pl) [2, 3, 4, 5, 6, 7, 8, 9, 10, 11, 12, 13, 14, 15, 16, 17, 18] rfl
          have hDc := hD.sub (ws' := cw_Plan cI cZ cO apl pl) [2, 3, 4, 5, 6, 7, 8, 9, 10, 11, 12, 13, 14, 15, 16, 17, 18] (by decide) rfl
          have hFc := va_free (wc := cw_Plan cI cZ cO apl pl) hD hS hA [2, 3, 4, 5, 6, 7, 8, 9, 10, 11, 12, 13, 14, 15, 16, 17, 18] rfl
          refine va_calli (va_runV (As := [.int x1, .int v4_18]) (rest := []) ⟨hx, hb, hml, hown, hts⟩ (ct_Plan_longestDelay l dC dI cI cZ cO apl H.size pl x1 v4_18 hR_pl (by omega) (by omega)) (cwV 2 hts (ng_V tw_299 tw_300 tw_301 tw_2 tw_302) rfl rfl rfl (by decide +kernel) ⟨Nat.le_of_ble_eq_true rfl, Nat.le_of_ble_eq_true rfl⟩) ⟨fun a U g mk q => by obtain ⟨q0, q1, qP, qK, qD⟩ := q; exact ⟨q0, q1, qP, va_K.moved (u := U) (U := U.calling g mk a) (Vm.Alike.refl U.vm) qK, qD⟩, va_recv hK hPc (ci := 0) (q0 := 0) rfl rfl, fun U hU hW => ⟨rfl, by rw [hU], by rw [hU]; exact hPc, va_K.moved hW.alike hK, hDc.weaken (fun _ _ _ _ => trivial)⟩⟩ rfl rfl hl.1 rfl (lv_room (Nat.le_of_ble_eq_true rfl)) nd_Main_lower_37 ⟨Nat.zero_le _, Nat.zero_le _⟩) hS (fun q _ h => hFc q h) hFc (fun r_7 u t H1 locs ht hvm hw hB hz1 hk1 hS => ?_)
          obtain ⟨hP1, hK1, hD1⟩ := hB
          rw [ht] at hP1
          have w_8 := hw
          try rw [← w_8] at hM
          obtain ⟨hP, hD⟩ := va_join (wr := cw_Main cI cZ cO amn apl abd alk atr mn lt ++ cw_Board cI cZ cO abd apl bd ++ cw_Locks cI cZ cO alk lk ++ cw_Trial cI cZ cO atr apl atb tr ++ cw_Board cI cZ cO atb apl tb) (w1 := cw_Plan cI cZ cO apl pl) hP hD [2, 3, 4, 5, 6, 7, 8, 9, 10, 11, 12, 13, 14, 15, 16, 17, 18] [0, 1, 19, 20, 21, 22, 23, 24, 25, 26, 27, 28, 29, 30, 31, 32, 33, 34, 35, 36, 37, 38, 39, 40, 41, 42, 43, 44, 45, 46, 47, 48] rfl rfl (by decide) (by decide) hk1 hFc hP1 hD1
          have hP := hP.sub (ws' := cw_Main cI cZ cO amn apl abd alk atr mn lt ++ cw_Plan cI cZ cO apl pl ++ cw_Board cI cZ cO abd apl bd ++ cw_Locks cI cZ cO alk lk ++ cw_Trial cI cZ cO atr apl atb tr ++ cw_Board cI cZ cO atb apl tb) [0, 1, 32, 33, 34, 35, 36, 37, 38, 39, 40, 41, 42, 43, 44, 45, 46, 47, 48, 2, 3, 4, 5, 6, 7, 8, 9, 10, 11, 12, 13, 14, 15, 16, 17, 18, 19, 20, 21, 22, 23, 24, 25, 26, 27, 28, 29, 30, 31] rfl
          have hD := hD.sub (ws' := cw_Main cI cZ cO amn apl abd alk atr mn lt ++ cw_Plan cI cZ cO apl pl ++ cw_Board cI cZ cO abd apl bd ++ cw_Locks cI cZ cO alk lk ++ cw_Trial cI cZ cO atr apl atb tr ++ cw_Board cI cZ cO atb apl tb) [0, 1, 32, 33, 34, 35, 36, 37, 38, 39, 40, 41, 42, 43, 44, 45, 46, 47, 48, 2, 3, 4, 5, 6, 7, 8, 9, 10, 11, 12, 13, 14, 15, 16, 17, 18, 19, 20, 21, 22, 23, 24, 25, 26, 27, 28, 29, 30, 31] (by decide) rfl
          generalize H1 = H at hP hS ⊢
          refine lv_if_le (tgt := 54) hx hb nd_Main_lower_40 (by decide) (fun c_9 => ?_) (fun c_9 => ?_)
          · have c_9t := cr_le c_9
            rw [if_pos c_9] at hM
            have e_10 : (v4_18 + (1 : Int32)).toInt = v4_18.toInt + (1 : Int32).toInt := cr_add (by omega)
            refine lv_iinc (v := (v4_18 + (1 : Int32))) (lv' := [(4, .int (v4_18 + (1 : Int32))), (0, .ref (amn 0)), (1, .int x1), (2, .int x2), (3, .int v3_18)]) hx hb nd_Main_lower_54 hl (k := 4) rfl (by rfl) (by decide) rfl (fun ls hl => ?_)
            refine lv_goto (tgt := 18) hx hb nd_Main_lower_57 (by decide) ?_
            exact ih_18 v3_18 (v4_18 + (1 : Int32)) (by omega) (by omega) hM _ _ hP hD hS _ (lv_sub hl [1, 2, 3, 4, 0] rfl)
          · have c_9t := cr_nle c_9
            rw [if_neg c_9] at hM
            refine lv_iload_n hx hb nd_Main_lower_43 rfl (lv_at hl 3 rfl) ?_
            refine lv_iload_n hx hb nd_Main_lower_44 rfl (lv_at hl 2 rfl) ?_
            refine lv_icmp_ne (tgt := 51) hx hb nd_Main_lower_45 (by decide) (fun c_11 => ?_) (fun c_11 => ?_)
            · have c_11t := cr_ne c_11
              rw [if_neg c_11] at hM
              refine lv_iinc (v := (v3_18 + (1 : Int32))) (lv' := [(3, .int (v3_18 + (1 : Int32))), (0, .ref (amn 0)), (1, .int x1), (2, .int x2), (4, .int v4_18)]) hx hb nd_Main_lower_51 hl (k := 3) rfl (by rfl) (by decide) rfl (fun ls hl => ?_)
              have e_12 : (v4_18 + (1 : Int32)).toInt = v4_18.toInt + (1 : Int32).toInt := cr_add (by omega)
              refine lv_iinc (v := (v4_18 + (1 : Int32))) (lv' := [(4, .int (v4_18 + (1 : Int32))), (3, .int (v3_18 + (1 : Int32))), (0, .ref (amn 0)), (1, .int x1), (2, .int x2)]) hx hb nd_Main_lower_54 hl (k := 4) rfl (by rfl) (by decide) rfl (fun ls hl => ?_)
              refine lv_goto (tgt := 18) hx hb nd_Main_lower_57 (by decide) ?_
              exact ih_18 (v3_18 + (1 : Int32)) (v4_18 + (1 : Int32)) (by omega) (by omega) hM _ _ hP hD hS _ (lv_sub hl [2, 3, 4, 1, 0] rfl)
            · have c_11t := cr_eq c_11
              rw [if_pos c_11] at hM
              refine lv_iload hx hb nd_Main_lower_48 (lv_at hl 4 rfl) ?_
              exact W.iret (v := v4_18) hx hb hr (fun t ht hW => ⟨⟨v4_18, (), rfl, by rw [hT, ← hM], by rw [ht]; exact hP, va_K.moved hW.alike hK, hD⟩, hS.F ht⟩) hS.2.2 nd_Main_lower_50
    exact lp_18 11 (0 : Int32) (1 : Int32) (by omega) (by omega) hM _ _ hP hD hS _ hl
  · have c_4t := cr_eq c_4
    rw [if_pos c_4] at hM
    refine lv_iconst (v := -1) hx hb nd_Main_lower_11 (by decide) ?_
    exact W.iret (v := (-1 : Int32)) hx hb hr (fun t ht hW => ⟨⟨(-1 : Int32), (), rfl, by rw [hT, ← hM], by rw [ht]; exact hP, va_K.moved hW.alike hK, hD⟩, hS.F ht⟩) hS.2.2 nd_Main_lower_12

theorem nd_Main_plain_0 : decode prog_1_method_13_code 0 = .ok (.aload_n 0, 1) := by decide +kernel
theorem nd_Main_plain_1 : decode prog_1_method_13_code 1 = .ok (.getfield 35, 3) := by decide +kernel
theorem nd_Main_plain_4 : decode prog_1_method_13_code 4 = .ok (.lload_n 1, 1) := by decide +kernel
theorem nd_Main_plain_5 : decode prog_1_method_13_code 5 = .ok (.invokevirtual 130, 3) := by decide +kernel
theorem nd_Main_plain_8 : decode prog_1_method_13_code 8 = .ok (.ireturn, 1) := by decide +kernel
def md_Main_plain (mn : cr_S) (lt : Int64) (pl : cr_S) (bd : cr_S) (lk : cr_S) (tr : cr_S) (tb : cr_S) (x1 : Int64) : Int32 × cr_S × cr_S :=
  (((md_Trial_mostDelays pl tr tb x1).1), ((md_Trial_mostDelays pl tr tb x1).2.1), ((md_Trial_mostDelays pl tr tb x1).2.2))
abbrev pq_Main_plain (dC : Nat → ClassId) (dI : Nat → Nat → Nat) (cI cZ cO : ClassId) (amn apl abd alk atr atb : Nat → Nat) (mn : cr_S) (lt : Int64) (pl : cr_S) (bd : cr_S) (lk : cr_S) (tr : cr_S) (tb : cr_S) (x1 : Int64) (A : Nat → Prop) : Array Value → State → Outcome → State → Prop :=
  va_Qi (fun (r : Int32) (u : cr_S × cr_S) => r = (md_Main_plain mn lt pl bd lk tr tb x1).1 ∧ u.1 = (md_Main_plain mn lt pl bd lk tr tb x1).2.1 ∧ u.2 = (md_Main_plain mn lt pl bd lk tr tb x1).2.2 ∧ cr_RBoard u.2) (fun (u : cr_S × cr_S) t => va_P (dC, dI) vwCl (cw_Main cI cZ cO amn apl abd alk atr mn lt ++ cw_Plan cI cZ cO apl pl ++ cw_Board cI cZ cO abd apl bd ++ cw_Locks cI cZ cO alk lk ++ cw_Trial cI cZ cO atr apl atb u.1 ++ cw_Board cI cZ cO atb apl u.2) t.heap ∧ va_K (dC, dI) vwCl [(cI, .int), (cZ, .boolean), (cO, .array .int)] t ∧ va_D A (cw_Main cI cZ cO amn apl abd alk atr mn lt ++ cw_Plan cI cZ cO apl pl ++ cw_Board cI cZ cO abd apl bd ++ cw_Locks cI cZ cO alk lk ++ cw_Trial cI cZ cO atr apl atb u.1 ++ cw_Board cI cZ cO atb apl u.2)) A
set_option maxHeartbeats 4000000 in
set_option maxRecDepth 100000 in
theorem ct_Main_plain (l : Launch) (dC : Nat → ClassId) (dI : Nat → Nat → Nat) (cI cZ cO : ClassId) (amn apl abd alk atr atb : Nat → Nat) (sz : Nat) (mn : cr_S) (lt : Int64) (pl : cr_S) (bd : cr_S) (lk : cr_S) (tr : cr_S) (tb : cr_S) (x1 : Int64) (hR_tb : cr_RBoard tb) (hR_lk : cr_RLocks lk) (hR_bd : cr_RBoard bd) (hR_pl : cr_RPlan pl) : Met l ny_Main_plain nw_Main_plain ({ frames := 5, cells := 0, slots := 0, locals := 115 } : Room) (va_Pc [.ref (amn 0), .long x1] (fun U => U.heap.size = sz ∧ va_P (dC, dI) vwCl (cw_Main cI cZ cO amn apl abd alk atr mn lt ++ cw_Plan cI cZ cO apl pl ++ cw_Board cI cZ cO abd apl bd ++ cw_Locks cI cZ cO alk lk ++ cw_Trial cI cZ cO atr apl atb tr ++ cw_Board cI cZ cO atb apl tb) U.heap ∧ va_K (dC, dI) vwCl [(cI, .int), (cZ, .boolean), (cO, .array .int)] U ∧ va_D (fun _ => True) (cw_Main cI cZ cO amn apl abd alk atr mn lt ++ cw_Plan cI cZ cO apl pl ++ cw_Board cI cZ cO abd apl bd ++ cw_Locks cI cZ cO alk lk ++ cw_Trial cI cZ cO atr apl atb tr ++ cw_Board cI cZ cO atb apl tb))) (pq_Main_plain dC dI cI cZ cO amn apl abd alk atr atb mn lt pl bd lk tr tb x1 (va_A (cw_Main cI cZ cO amn apl abd alk atr mn lt ++ cw_Plan cI cZ cO apl pl ++ cw_Board cI cZ cO abd apl bd ++ cw_Locks cI cZ cO alk lk ++ cw_Trial cI cZ cO atr apl atb tr ++ cw_Board cI cZ cO atb apl tb) sz)) 0 0 (va_A (cw_Main cI cZ cO amn apl abd alk atr mn lt ++ cw_Plan cI cZ cO apl pl ++ cw_Board cI cZ cO abd apl bd ++ cw_Locks cI cZ cO alk lk ++ cw_Trial cI cZ cO atr apl atb tr ++ cw_Board cI cZ cO atb apl tb) sz) := by
  refine Met.ofW (cc := prog_1_method_13_code) (maxL := 3) (ret := (some .int)) (by decide) rfl ?_
  intro p e s m args below meth c s₁ B hml hv
  obtain ⟨rfl, hsz, hP, hK, hD0⟩ := hv
  have hx := B.exec
  have hb := B.bytes
  have hr := B.returns
  have hts0 := atoms_spec (ws := nw_Main_plain) B.pre
  have hts : ∀ w ∈ ng_tbl, w.before ([.ref (amn 0), .long x1] : List Value).toArray s = true := fun w h => hts0 w (List.mem_cons_of_mem _ h)
  have hown : s.vm.findClass "CeilingRows" = some m.cls := findClass_of_methodNamed B.named
  have hlocks := B.notSynchronized
  subst hsz
  have hD := hD0.self (sz := s.heap.size)
  generalize hAe : va_A (cw_Main cI cZ cO amn apl abd alk atr mn lt ++ cw_Plan cI cZ cO apl pl ++ cw_Board cI cZ cO abd apl bd ++ cw_Locks cI cZ cO alk lk ++ cw_Trial cI cZ cO atr apl atb tr ++ cw_Board cI cZ cO atb apl tb) s.heap.size = A at hD ⊢
  have hA : ∀ q : Nat, s.heap.size ≤ q → A q := fun q h => by rw [← hAe]; exact Or.inr h
  have hS : va_S A s.heap s.heap [] := va_S.rf
  have hP : va_P (dC, dI) vwCl (cw_Main cI cZ cO amn apl abd alk atr mn lt ++ cw_Plan cI cZ cO apl pl ++ cw_Board cI cZ cO abd apl bd ++ cw_Locks cI cZ cO alk lk ++ cw_Trial cI cZ cO atr apl atb tr ++ cw_Board cI cZ cO atb apl tb) s.heap := hP
  have hl := lv_entry ([.ref (amn 0), .long x1]) (n := 3) (Nat.le_of_ble_eq_true rfl)
  rw [lg_entry_eq]
  generalize (lg_sl ([.ref (amn 0), .long x1]) ++ List.replicate (3 - (lg_sl ([.ref (amn 0), .long x1])).length) Slot.unset).toArray = ls at hl ⊢
  have hl : lv_has ls 3 [(0, .ref (amn 0)), (1, .long x1)] := hl
  obtain ⟨tgt, hT⟩ : ∃ z, md_Main_plain mn lt pl bd lk tr tb x1 = z := ⟨_, rfl⟩
  have hM := hT
  unfold md_Main_plain at hM
  refine lv_aload_n hx hb nd_Main_plain_0 rfl (lv_at hl 0 rfl) ?_
  refine va_get (D := (dC, dI)) (ci := 4) (v := .ref (atr 0)) (C := "CeilingRows") (T := nf_Main) (N := 6) hx hb hts nin_Main hown hK hP 0 rfl rfl 3 (by decide) (hts _ tw_141) (fun _ h9 => h9) rfl nd_Main_plain_1 ?_
  refine lv_lload_n hx hb nd_Main_plain_4 rfl (lv_at hl 1 rfl) ?_
  have hPc := hP.sub (ws' := cw_Plan cI cZ cO apl pl ++ cw_Trial cI cZ cO atr apl atb tr ++ cw_Board cI cZ cO atb apl tb) [2, 3, 4, 5, 6, 7, 8, 9, 10, 11, 12, 13, 14, 15, 16, 17, 18, 29, 30, 31, 32, 33, 34, 35, 36, 37, 38, 39, 40, 41, 42, 43, 44, 45, 46, 47, 48] rfl
  have hDc := hD.sub (ws' := cw_Plan cI cZ cO apl pl ++ cw_Trial cI cZ cO atr apl atb tr ++ cw_Board cI cZ cO atb apl tb) [2, 3, 4, 5, 6, 7, 8, 9, 10, 11, 12, 13, 14, 15, 16, 17, 18, 29, 30, 31, 32, 33, 34, 35, 36, 37, 38, 39, 40, 41, 42, 43, 44, 45, 46, 47, 48] (by decide) rfl
  have hFc := va_free (wc := cw_Plan cI cZ cO apl pl ++ cw_Trial cI cZ cO atr apl atb tr ++ cw_Board cI cZ cO atb apl tb) hD hS hA [2, 3, 4, 5, 6, 7, 8, 9, 10, 11, 12, 13, 14, 15, 16, 17, 18, 29, 30, 31, 32, 33, 34, 35, 36, 37, 38, 39, 40, 41, 42, 43, 44, 45, 46, 47, 48] rfl
  refine va_calli (va_runV (As := [.long x1]) (rest := []) ⟨hx, hb, hml, hown, hts⟩ (ct_Trial_mostDelays l dC dI cI cZ cO apl atr atb s.heap.size pl tr tb x1 hR_tb hR_pl) (cwV 1 hts (ng_V tw_345 tw_346 tw_347 tw_5 tw_348) rfl rfl rfl (by decide +kernel) ⟨Nat.le_of_ble_eq_true rfl, Nat.le_of_ble_eq_true rfl⟩) ⟨fun a U g mk q => by obtain ⟨q0, q1, qP, qK, qD⟩ := q; exact ⟨q0, q1, qP, va_K.moved (u := U) (U := U.calling g mk a) (Vm.Alike.refl U.vm) qK, qD⟩, va_recv hK hPc (ci := 3) (q0 := 17) rfl rfl, fun U hU hW => ⟨rfl, by rw [hU], by rw [hU]; exact hPc, va_K.moved hW.alike hK, hDc.weaken (fun _ _ _ _ => trivial)⟩⟩ rfl rfl hl.1 rfl (lv_room (Nat.le_of_ble_eq_true rfl)) nd_Main_plain_5 ⟨Nat.zero_le _, Nat.zero_le _⟩) hS (fun q _ h => hFc q h) hFc (fun r_1 u t H1 locs ht hvm hw hB hz1 hk1 hS => ?_)
  obtain ⟨hP1, hK1, hD1⟩ := hB
  rw [ht] at hP1
  obtain ⟨trq_3, tbq_5⟩ := u
  dsimp only at hw hP1 hD1
  obtain ⟨w_2, w_4, w_6, hR_7⟩ := hw
  try rw [← w_2] at hM
  try rw [← w_4] at hM
  try rw [← w_6] at hM
  obtain ⟨hP, hD⟩ := va_join (wr := cw_Main cI cZ cO amn apl abd alk atr mn lt ++ cw_Board cI cZ cO abd apl bd ++ cw_Locks cI cZ cO alk lk) (w1 := cw_Plan cI cZ cO apl pl ++ cw_Trial cI cZ cO atr apl atb trq_3 ++ cw_Board cI cZ cO atb apl tbq_5) hP hD [2, 3, 4, 5, 6, 7, 8, 9, 10, 11, 12, 13, 14, 15, 16, 17, 18, 29, 30, 31, 32, 33, 34, 35, 36, 37, 38, 39, 40, 41, 42, 43, 44, 45, 46, 47, 48] [0, 1, 19, 20, 21, 22, 23, 24, 25, 26, 27, 28] rfl rfl (by decide) (by decide) hk1 hFc hP1 hD1
  have hP := hP.sub (ws' := cw_Main cI cZ cO amn apl abd alk atr mn lt ++ cw_Plan cI cZ cO apl pl ++ cw_Board cI cZ cO abd apl bd ++ cw_Locks cI cZ cO alk lk ++ cw_Trial cI cZ cO atr apl atb trq_3 ++ cw_Board cI cZ cO atb apl tbq_5) [0, 1, 12, 13, 14, 15, 16, 17, 18, 19, 20, 21, 22, 23, 24, 25, 26, 27, 28, 2, 3, 4, 5, 6, 7, 8, 9, 10, 11, 29, 30, 31, 32, 33, 34, 35, 36, 37, 38, 39, 40, 41, 42, 43, 44, 45, 46, 47, 48] rfl
  have hD := hD.sub (ws' := cw_Main cI cZ cO amn apl abd alk atr mn lt ++ cw_Plan cI cZ cO apl pl ++ cw_Board cI cZ cO abd apl bd ++ cw_Locks cI cZ cO alk lk ++ cw_Trial cI cZ cO atr apl atb trq_3 ++ cw_Board cI cZ cO atb apl tbq_5) [0, 1, 12, 13, 14, 15, 16, 17, 18, 19, 20, 21, 22, 23, 24, 25, 26, 27, 28, 2, 3, 4, 5, 6, 7, 8, 9, 10, 11, 29, 30, 31, 32, 33, 34, 35, 36, 37, 38, 39, 40, 41, 42, 43, 44, 45, 46, 47, 48] (by decide) rfl
  generalize H1 = H at hP hS ⊢
  exact W.iret (v := r_1) hx hb hr (fun t ht hW => ⟨⟨r_1, (trq_3, tbq_5), rfl, ⟨by rw [hT, ← hM], by rw [hT, ← hM], by rw [hT, ← hM], hR_7⟩, by rw [ht]; exact hP, va_K.moved hW.alike hK, hD⟩, hS.F ht⟩) hS.2.2 nd_Main_plain_8
