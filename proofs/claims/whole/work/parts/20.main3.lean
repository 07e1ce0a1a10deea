theorem nd_Main_perform_0 : decode prog_1_method_16_code 0 = .ok (.iload_n 2, 1) := by decide +kernel
theorem nd_Main_perform_1 : decode prog_1_method_16_code 1 = .ok (.ifCond .ne (9), 3) := by decide +kernel
theorem nd_Main_perform_4 : decode prog_1_method_16_code 4 = .ok (.aload_n 0, 1) := by decide +kernel
theorem nd_Main_perform_5 : decode prog_1_method_16_code 5 = .ok (.iload_n 1, 1) := by decide +kernel
theorem nd_Main_perform_6 : decode prog_1_method_16_code 6 = .ok (.invokevirtual 137, 3) := by decide +kernel
theorem nd_Main_perform_9 : decode prog_1_method_16_code 9 = .ok (.ireturn, 1) := by decide +kernel
theorem nd_Main_perform_10 : decode prog_1_method_16_code 10 = .ok (.iload_n 2, 1) := by decide +kernel
theorem nd_Main_perform_11 : decode prog_1_method_16_code 11 = .ok (.iconst 5, 1) := by decide +kernel
theorem nd_Main_perform_12 : decode prog_1_method_16_code 12 = .ok (.if_icmp .ne (9), 3) := by decide +kernel
theorem nd_Main_perform_15 : decode prog_1_method_16_code 15 = .ok (.aload_n 0, 1) := by decide +kernel
theorem nd_Main_perform_16 : decode prog_1_method_16_code 16 = .ok (.iload_n 1, 1) := by decide +kernel
theorem nd_Main_perform_17 : decode prog_1_method_16_code 17 = .ok (.invokevirtual 140, 3) := by decide +kernel
theorem nd_Main_perform_20 : decode prog_1_method_16_code 20 = .ok (.ireturn, 1) := by decide +kernel
theorem nd_Main_perform_21 : decode prog_1_method_16_code 21 = .ok (.aload_n 0, 1) := by decide +kernel
theorem nd_Main_perform_22 : decode prog_1_method_16_code 22 = .ok (.getfield 21, 3) := by decide +kernel
theorem nd_Main_perform_25 : decode prog_1_method_16_code 25 = .ok (.getfield 143, 3) := by decide +kernel
theorem nd_Main_perform_28 : decode prog_1_method_16_code 28 = .ok (.iload_n 1, 1) := by decide +kernel
theorem nd_Main_perform_29 : decode prog_1_method_16_code 29 = .ok (.iaload, 1) := by decide +kernel
theorem nd_Main_perform_30 : decode prog_1_method_16_code 30 = .ok (.iconst 1, 1) := by decide +kernel
theorem nd_Main_perform_31 : decode prog_1_method_16_code 31 = .ok (.if_icmp .eq (6), 3) := by decide +kernel
theorem nd_Main_perform_34 : decode prog_1_method_16_code 34 = .ok (.bipush (-3), 2) := by decide +kernel
theorem nd_Main_perform_36 : decode prog_1_method_16_code 36 = .ok (.ireturn, 1) := by decide +kernel
theorem nd_Main_perform_37 : decode prog_1_method_16_code 37 = .ok (.aload_n 0, 1) := by decide +kernel
theorem nd_Main_perform_38 : decode prog_1_method_16_code 38 = .ok (.iload_n 1, 1) := by decide +kernel
theorem nd_Main_perform_39 : decode prog_1_method_16_code 39 = .ok (.invokevirtual 146, 3) := by decide +kernel
theorem nd_Main_perform_42 : decode prog_1_method_16_code 42 = .ok (.ifCond .ne (5), 3) := by decide +kernel
theorem nd_Main_perform_45 : decode prog_1_method_16_code 45 = .ok (.iconst 0, 1) := by decide +kernel
theorem nd_Main_perform_46 : decode prog_1_method_16_code 46 = .ok (.ireturn, 1) := by decide +kernel
theorem nd_Main_perform_47 : decode prog_1_method_16_code 47 = .ok (.iload_n 2, 1) := by decide +kernel
theorem nd_Main_perform_48 : decode prog_1_method_16_code 48 = .ok (.tableswitch (48) 1 3 #[(28), (35), (42)], 28) := by decide +kernel
theorem nd_Main_perform_76 : decode prog_1_method_16_code 76 = .ok (.aload_n 0, 1) := by decide +kernel
theorem nd_Main_perform_77 : decode prog_1_method_16_code 77 = .ok (.iload_n 1, 1) := by decide +kernel
theorem nd_Main_perform_78 : decode prog_1_method_16_code 78 = .ok (.iload_n 3, 1) := by decide +kernel
theorem nd_Main_perform_79 : decode prog_1_method_16_code 79 = .ok (.invokevirtual 149, 3) := by decide +kernel
theorem nd_Main_perform_82 : decode prog_1_method_16_code 82 = .ok (.ireturn, 1) := by decide +kernel
theorem nd_Main_perform_83 : decode prog_1_method_16_code 83 = .ok (.aload_n 0, 1) := by decide +kernel
theorem nd_Main_perform_84 : decode prog_1_method_16_code 84 = .ok (.iload_n 1, 1) := by decide +kernel
theorem nd_Main_perform_85 : decode prog_1_method_16_code 85 = .ok (.iload_n 3, 1) := by decide +kernel
theorem nd_Main_perform_86 : decode prog_1_method_16_code 86 = .ok (.invokevirtual 152, 3) := by decide +kernel
theorem nd_Main_perform_89 : decode prog_1_method_16_code 89 = .ok (.ireturn, 1) := by decide +kernel
theorem nd_Main_perform_90 : decode prog_1_method_16_code 90 = .ok (.aload_n 0, 1) := by decide +kernel
theorem nd_Main_perform_91 : decode prog_1_method_16_code 91 = .ok (.iload_n 1, 1) := by decide +kernel
theorem nd_Main_perform_92 : decode prog_1_method_16_code 92 = .ok (.invokevirtual 155, 3) := by decide +kernel
theorem nd_Main_perform_95 : decode prog_1_method_16_code 95 = .ok (.ireturn, 1) := by decide +kernel
theorem nd_Main_perform_96 : decode prog_1_method_16_code 96 = .ok (.aload_n 0, 1) := by decide +kernel
theorem nd_Main_perform_97 : decode prog_1_method_16_code 97 = .ok (.iload_n 1, 1) := by decide +kernel
theorem nd_Main_perform_98 : decode prog_1_method_16_code 98 = .ok (.invokevirtual 158, 3) := by decide +kernel
theorem nd_Main_perform_101 : decode prog_1_method_16_code 101 = .ok (.ireturn, 1) := by decide +kernel
abbrev pq_Main_perform (dC : Nat → ClassId) (dI : Nat → Nat → Nat) (cI cZ cO : ClassId) (amn apl abd alk atr atb : Nat → Nat) (mn : cr_S) (lt : Int64) (pl : cr_S) (bd : cr_S) (lk : cr_S) (tr : cr_S) (tb : cr_S) (x1 : Int32) (x2 : Int32) (x3 : Int32) (A : Nat → Prop) : Array Value → State → Outcome → State → Prop :=
  va_Qi (fun (r : Int32) (u : cr_S × Int64 × cr_S) => r = (md_Main_perform mn lt pl bd lk tr tb x1 x2 x3).1 ∧ u.1 = (md_Main_perform mn lt pl bd lk tr tb x1 x2 x3).2.1 ∧ u.2.1 = (md_Main_perform mn lt pl bd lk tr tb x1 x2 x3).2.2.1 ∧ u.2.2 = (md_Main_perform mn lt pl bd lk tr tb x1 x2 x3).2.2.2 ∧ cr_RBoard u.2.2) (fun (u : cr_S × Int64 × cr_S) t => va_P (dC, dI) vwCl (cw_Main cI cZ cO amn apl abd alk atr u.1 u.2.1 ++ cw_Plan cI cZ cO apl pl ++ cw_Board cI cZ cO abd apl u.2.2 ++ cw_Locks cI cZ cO alk lk ++ cw_Trial cI cZ cO atr apl atb tr ++ cw_Board cI cZ cO atb apl tb) t.heap ∧ va_K (dC, dI) vwCl [(cI, .int), (cZ, .boolean), (cO, .array .int)] t ∧ va_D A (cw_Main cI cZ cO amn apl abd alk atr u.1 u.2.1 ++ cw_Plan cI cZ cO apl pl ++ cw_Board cI cZ cO abd apl u.2.2 ++ cw_Locks cI cZ cO alk lk ++ cw_Trial cI cZ cO atr apl atb tr ++ cw_Board cI cZ cO atb apl tb)) A
set_option maxHeartbeats 4000000 in
set_option maxRecDepth 100000 in
theorem ct_Main_perform (l : Launch) (dC : Nat → ClassId) (dI : Nat → Nat → Nat) (cI cZ cO : ClassId) (amn apl abd alk atr atb : Nat → Nat) (sz : Nat) (mn : cr_S) (lt : Int64) (pl : cr_S) (bd : cr_S) (lk : cr_S) (tr : cr_S) (tb : cr_S) (x1 : Int32) (x2 : Int32) (x3 : Int32) (hR_tb : cr_RBoard tb) (hR_lk : cr_RLocks lk) (hR_bd : cr_RBoard bd) (hR_pl : cr_RPlan pl) (hx1 : 0 ≤ x1.toInt ∧ x1.toInt ≤ 10) (hx2 : 0 ≤ x2.toInt ∧ x2.toInt ≤ 5) (hq : (x2.toInt ≠ 1 ∧ x2.toInt ≠ 2) ∨ (0 ≤ x3.toInt ∧ x3.toInt ≤ 8)) : Met l ny_Main_perform nw_Main_perform ({ frames := 5, cells := 0, slots := 0, locals := 113 } : Room) (va_Pc [.ref (amn 0), .int x1, .int x2, .int x3] (fun U => U.heap.size = sz ∧ va_P (dC, dI) vwCl (cw_Main cI cZ cO amn apl abd alk atr mn lt ++ cw_Plan cI cZ cO apl pl ++ cw_Board cI cZ cO abd apl bd ++ cw_Locks cI cZ cO alk lk ++ cw_Trial cI cZ cO atr apl atb tr ++ cw_Board cI cZ cO atb apl tb) U.heap ∧ va_K (dC, dI) vwCl [(cI, .int), (cZ, .boolean), (cO, .array .int)] U ∧ va_D (fun _ => True) (cw_Main cI cZ cO amn apl abd alk atr mn lt ++ cw_Plan cI cZ cO apl pl ++ cw_Board cI cZ cO abd apl bd ++ cw_Locks cI cZ cO alk lk ++ cw_Trial cI cZ cO atr apl atb tr ++ cw_Board cI cZ cO atb apl tb))) (pq_Main_perform dC dI cI cZ cO amn apl abd alk atr atb mn lt pl bd lk tr tb x1 x2 x3 (va_A (cw_Main cI cZ cO amn apl abd alk atr mn lt ++ cw_Plan cI cZ cO apl pl ++ cw_Board cI cZ cO abd apl bd ++ cw_Locks cI cZ cO alk lk ++ cw_Trial cI cZ cO atr apl atb tr ++ cw_Board cI cZ cO atb apl tb) sz)) 0 0 (va_A (cw_Main cI cZ cO amn apl abd alk atr mn lt ++ cw_Plan cI cZ cO apl pl ++ cw_Board cI cZ cO abd apl bd ++ cw_Locks cI cZ cO alk lk ++ cw_Trial cI cZ cO atr apl atb tr ++ cw_Board cI cZ cO atb apl tb) sz) := by
  refine Met.ofW (cc := prog_1_method_16_code) (maxL := 4) (ret := (some .int)) (by decide) rfl ?_
  intro p e s m args below meth c s₁ B hml hv
  obtain ⟨rfl, hsz, hP, hK, hD0⟩ := hv
  have hx := B.exec
  have hb := B.bytes
  have hr := B.returns
  have hts0 := atoms_spec (ws := nw_Main_perform) B.pre
  have hts : ∀ w ∈ ng_tbl, w.before ([.ref (amn 0), .int x1, .int x2, .int x3] : List Value).toArray s = true := fun w h => hts0 w (List.mem_cons_of_mem _ h)
  have hown : s.vm.findClass "CeilingRows" = some m.cls := findClass_of_methodNamed B.named
  have hlocks := B.notSynchronized
  subst hsz
  have hD := hD0.self (sz := s.heap.size)
  generalize hAe : va_A (cw_Main cI cZ cO amn apl abd alk atr mn lt ++ cw_Plan cI cZ cO apl pl ++ cw_Board cI cZ cO abd apl bd ++ cw_Locks cI cZ cO alk lk ++ cw_Trial cI cZ cO atr apl atb tr ++ cw_Board cI cZ cO atb apl tb) s.heap.size = A at hD ⊢
  have hA : ∀ q : Nat, s.heap.size ≤ q → A q := fun q h => by rw [← hAe]; exact Or.inr h
  have hS : va_S A s.heap s.heap [] := va_S.rf
  have hP : va_P (dC, dI) vwCl (cw_Main cI cZ cO amn apl abd alk atr mn lt ++ cw_Plan cI cZ cO apl pl ++ cw_Board cI cZ cO abd apl bd ++ cw_Locks cI cZ cO alk lk ++ cw_Trial cI cZ cO atr apl atb tr ++ cw_Board cI cZ cO atb apl tb) s.heap := hP
  have hl := lv_entry ([.ref (amn 0), .int x1, .int x2, .int x3]) (n := 4) (Nat.le_of_ble_eq_true rfl)
  rw [lg_entry_eq]
  generalize (lg_sl ([.ref (amn 0), .int x1, .int x2, .int x3]) ++ List.replicate (4 - (lg_sl ([.ref (amn 0), .int x1, .int x2, .int x3])).length) Slot.unset).toArray = ls at hl ⊢
  have hl : lv_has ls 4 [(0, .ref (amn 0)), (1, .int x1), (2, .int x2), (3, .int x3)] := hl
  have f0_pl_0 := cr_rfo hR_pl.1
  have f0_pl_1 := cr_rfo hR_pl.2.1
  have k_m3 : (-3 : Int32).toInt = -3 := by decide
  have k_0 : (0 : Int32).toInt = 0 := by decide
  have k_1 : (1 : Int32).toInt = 1 := by decide
  have k_2 : (2 : Int32).toInt = 2 := by decide
  have k_3 : (3 : Int32).toInt = 3 := by decide
  have k_5 : (5 : Int32).toInt = 5 := by decide
  obtain ⟨tgt, hT⟩ : ∃ z, md_Main_perform mn lt pl bd lk tr tb x1 x2 x3 = z := ⟨_, rfl⟩
  have hM := hT
  unfold md_Main_perform at hM
  refine lv_iload_n hx hb nd_Main_perform_0 rfl (lv_at hl 2 rfl) ?_
  refine lv_if_ne (tgt := 10) hx hb nd_Main_perform_1 (by decide) (fun c_1 => ?_) (fun c_1 => ?_)
  · have c_1t := cr_ne c_1
    rw [if_neg c_1] at hM
    refine lv_iload_n hx hb nd_Main_perform_10 rfl (lv_at hl 2 rfl) ?_
    refine lv_iconst (v := 5) hx hb nd_Main_perform_11 (by decide) ?_
    refine lv_icmp_ne (tgt := 21) hx hb nd_Main_perform_12 (by decide) (fun c_2 => ?_) (fun c_2 => ?_)
    · have c_2t := cr_ne c_2
      rw [if_neg c_2] at hM
      refine lv_aload_n hx hb nd_Main_perform_21 rfl (lv_at hl 0 rfl) ?_
      refine va_get (D := (dC, dI)) (ci := 4) (v := .ref (abd 0)) (C := "CeilingRows") (T := nf_Main) (N := 6) hx hb hts nin_Main hown hK hP 0 rfl rfl 1 (by decide) (hts _ tw_139) (fun _ h9 => h9) rfl nd_Main_perform_22 ?_
      refine va_get (D := (dC, dI)) (ci := 1) (v := .ref (abd 1)) (C := "CeilingRows$Board") (T := nf_Board) (N := 7) hx hb hts nin_Board hown hK hP 19 rfl rfl 1 (by decide) (hts _ tw_70) (fun _ h9 => h9) rfl nd_Main_perform_25 ?_
      refine lv_iload_n hx hb nd_Main_perform_28 rfl (lv_at hl 1 rfl) ?_
      have b_3 : vp_in x1 11 := vp_in_iff.mpr (by omega)
      refine va_iald hx hb hK hP 20 0 rfl rfl b_3 nd_Main_perform_29 ?_
      refine lv_iconst (v := 1) hx hb nd_Main_perform_30 (by decide) ?_
      refine lv_icmp_eq (tgt := 37) hx hb nd_Main_perform_31 (by decide) (fun c_4 => ?_) (fun c_4 => ?_)
      · have c_4t := cr_eq c_4
        rw [if_pos c_4] at hM
        refine lv_aload_n hx hb nd_Main_perform_37 rfl (lv_at hl 0 rfl) ?_
        refine lv_iload_n hx hb nd_Main_perform_38 rfl (lv_at hl 1 rfl) ?_
        have hPc := hP
        have hDc := hD
        have hFc := va_free (wc := cw_Main cI cZ cO amn apl abd alk atr mn lt ++ cw_Plan cI cZ cO apl pl ++ cw_Board cI cZ cO abd apl bd ++ cw_Locks cI cZ cO alk lk ++ cw_Trial cI cZ cO atr apl atb tr ++ cw_Board cI cZ cO atb apl tb) hD hS hA [0, 1, 2, 3, 4, 5, 6, 7, 8, 9, 10, 11, 12, 13, 14, 15, 16, 17, 18, 19, 20, 21, 22, 23, 24, 25, 26, 27, 28, 29, 30, 31, 32, 33, 34, 35, 36, 37, 38, 39, 40, 41, 42, 43, 44, 45, 46, 47, 48] rfl
        refine va_calli (va_runV (As := [.int x1]) (rest := []) ⟨hx, hb, hml, hown, hts⟩ (ct_Main_runs l dC dI cI cZ cO amn apl abd alk atr atb s.heap.size mn lt pl bd lk tr tb x1 hR_tb hR_lk hR_bd hR_pl (by omega)) (cwV 1 hts (ng_V tw_230 tw_232 tp_2 tw_1 tw_233) rfl rfl rfl (by decide +kernel) ⟨Nat.le_of_ble_eq_true rfl, Nat.le_of_ble_eq_true rfl⟩) ⟨fun a U g mk q => by obtain ⟨q0, q1, qP, qK, qD⟩ := q; exact ⟨q0, q1, qP, va_K.moved (u := U) (U := U.calling g mk a) (Vm.Alike.refl U.vm) qK, qD⟩, va_recv hK hPc (ci := 4) (q0 := 0) rfl rfl, fun U hU hW => ⟨rfl, by rw [hU], by rw [hU]; exact hPc, va_K.moved hW.alike hK, hDc.weaken (fun _ _ _ _ => trivial)⟩⟩ rfl rfl hl.1 rfl (lv_room (Nat.le_of_ble_eq_true rfl)) nd_Main_perform_39 ⟨Nat.zero_le _, Nat.zero_le _⟩) hS (fun q _ h => hFc q h) hFc (fun r_5 u t H1 locs ht hvm hw hB hz1 hk1 hS => ?_)
        obtain ⟨hP1, hK1, hD1⟩ := hB
        rw [ht] at hP1
        have w_6 := hw
        try rw [← w_6] at hM
        have hP := hP1
        have hD := cr_Dw hD1 hFc
        generalize H1 = H at hP hS ⊢
        refine lv_if_ne (tgt := 47) hx hb nd_Main_perform_42 (by decide) (fun c_7 => ?_) (fun c_7 => ?_)
        · have c_7t := cr_ne c_7
          rw [if_neg c_7] at hM
          refine lv_iload_n hx hb nd_Main_perform_47 rfl (lv_at hl 2 rfl) ?_
          by_cases c_8 : x2 = 1
          · rw [if_pos c_8] at hM
            have c_8t := cr_eq c_8
            refine lv_tableIn (tgt := 76) hx hb nd_Main_perform_48 (by omega) (by omega) (by rw [show (x2.toInt - 1).toNat = 0 by omega]; rfl) (by decide) ?_
            refine lv_aload_n hx hb nd_Main_perform_76 rfl (lv_at hl 0 rfl) ?_
            refine lv_iload_n hx hb nd_Main_perform_77 rfl (lv_at hl 1 rfl) ?_
            refine lv_iload_n hx hb nd_Main_perform_78 rfl (lv_at hl 3 rfl) ?_
            have hPc := hP
            have hDc := hD
            have hFc := va_free (wc := cw_Main cI cZ cO amn apl abd alk atr mn lt ++ cw_Plan cI cZ cO apl pl ++ cw_Board cI cZ cO abd apl bd ++ cw_Locks cI cZ cO alk lk ++ cw_Trial cI cZ cO atr apl atb tr ++ cw_Board cI cZ cO atb apl tb) hD hS hA [0, 1, 2, 3, 4, 5, 6, 7, 8, 9, 10, 11, 12, 13, 14, 15, 16, 17, 18, 19, 20, 21, 22, 23, 24, 25, 26, 27, 28, 29, 30, 31, 32, 33, 34, 35, 36, 37, 38, 39, 40, 41, 42, 43, 44, 45, 46, 47, 48] rfl
            refine va_calli (va_runV (As := [.int x1, .int x3]) (rest := []) ⟨hx, hb, hml, hown, hts⟩ (ct_Main_takeResource l dC dI cI cZ cO amn apl abd alk atr atb H.size mn lt pl bd lk tr tb x1 x3 hR_tb hR_lk hR_bd hR_pl (by omega) (by omega)) (cwV 2 hts (ng_V tw_251 tw_253 tp_4 tw_1 tw_254) rfl rfl rfl (by decide +kernel) ⟨Nat.le_of_ble_eq_true rfl, Nat.le_of_ble_eq_true rfl⟩) ⟨fun a U g mk q => by obtain ⟨q0, q1, qP, qK, qD⟩ := q; exact ⟨q0, q1, qP, va_K.moved (u := U) (U := U.calling g mk a) (Vm.Alike.refl U.vm) qK, qD⟩, va_recv hK hPc (ci := 4) (q0 := 0) rfl rfl, fun U hU hW => ⟨rfl, by rw [hU], by rw [hU]; exact hPc, va_K.moved hW.alike hK, hDc.weaken (fun _ _ _ _ => trivial)⟩⟩ rfl rfl hl.1 rfl (lv_room (Nat.le_of_ble_eq_true rfl)) nd_Main_perform_79 ⟨Nat.zero_le _, Nat.zero_le _⟩) hS (fun q _ h => hFc q h) hFc (fun r_9 u t H1 locs ht hvm hw hB hz1 hk1 hS => ?_)
            obtain ⟨hP1, hK1, hD1⟩ := hB
            rw [ht] at hP1
            obtain ⟨bdq_11, rfl⟩ : ∃ z, z = u := ⟨_, rfl⟩
            obtain ⟨w_10, w_12, hR_13⟩ := hw
            try rw [← w_10] at hM
            try rw [← w_12] at hM
            have hP := hP1
            have hD := cr_Dw hD1 hFc
            generalize H1 = H at hP hS ⊢
            exact W.iret (v := r_9) hx hb hr (fun t ht hW => ⟨⟨r_9, (mn, lt, bdq_11), rfl, ⟨by rw [hT, ← hM], by rw [hT, ← hM], by rw [hT, ← hM], by rw [hT, ← hM], hR_13⟩, by rw [ht]; exact hP, va_K.moved hW.alike hK, hD⟩, hS.F ht⟩) hS.2.2 nd_Main_perform_82
          rw [if_neg c_8] at hM
          have c_8t := cr_ne c_8
          by_cases c_14 : x2 = 2
          · rw [if_pos c_14] at hM
            have c_14t := cr_eq c_14
            refine lv_tableIn (tgt := 83) hx hb nd_Main_perform_48 (by omega) (by omega) (by rw [show (x2.toInt - 1).toNat = 1 by omega]; rfl) (by decide) ?_
            refine lv_aload_n hx hb nd_Main_perform_83 rfl (lv_at hl 0 rfl) ?_
            refine lv_iload_n hx hb nd_Main_perform_84 rfl (lv_at hl 1 rfl) ?_
            refine lv_iload_n hx hb nd_Main_perform_85 rfl (lv_at hl 3 rfl) ?_
            have hPc := hP
            have hDc := hD
            have hFc := va_free (wc := cw_Main cI cZ cO amn apl abd alk atr mn lt ++ cw_Plan cI cZ cO apl pl ++ cw_Board cI cZ cO abd apl bd ++ cw_Locks cI cZ cO alk lk ++ cw_Trial cI cZ cO atr apl atb tr ++ cw_Board cI cZ cO atb apl tb) hD hS hA [0, 1, 2, 3, 4, 5, 6, 7, 8, 9, 10, 11, 12, 13, 14, 15, 16, 17, 18, 19, 20, 21, 22, 23, 24, 25, 26, 27, 28, 29, 30, 31, 32, 33, 34, 35, 36, 37, 38, 39, 40, 41, 42, 43, 44, 45, 46, 47, 48] rfl
            refine va_calli (va_runV (As := [.int x1, .int x3]) (rest := []) ⟨hx, hb, hml, hown, hts⟩ (ct_Main_giveBackResource l dC dI cI cZ cO amn apl abd alk atr atb H.size mn lt pl bd lk tr tb x1 x3 hR_tb hR_lk hR_bd hR_pl (by omega)) (cwV 2 hts (ng_V tw_259 tw_261 tp_5 tw_1 tw_262) rfl rfl rfl (by decide +kernel) ⟨Nat.le_of_ble_eq_true rfl, Nat.le_of_ble_eq_true rfl⟩) ⟨fun a U g mk q => by obtain ⟨q0, q1, qP, qK, qD⟩ := q; exact ⟨q0, q1, qP, va_K.moved (u := U) (U := U.calling g mk a) (Vm.Alike.refl U.vm) qK, qD⟩, va_recv hK hPc (ci := 4) (q0 := 0) rfl rfl, fun U hU hW => ⟨rfl, by rw [hU], by rw [hU]; exact hPc, va_K.moved hW.alike hK, hDc.weaken (fun _ _ _ _ => trivial)⟩⟩ rfl rfl hl.1 rfl (lv_room (Nat.le_of_ble_eq_true rfl)) nd_Main_perform_86 ⟨Nat.zero_le _, Nat.zero_le _⟩) hS (fun q _ h => hFc q h) hFc (fun r_15 u t H1 locs ht hvm hw hB hz1 hk1 hS => ?_)
            obtain ⟨hP1, hK1, hD1⟩ := hB
            rw [ht] at hP1
            obtain ⟨bdq_17, rfl⟩ : ∃ z, z = u := ⟨_, rfl⟩
            obtain ⟨w_16, w_18, hR_19⟩ := hw
            try rw [← w_16] at hM
            try rw [← w_18] at hM
            have hP := hP1
            have hD := cr_Dw hD1 hFc
            generalize H1 = H at hP hS ⊢
            exact W.iret (v := r_15) hx hb hr (fun t ht hW => ⟨⟨r_15, (mn, lt, bdq_17), rfl, ⟨by rw [hT, ← hM], by rw [hT, ← hM], by rw [hT, ← hM], by rw [hT, ← hM], hR_19⟩, by rw [ht]; exact hP, va_K.moved hW.alike hK, hD⟩, hS.F ht⟩) hS.2.2 nd_Main_perform_89
          rw [if_neg c_14] at hM
          have c_14t := cr_ne c_14
          by_cases c_20 : x2 = 3
          · rw [if_pos c_20] at hM
            have c_20t := cr_eq c_20
            refine lv_tableIn (tgt := 90) hx hb nd_Main_perform_48 (by omega) (by omega) (by rw [show (x2.toInt - 1).toNat = 2 by omega]; rfl) (by decide) ?_
            refine lv_aload_n hx hb nd_Main_perform_90 rfl (lv_at hl 0 rfl) ?_
            refine lv_iload_n hx hb nd_Main_perform_91 rfl (lv_at hl 1 rfl) ?_
            have hPc := hP
            have hDc := hD
            have hFc := va_free (wc := cw_Main cI cZ cO amn apl abd alk atr mn lt ++ cw_Plan cI cZ cO apl pl ++ cw_Board cI cZ cO abd apl bd ++ cw_Locks cI cZ cO alk lk ++ cw_Trial cI cZ cO atr apl atb tr ++ cw_Board cI cZ cO atb apl tb) hD hS hA [0, 1, 2, 3, 4, 5, 6, 7, 8, 9, 10, 11, 12, 13, 14, 15, 16, 17, 18, 19, 20, 21, 22, 23, 24, 25, 26, 27, 28, 29, 30, 31, 32, 33, 34, 35, 36, 37, 38, 39, 40, 41, 42, 43, 44, 45, 46, 47, 48] rfl
            refine va_calli (va_runV (As := [.int x1]) (rest := []) ⟨hx, hb, hml, hown, hts⟩ (ct_Main_endTask l dC dI cI cZ cO amn apl abd alk atr atb H.size mn lt pl bd lk tr tb x1 hR_tb hR_lk hR_bd hR_pl (by omega)) (cwV 1 hts (ng_V tw_267 tw_269 tp_6 tw_1 tw_270) rfl rfl rfl (by decide +kernel) ⟨Nat.le_of_ble_eq_true rfl, Nat.le_of_ble_eq_true rfl⟩) ⟨fun a U g mk q => by obtain ⟨q0, q1, qP, qK, qD⟩ := q; exact ⟨q0, q1, qP, va_K.moved (u := U) (U := U.calling g mk a) (Vm.Alike.refl U.vm) qK, qD⟩, va_recv hK hPc (ci := 4) (q0 := 0) rfl rfl, fun U hU hW => ⟨rfl, by rw [hU], by rw [hU]; exact hPc, va_K.moved hW.alike hK, hDc.weaken (fun _ _ _ _ => trivial)⟩⟩ rfl rfl hl.1 rfl (lv_room (Nat.le_of_ble_eq_true rfl)) nd_Main_perform_92 ⟨Nat.zero_le _, Nat.zero_le _⟩) hS (fun q _ h => hFc q h) hFc (fun r_21 u t H1 locs ht hvm hw hB hz1 hk1 hS => ?_)
            obtain ⟨hP1, hK1, hD1⟩ := hB
            rw [ht] at hP1
            obtain ⟨mnq_23, ltq_25, bdq_27⟩ := u
            dsimp only at hw hP1 hD1
            obtain ⟨w_22, w_24, w_26, w_28, hR_29⟩ := hw
            try rw [← w_22] at hM
            try rw [← w_24] at hM
            try rw [← w_26] at hM
            try rw [← w_28] at hM
            have hP := hP1
            have hD := cr_Dw hD1 hFc
            generalize H1 = H at hP hS ⊢
            exact W.iret (v := r_21) hx hb hr (fun t ht hW => ⟨⟨r_21, (mnq_23, ltq_25, bdq_27), rfl, ⟨by rw [hT, ← hM], by rw [hT, ← hM], by rw [hT, ← hM], by rw [hT, ← hM], hR_29⟩, by rw [ht]; exact hP, va_K.moved hW.alike hK, hD⟩, hS.F ht⟩) hS.2.2 nd_Main_perform_95
          rw [if_neg c_20] at hM
          have c_20t := cr_ne c_20
          refine lv_tableOut (tgt := 96) hx hb nd_Main_perform_48 (by omega) (by decide) ?_
          refine lv_aload_n hx hb nd_Main_perform_96 rfl (lv_at hl 0 rfl) ?_
          refine lv_iload_n hx hb nd_Main_perform_97 rfl (lv_at hl 1 rfl) ?_
          have hPc := hP
          have hDc := hD
          have hFc := va_free (wc := cw_Main cI cZ cO amn apl abd alk atr mn lt ++ cw_Plan cI cZ cO apl pl ++ cw_Board cI cZ cO abd apl bd ++ cw_Locks cI cZ cO alk lk ++ cw_Trial cI cZ cO atr apl atb tr ++ cw_Board cI cZ cO atb apl tb) hD hS hA [0, 1, 2, 3, 4, 5, 6, 7, 8, 9, 10, 11, 12, 13, 14, 15, 16, 17, 18, 19, 20, 21, 22, 23, 24, 25, 26, 27, 28, 29, 30, 31, 32, 33, 34, 35, 36, 37, 38, 39, 40, 41, 42, 43, 44, 45, 46, 47, 48] rfl
          refine va_calli (va_runV (As := [.int x1]) (rest := []) ⟨hx, hb, hml, hown, hts⟩ (ct_Main_waitForEvent l dC dI cI cZ cO amn apl abd alk atr atb H.size mn lt pl bd lk tr tb x1 hR_tb hR_lk hR_bd hR_pl (by omega)) (cwV 1 hts (ng_V tw_281 tw_283 tp_7 tw_1 tw_284) rfl rfl rfl (by decide +kernel) ⟨Nat.le_of_ble_eq_true rfl, Nat.le_of_ble_eq_true rfl⟩) ⟨fun a U g mk q => by obtain ⟨q0, q1, qP, qK, qD⟩ := q; exact ⟨q0, q1, qP, va_K.moved (u := U) (U := U.calling g mk a) (Vm.Alike.refl U.vm) qK, qD⟩, va_recv hK hPc (ci := 4) (q0 := 0) rfl rfl, fun U hU hW => ⟨rfl, by rw [hU], by rw [hU]; exact hPc, va_K.moved hW.alike hK, hDc.weaken (fun _ _ _ _ => trivial)⟩⟩ rfl rfl hl.1 rfl (lv_room (Nat.le_of_ble_eq_true rfl)) nd_Main_perform_98 ⟨Nat.zero_le _, Nat.zero_le _⟩) hS (fun q _ h => hFc q h) hFc (fun r_30 u t H1 locs ht hvm hw hB hz1 hk1 hS => ?_)
          obtain ⟨hP1, hK1, hD1⟩ := hB
          rw [ht] at hP1
          obtain ⟨mnq_32, ltq_34, bdq_36⟩ := u
          dsimp only at hw hP1 hD1
          obtain ⟨w_31, w_33, w_35, w_37, hR_38⟩ := hw
          try rw [← w_31] at hM
          try rw [← w_33] at hM
          try rw [← w_35] at hM
          try rw [← w_37] at hM
          have hP := hP1
          have hD := cr_Dw hD1 hFc
          generalize H1 = H at hP hS ⊢
          exact W.iret (v := r_30) hx hb hr (fun t ht hW => ⟨⟨r_30, (mnq_32, ltq_34, bdq_36), rfl, ⟨by rw [hT, ← hM], by rw [hT, ← hM], by rw [hT, ← hM], by rw [hT, ← hM], hR_38⟩, by rw [ht]; exact hP, va_K.moved hW.alike hK, hD⟩, hS.F ht⟩) hS.2.2 nd_Main_perform_101
        · have c_7t := cr_eq c_7
          rw [if_pos c_7] at hM
          refine lv_iconst (v := 0) hx hb nd_Main_perform_45 (by decide) ?_
          exact W.iret (v := (0 : Int32)) hx hb hr (fun t ht hW => ⟨⟨(0 : Int32), (mn, lt, bd), rfl, ⟨by rw [hT, ← hM], by rw [hT, ← hM], by rw [hT, ← hM], by rw [hT, ← hM], hR_bd⟩, by rw [ht]; exact hP, va_K.moved hW.alike hK, hD⟩, hS.F ht⟩) hS.2.2 nd_Main_perform_46
      · have c_4t := cr_ne c_4
        rw [if_neg c_4] at hM
        refine lv_bipush (v := -3) hx hb nd_Main_perform_34 (by decide) ?_
        exact W.iret (v := (-3 : Int32)) hx hb hr (fun t ht hW => ⟨⟨(-3 : Int32), (mn, lt, bd), rfl, ⟨by rw [hT, ← hM], by rw [hT, ← hM], by rw [hT, ← hM], by rw [hT, ← hM], hR_bd⟩, by rw [ht]; exact hP, va_K.moved hW.alike hK, hD⟩, hS.F ht⟩) hS.2.2 nd_Main_perform_36
    · have c_2t := cr_eq c_2
      rw [if_pos c_2] at hM
      refine lv_aload_n hx hb nd_Main_perform_15 rfl (lv_at hl 0 rfl) ?_
      refine lv_iload_n hx hb nd_Main_perform_16 rfl (lv_at hl 1 rfl) ?_
      have hPc := hP
      have hDc := hD
      have hFc := va_free (wc := cw_Main cI cZ cO amn apl abd alk atr mn lt ++ cw_Plan cI cZ cO apl pl ++ cw_Board cI cZ cO abd apl bd ++ cw_Locks cI cZ cO alk lk ++ cw_Trial cI cZ cO atr apl atb tr ++ cw_Board cI cZ cO atb apl tb) hD hS hA [0, 1, 2, 3, 4, 5, 6, 7, 8, 9, 10, 11, 12, 13, 14, 15, 16, 17, 18, 19, 20, 21, 22, 23, 24, 25, 26, 27, 28, 29, 30, 31, 32, 33, 34, 35, 36, 37, 38, 39, 40, 41, 42, 43, 44, 45, 46, 47, 48] rfl
      refine va_calli (va_runV (As := [.int x1]) (rest := []) ⟨hx, hb, hml, hown, hts⟩ (ct_Main_sendEvent l dC dI cI cZ cO amn apl abd alk atr atb s.heap.size mn lt pl bd lk tr tb x1 hR_tb hR_lk hR_bd hR_pl (by omega)) (cwV 1 hts (ng_V tw_247 tw_249 tp_3 tw_1 tw_250) rfl rfl rfl (by decide +kernel) ⟨Nat.le_of_ble_eq_true rfl, Nat.le_of_ble_eq_true rfl⟩) ⟨fun a U g mk q => by obtain ⟨q0, q1, qP, qK, qD⟩ := q; exact ⟨q0, q1, qP, va_K.moved (u := U) (U := U.calling g mk a) (Vm.Alike.refl U.vm) qK, qD⟩, va_recv hK hPc (ci := 4) (q0 := 0) rfl rfl, fun U hU hW => ⟨rfl, by rw [hU], by rw [hU]; exact hPc, va_K.moved hW.alike hK, hDc.weaken (fun _ _ _ _ => trivial)⟩⟩ rfl rfl hl.1 rfl (lv_room (Nat.le_of_ble_eq_true rfl)) nd_Main_perform_17 ⟨Nat.zero_le _, Nat.zero_le _⟩) hS (fun q _ h => hFc q h) hFc (fun r_39 u t H1 locs ht hvm hw hB hz1 hk1 hS => ?_)
      obtain ⟨hP1, hK1, hD1⟩ := hB
      rw [ht] at hP1
      obtain ⟨mnq_41, ltq_43, bdq_45⟩ := u
      dsimp only at hw hP1 hD1
      obtain ⟨w_40, w_42, w_44, w_46, hR_47⟩ := hw
      try rw [← w_40] at hM
      try rw [← w_42] at hM
      try rw [← w_44] at hM
      try rw [← w_46] at hM
      have hP := hP1
      have hD := cr_Dw hD1 hFc
      generalize H1 = H at hP hS ⊢
      exact W.iret (v := r_39) hx hb hr (fun t ht hW => ⟨⟨r_39, (mnq_41, ltq_43, bdq_45), rfl, ⟨by rw [hT, ← hM], by rw [hT, ← hM], by rw [hT, ← hM], by rw [hT, ← hM], hR_47⟩, by rw [ht]; exact hP, va_K.moved hW.alike hK, hD⟩, hS.F ht⟩) hS.2.2 nd_Main_perform_20
  · have c_1t := cr_eq c_1
    rw [if_pos c_1] at hM
    refine lv_aload_n hx hb nd_Main_perform_4 rfl (lv_at hl 0 rfl) ?_
    refine lv_iload_n hx hb nd_Main_perform_5 rfl (lv_at hl 1 rfl) ?_
    have hPc := hP
    have hDc := hD
    have hFc := va_free (wc := cw_Main cI cZ cO amn apl abd alk atr mn lt ++ cw_Plan cI cZ cO apl pl ++ cw_Board cI cZ cO abd apl bd ++ cw_Locks cI cZ cO alk lk ++ cw_Trial cI cZ cO atr apl atb tr ++ cw_Board cI cZ cO atb apl tb) hD hS hA [0, 1, 2, 3, 4, 5, 6, 7, 8, 9, 10, 11, 12, 13, 14, 15, 16, 17, 18, 19, 20, 21, 22, 23, 24, 25, 26, 27, 28, 29, 30, 31, 32, 33, 34, 35, 36, 37, 38, 39, 40, 41, 42, 43, 44, 45, 46, 47, 48] rfl
    refine va_calli (va_runV (As := [.int x1]) (rest := []) ⟨hx, hb, hml, hown, hts⟩ (ct_Main_startTask l dC dI cI cZ cO amn apl abd alk atr atb s.heap.size mn lt pl bd lk tr tb x1 hR_tb hR_lk hR_bd hR_pl (by omega)) (cwV 1 hts (ng_V tw_222 tw_224 tp_1 tw_1 tw_225) rfl rfl rfl (by decide +kernel) ⟨Nat.le_of_ble_eq_true rfl, Nat.le_of_ble_eq_true rfl⟩) ⟨fun a U g mk q => by obtain ⟨q0, q1, qP, qK, qD⟩ := q; exact ⟨q0, q1, qP, va_K.moved (u := U) (U := U.calling g mk a) (Vm.Alike.refl U.vm) qK, qD⟩, va_recv hK hPc (ci := 4) (q0 := 0) rfl rfl, fun U hU hW => ⟨rfl, by rw [hU], by rw [hU]; exact hPc, va_K.moved hW.alike hK, hDc.weaken (fun _ _ _ _ => trivial)⟩⟩ rfl rfl hl.1 rfl (lv_room (Nat.le_of_ble_eq_true rfl)) nd_Main_perform_6 ⟨Nat.zero_le _, Nat.zero_le _⟩) hS (fun q _ h => hFc q h) hFc (fun r_48 u t H1 locs ht hvm hw hB hz1 hk1 hS => ?_)
    obtain ⟨hP1, hK1, hD1⟩ := hB
    rw [ht] at hP1
    obtain ⟨bdq_50, rfl⟩ : ∃ z, z = u := ⟨_, rfl⟩
    obtain ⟨w_49, w_51, hR_52⟩ := hw
    try rw [← w_49] at hM
    try rw [← w_51] at hM
    have hP := hP1
    have hD := cr_Dw hD1 hFc
    generalize H1 = H at hP hS ⊢
    exact W.iret (v := r_48) hx hb hr (fun t ht hW => ⟨⟨r_48, (mn, lt, bdq_50), rfl, ⟨by rw [hT, ← hM], by rw [hT, ← hM], by rw [hT, ← hM], by rw [hT, ← hM], hR_52⟩, by rw [ht]; exact hP, va_K.moved hW.alike hK, hD⟩, hS.F ht⟩) hS.2.2 nd_Main_perform_9

theorem nd_Main_step_0 : decode prog_1_method_6_code 0 = .ok (.iload_n 2, 1) := by decide +kernel
theorem nd_Main_step_1 : decode prog_1_method_6_code 1 = .ok (.iconst 1, 1) := by decide +kernel
theorem nd_Main_step_2 : decode prog_1_method_6_code 2 = .ok (.if_icmp .eq (8), 3) := by decide +kernel
theorem nd_Main_step_5 : decode prog_1_method_6_code 5 = .ok (.iload_n 2, 1) := by decide +kernel
theorem nd_Main_step_6 : decode prog_1_method_6_code 6 = .ok (.iconst 2, 1) := by decide +kernel
theorem nd_Main_step_7 : decode prog_1_method_6_code 7 = .ok (.if_icmp .ne (7), 3) := by decide +kernel
theorem nd_Main_step_10 : decode prog_1_method_6_code 10 = .ok (.iconst 1, 1) := by decide +kernel
theorem nd_Main_step_11 : decode prog_1_method_6_code 11 = .ok (.goto (4), 3) := by decide +kernel
theorem nd_Main_step_14 : decode prog_1_method_6_code 14 = .ok (.iconst 0, 1) := by decide +kernel
theorem nd_Main_step_15 : decode prog_1_method_6_code 15 = .ok (.istore 6, 2) := by decide +kernel
theorem nd_Main_step_17 : decode prog_1_method_6_code 17 = .ok (.aload_n 0, 1) := by decide +kernel
theorem nd_Main_step_18 : decode prog_1_method_6_code 18 = .ok (.getfield 12, 3) := by decide +kernel
theorem nd_Main_step_21 : decode prog_1_method_6_code 21 = .ok (.iload_n 1, 1) := by decide +kernel
theorem nd_Main_step_22 : decode prog_1_method_6_code 22 = .ok (.invokevirtual 66, 3) := by decide +kernel
theorem nd_Main_step_25 : decode prog_1_method_6_code 25 = .ok (.ifCond .eq (19), 3) := by decide +kernel
theorem nd_Main_step_28 : decode prog_1_method_6_code 28 = .ok (.iload 6, 2) := by decide +kernel
theorem nd_Main_step_30 : decode prog_1_method_6_code 30 = .ok (.ifCond .eq (16), 3) := by decide +kernel
theorem nd_Main_step_33 : decode prog_1_method_6_code 33 = .ok (.aload_n 0, 1) := by decide +kernel
theorem nd_Main_step_34 : decode prog_1_method_6_code 34 = .ok (.getfield 12, 3) := by decide +kernel
theorem nd_Main_step_37 : decode prog_1_method_6_code 37 = .ok (.iload_n 3, 1) := by decide +kernel
theorem nd_Main_step_38 : decode prog_1_method_6_code 38 = .ok (.invokevirtual 69, 3) := by decide +kernel
theorem nd_Main_step_41 : decode prog_1_method_6_code 41 = .ok (.ifCond .ne (5), 3) := by decide +kernel
theorem nd_Main_step_44 : decode prog_1_method_6_code 44 = .ok (.iconst (-1), 1) := by decide +kernel
theorem nd_Main_step_45 : decode prog_1_method_6_code 45 = .ok (.ireturn, 1) := by decide +kernel
theorem nd_Main_step_46 : decode prog_1_method_6_code 46 = .ok (.iload_n 2, 1) := by decide +kernel
theorem nd_Main_step_47 : decode prog_1_method_6_code 47 = .ok (.ifCond .lt (27), 3) := by decide +kernel
theorem nd_Main_step_50 : decode prog_1_method_6_code 50 = .ok (.iload_n 2, 1) := by decide +kernel
theorem nd_Main_step_51 : decode prog_1_method_6_code 51 = .ok (.iconst 5, 1) := by decide +kernel
theorem nd_Main_step_52 : decode prog_1_method_6_code 52 = .ok (.if_icmp .gt (22), 3) := by decide +kernel
theorem nd_Main_step_55 : decode prog_1_method_6_code 55 = .ok (.lload 4, 2) := by decide +kernel
theorem nd_Main_step_57 : decode prog_1_method_6_code 57 = .ok (.aload_n 0, 1) := by decide +kernel
theorem nd_Main_step_58 : decode prog_1_method_6_code 58 = .ok (.getfield 43, 3) := by decide +kernel
theorem nd_Main_step_61 : decode prog_1_method_6_code 61 = .ok (.lcmp, 1) := by decide +kernel
theorem nd_Main_step_62 : decode prog_1_method_6_code 62 = .ok (.ifCond .lt (12), 3) := by decide +kernel
theorem nd_Main_step_65 : decode prog_1_method_6_code 65 = .ok (.lload 4, 2) := by decide +kernel
theorem nd_Main_step_67 : decode prog_1_method_6_code 67 = .ok (.ldc2_w 95, 3) := by decide +kernel
theorem nd_Main_step_70 : decode prog_1_method_6_code 70 = .ok (.lcmp, 1) := by decide +kernel
theorem nd_Main_step_71 : decode prog_1_method_6_code 71 = .ok (.ifCond .le (6), 3) := by decide +kernel
theorem nd_Main_step_74 : decode prog_1_method_6_code 74 = .ok (.bipush (-2), 2) := by decide +kernel
theorem nd_Main_step_76 : decode prog_1_method_6_code 76 = .ok (.ireturn, 1) := by decide +kernel
theorem nd_Main_step_77 : decode prog_1_method_6_code 77 = .ok (.aload_n 0, 1) := by decide +kernel
theorem nd_Main_step_78 : decode prog_1_method_6_code 78 = .ok (.iload_n 1, 1) := by decide +kernel
theorem nd_Main_step_79 : decode prog_1_method_6_code 79 = .ok (.iload_n 2, 1) := by decide +kernel
theorem nd_Main_step_80 : decode prog_1_method_6_code 80 = .ok (.iload_n 3, 1) := by decide +kernel
theorem nd_Main_step_81 : decode prog_1_method_6_code 81 = .ok (.invokevirtual 97, 3) := by decide +kernel
theorem nd_Main_step_84 : decode prog_1_method_6_code 84 = .ok (.istore 7, 2) := by decide +kernel
theorem nd_Main_step_86 : decode prog_1_method_6_code 86 = .ok (.iload 7, 2) := by decide +kernel
theorem nd_Main_step_88 : decode prog_1_method_6_code 88 = .ok (.ifCond .ge (10), 3) := by decide +kernel
theorem nd_Main_step_91 : decode prog_1_method_6_code 91 = .ok (.iload 7, 2) := by decide +kernel
theorem nd_Main_step_93 : decode prog_1_method_6_code 93 = .ok (.bipush (-14), 2) := by decide +kernel
theorem nd_Main_step_95 : decode prog_1_method_6_code 95 = .ok (.if_icmp .ne (9), 3) := by decide +kernel
theorem nd_Main_step_98 : decode prog_1_method_6_code 98 = .ok (.aload_n 0, 1) := by decide +kernel
theorem nd_Main_step_99 : decode prog_1_method_6_code 99 = .ok (.lload 4, 2) := by decide +kernel
theorem nd_Main_step_101 : decode prog_1_method_6_code 101 = .ok (.putfield 43, 3) := by decide +kernel
theorem nd_Main_step_104 : decode prog_1_method_6_code 104 = .ok (.iload 7, 2) := by decide +kernel
theorem nd_Main_step_106 : decode prog_1_method_6_code 106 = .ok (.ireturn, 1) := by decide +kernel
abbrev pq_Main_step (dC : Nat → ClassId) (dI : Nat → Nat → Nat) (cI cZ cO : ClassId) (amn apl abd alk atr atb : Nat → Nat) (mn : cr_S) (lt : Int64) (pl : cr_S) (bd : cr_S) (lk : cr_S) (tr : cr_S) (tb : cr_S) (x1 : Int32) (x2 : Int32) (x3 : Int32) (x4 : Int64) (A : Nat → Prop) : Array Value → State → Outcome → State → Prop :=
  va_Qi (fun (r : Int32) (u : cr_S × Int64 × cr_S) => r = (md_Main_step mn lt pl bd lk tr tb x1 x2 x3 x4).1 ∧ u.1 = (md_Main_step mn lt pl bd lk tr tb x1 x2 x3 x4).2.1 ∧ u.2.1 = (md_Main_step mn lt pl bd lk tr tb x1 x2 x3 x4).2.2.1 ∧ u.2.2 = (md_Main_step mn lt pl bd lk tr tb x1 x2 x3 x4).2.2.2 ∧ cr_RBoard u.2.2) (fun (u : cr_S × Int64 × cr_S) t => va_P (dC, dI) vwCl (cw_Main cI cZ cO amn apl abd alk atr u.1 u.2.1 ++ cw_Plan cI cZ cO apl pl ++ cw_Board cI cZ cO abd apl u.2.2 ++ cw_Locks cI cZ cO alk lk ++ cw_Trial cI cZ cO atr apl atb tr ++ cw_Board cI cZ cO atb apl tb) t.heap ∧ va_K (dC, dI) vwCl [(cI, .int), (cZ, .boolean), (cO, .array .int)] t ∧ va_D A (cw_Main cI cZ cO amn apl abd alk atr u.1 u.2.1 ++ cw_Plan cI cZ cO apl pl ++ cw_Board cI cZ cO abd apl u.2.2 ++ cw_Locks cI cZ cO alk lk ++ cw_Trial cI cZ cO atr apl atb tr ++ cw_Board cI cZ cO atb apl tb)) A
set_option maxHeartbeats 4000000 in
set_option maxRecDepth 100000 in
theorem ct_Main_step (l : Launch) (dC : Nat → ClassId) (dI : Nat → Nat → Nat) (cI cZ cO : ClassId) (amn apl abd alk atr atb : Nat → Nat) (sz : Nat) (mn : cr_S) (lt : Int64) (pl : cr_S) (bd : cr_S) (lk : cr_S) (tr : cr_S) (tb : cr_S) (x1 : Int32) (x2 : Int32) (x3 : Int32) (x4 : Int64) (hR_tb : cr_RBoard tb) (hR_lk : cr_RLocks lk) (hR_bd : cr_RBoard bd) (hR_pl : cr_RPlan pl) : Met l ny_Main_step nw_Main_step ({ frames := 6, cells := 0, slots := 0, locals := 136 } : Room) (va_Pc [.ref (amn 0), .int x1, .int x2, .int x3, .long x4] (fun U => U.heap.size = sz ∧ va_P (dC, dI) vwCl (cw_Main cI cZ cO amn apl abd alk atr mn lt ++ cw_Plan cI cZ cO apl pl ++ cw_Board cI cZ cO abd apl bd ++ cw_Locks cI cZ cO alk lk ++ cw_Trial cI cZ cO atr apl atb tr ++ cw_Board cI cZ cO atb apl tb) U.heap ∧ va_K (dC, dI) vwCl [(cI, .int), (cZ, .boolean), (cO, .array .int)] U ∧ va_D (fun _ => True) (cw_Main cI cZ cO amn apl abd alk atr mn lt ++ cw_Plan cI cZ cO apl pl ++ cw_Board cI cZ cO abd apl bd ++ cw_Locks cI cZ cO alk lk ++ cw_Trial cI cZ cO atr apl atb tr ++ cw_Board cI cZ cO atb apl tb))) (pq_Main_step dC dI cI cZ cO amn apl abd alk atr atb mn lt pl bd lk tr tb x1 x2 x3 x4 (va_A (cw_Main cI cZ cO amn apl abd alk atr mn lt ++ cw_Plan cI cZ cO apl pl ++ cw_Board cI cZ cO abd apl bd ++ cw_Locks cI cZ cO alk lk ++ cw_Trial cI cZ cO atr apl atb tr ++ cw_Board cI cZ cO atb apl tb) sz)) 0 0 (va_A (cw_Main cI cZ cO amn apl abd alk atr mn lt ++ cw_Plan cI cZ cO apl pl ++ cw_Board cI cZ cO abd apl bd ++ cw_Locks cI cZ cO alk lk ++ cw_Trial cI cZ cO atr apl atb tr ++ cw_Board cI cZ cO atb apl tb) sz) := by
  refine Met.ofW (cc := prog_1_method_6_code) (maxL := 8) (ret := (some .int)) (by decide) rfl ?_
  intro p e s m args below meth c s₁ B hml hv
  obtain ⟨rfl, hsz, hP, hK, hD0⟩ := hv
  have hx := B.exec
  have hb := B.bytes
  have hr := B.returns
  have hts0 := atoms_spec (ws := nw_Main_step) B.pre
  have hts : ∀ w ∈ ng_tbl, w.before ([.ref (amn 0), .int x1, .int x2, .int x3, .long x4] : List Value).toArray s = true := fun w h => hts0 w (List.mem_cons_of_mem _ h)
  have hown : s.vm.findClass "CeilingRows" = some m.cls := findClass_of_methodNamed B.named
  have hlocks := B.notSynchronized
  subst hsz
  have hD := hD0.self (sz := s.heap.size)
  generalize hAe : va_A (cw_Main cI cZ cO amn apl abd alk atr mn lt ++ cw_Plan cI cZ cO apl pl ++ cw_Board cI cZ cO abd apl bd ++ cw_Locks cI cZ cO alk lk ++ cw_Trial cI cZ cO atr apl atb tr ++ cw_Board cI cZ cO atb apl tb) s.heap.size = A at hD ⊢
  have hA : ∀ q : Nat, s.heap.size ≤ q → A q := fun q h => by rw [← hAe]; exact Or.inr h
  have hS : va_S A s.heap s.heap [] := va_S.rf
  have hP : va_P (dC, dI) vwCl (cw_Main cI cZ cO amn apl abd alk atr mn lt ++ cw_Plan cI cZ cO apl pl ++ cw_Board cI cZ cO abd apl bd ++ cw_Locks cI cZ cO alk lk ++ cw_Trial cI cZ cO atr apl atb tr ++ cw_Board cI cZ cO atb apl tb) s.heap := hP
  have hl := lv_entry ([.ref (amn 0), .int x1, .int x2, .int x3, .long x4]) (n := 8) (Nat.le_of_ble_eq_true rfl)
  rw [lg_entry_eq]
  generalize (lg_sl ([.ref (amn 0), .int x1, .int x2, .int x3, .long x4]) ++ List.replicate (8 - (lg_sl ([.ref (amn 0), .int x1, .int x2, .int x3, .long x4])).length) Slot.unset).toArray = ls at hl ⊢
  have hl : lv_has ls 8 [(0, .ref (amn 0)), (1, .int x1), (2, .int x2), (3, .int x3), (4, .long x4)] := hl
  have f0_pl_0 := cr_rfo hR_pl.1
  have f0_pl_1 := cr_rfo hR_pl.2.1
  have k_m14 : (-14 : Int32).toInt = -14 := by decide
  have k_m2 : (-2 : Int32).toInt = -2 := by decide
  have k_m1 : (-1 : Int32).toInt = -1 := by decide
  have k_0 : (0 : Int32).toInt = 0 := by decide
  have k_1 : (1 : Int32).toInt = 1 := by decide
  have k_2 : (2 : Int32).toInt = 2 := by decide
  have k_5 : (5 : Int32).toInt = 5 := by decide
  obtain ⟨tgt, hT⟩ : ∃ z, md_Main_step mn lt pl bd lk tr tb x1 x2 x3 x4 = z := ⟨_, rfl⟩
  have hM := hT
  unfold md_Main_step at hM
  refine lv_iload_n hx hb nd_Main_step_0 rfl (lv_at hl 2 rfl) ?_
  refine lv_iconst (v := 1) hx hb nd_Main_step_1 (by decide) ?_
  refine lv_icmp_eq (tgt := 10) hx hb nd_Main_step_2 (by decide) (fun c_1 => ?_) (fun c_1 => ?_)
  · have c_1t := cr_eq c_1
    rw [if_pos c_1] at hM
    refine lv_iconst (v := 1) hx hb nd_Main_step_10 (by decide) ?_
    refine lv_goto (tgt := 15) hx hb nd_Main_step_11 (by decide) ?_
    refine lv_istore (lv' := [(6, .int (1 : Int32)), (0, .ref (amn 0)), (1, .int x1), (2, .int x2), (3, .int x3), (4, .long x4)]) hx hb nd_Main_step_15 hl (by decide) rfl (fun ls hl => ?_)
    refine lv_aload_n hx hb nd_Main_step_17 rfl (lv_at hl 1 rfl) ?_
    refine va_get (D := (dC, dI)) (ci := 4) (v := .ref (apl 0)) (C := "CeilingRows") (T := nf_Main) (N := 6) hx hb hts nin_Main hown hK hP 0 rfl rfl 0 (by decide) (hts _ tw_138) (fun _ h9 => h9) rfl nd_Main_step_18 ?_
    refine lv_iload_n hx hb nd_Main_step_21 rfl (lv_at hl 2 rfl) ?_
    have hPc := hP.sub (ws' := cw_Plan cI cZ cO apl pl) [2, 3, 4, 5, 6, 7, 8, 9, 10, 11, 12, 13, 14, 15, 16, 17, 18] rfl
    have hDc := hD.sub (ws' := cw_Plan cI cZ cO apl pl) [2, 3, 4, 5, 6, 7, 8, 9, 10, 11, 12, 13, 14, 15, 16, 17, 18] (by decide) rfl
    have hFc := va_free (wc := cw_Plan cI cZ cO apl pl) hD hS hA [2, 3, 4, 5, 6, 7, 8, 9, 10, 11, 12, 13, 14, 15, 16, 17, 18] rfl
    refine va_calli (va_runV (As := [.int x1]) (rest := []) ⟨hx, hb, hml, hown, hts⟩ (ct_Plan_hasTask l dC dI cI cZ cO apl s.heap.size pl x1 hR_pl) (cwV 1 hts (ng_V tw_181 tw_182 tw_183 tw_2 tw_184) rfl rfl rfl (by decide +kernel) ⟨Nat.le_of_ble_eq_true rfl, Nat.le_of_ble_eq_true rfl⟩) ⟨fun a U g mk q => by obtain ⟨q0, q1, qP, qK, qD⟩ := q; exact ⟨q0, q1, qP, va_K.moved (u := U) (U := U.calling g mk a) (Vm.Alike.refl U.vm) qK, qD⟩, va_recv hK hPc (ci := 0) (q0 := 0) rfl rfl, fun U hU hW => ⟨rfl, by rw [hU], by rw [hU]; exact hPc, va_K.moved hW.alike hK, hDc.weaken (fun _ _ _ _ => trivial)⟩⟩ rfl rfl hl.1 rfl (lv_room (Nat.le_of_ble_eq_true rfl)) nd_Main_step_22 ⟨Nat.zero_le _, Nat.zero_le _⟩) hS (fun q _ h => hFc q h) hFc (fun r_2 u t H1 locs ht hvm hw hB hz1 hk1 hS => ?_)
    obtain ⟨hP1, hK1, hD1⟩ := hB
    rw [ht] at hP1
    obtain ⟨w_3, f_4⟩ := hw
    try rw [← w_3] at hM
    obtain ⟨hP, hD⟩ := va_join (wr := cw_Main cI cZ cO amn apl abd alk atr mn lt ++ cw_Board cI cZ cO abd apl bd ++ cw_Locks cI cZ cO alk lk ++ cw_Trial cI cZ cO atr apl atb tr ++ cw_Board cI cZ cO atb apl tb) (w1 := cw_Plan cI cZ cO apl pl) hP hD [2, 3, 4, 5, 6, 7, 8, 9, 10, 11, 12, 13, 14, 15, 16, 17, 18] [0, 1, 19, 20, 21, 22, 23, 24, 25, 26, 27, 28, 29, 30, 31, 32, 33, 34, 35, 36, 37, 38, 39, 40, 41, 42, 43, 44, 45, 46, 47, 48] rfl rfl (by decide) (by decide) hk1 hFc hP1 hD1
    have hP := hP.sub (ws' := cw_Main cI cZ cO amn apl abd alk atr mn lt ++ cw_Plan cI cZ cO apl pl ++ cw_Board cI cZ cO abd apl bd ++ cw_Locks cI cZ cO alk lk ++ cw_Trial cI cZ cO atr apl atb tr ++ cw_Board cI cZ cO atb apl tb) [0, 1, 32, 33, 34, 35, 36, 37, 38, 39, 40, 41, 42, 43, 44, 45, 46, 47, 48, 2, 3, 4, 5, 6, 7, 8, 9, 10, 11, 12, 13, 14, 15, 16, 17, 18, 19, 20, 21, 22, 23, 24, 25, 26, 27, 28, 29, 30, 31] rfl
    have hD := hD.sub (ws' := cw_Main cI cZ cO amn apl abd alk atr mn lt ++ cw_Plan cI cZ cO apl pl ++ cw_Board cI cZ cO abd apl bd ++ cw_Locks cI cZ cO alk lk ++ cw_Trial cI cZ cO atr apl atb tr ++ cw_Board cI cZ cO atb apl tb) [0, 1, 32, 33, 34, 35, 36, 37, 38, 39, 40, 41, 42, 43, 44, 45, 46, 47, 48, 2, 3, 4, 5, 6, 7, 8, 9, 10, 11, 12, 13, 14, 15, 16, 17, 18, 19, 20, 21, 22, 23, 24, 25, 26, 27, 28, 29, 30, 31] (by decide) rfl
    generalize H1 = H at hP hS ⊢
    refine lv_if_eq (tgt := 44) hx hb nd_Main_step_25 (by decide) (fun c_5 => ?_) (fun c_5 => ?_)
    · have c_5t := cr_eq c_5
      rw [if_pos c_5] at hM
      refine lv_iconst (v := -1) hx hb nd_Main_step_44 (by decide) ?_
      exact W.iret (v := (-1 : Int32)) hx hb hr (fun t ht hW => ⟨⟨(-1 : Int32), (mn, lt, bd), rfl, ⟨by rw [hT, ← hM], by rw [hT, ← hM], by rw [hT, ← hM], by rw [hT, ← hM], hR_bd⟩, by rw [ht]; exact hP, va_K.moved hW.alike hK, hD⟩, hS.F ht⟩) hS.2.2 nd_Main_step_45
    · have c_5t := cr_ne c_5
      rw [if_neg c_5] at hM
      refine lv_iload hx hb nd_Main_step_28 (lv_at hl 0 rfl) ?_
      refine lv_if_eq (tgt := 46) hx hb nd_Main_step_30 (by decide) (fun c_6 => ?_) (fun c_6 => ?_)
      · exact absurd c_6 (by decide)
      · refine lv_aload_n hx hb nd_Main_step_33 rfl (lv_at hl 1 rfl) ?_
        refine va_get (D := (dC, dI)) (ci := 4) (v := .ref (apl 0)) (C := "CeilingRows") (T := nf_Main) (N := 6) hx hb hts nin_Main hown hK hP 0 rfl rfl 0 (by decide) (hts _ tw_138) (fun _ h9 => h9) rfl nd_Main_step_34 ?_
        refine lv_iload_n hx hb nd_Main_step_37 rfl (lv_at hl 4 rfl) ?_
        have hPc := hP.sub (ws' := cw_Plan cI cZ cO apl pl) [2, 3, 4, 5, 6, 7, 8, 9, 10, 11, 12, 13, 14, 15, 16, 17, 18] rfl
        have hDc := hD.sub (ws' := cw_Plan cI cZ cO apl pl) [2, 3, 4, 5, 6, 7, 8, 9, 10, 11, 12, 13, 14, 15, 16, 17, 18] (by decide) rfl
        have hFc := va_free (wc := cw_Plan cI cZ cO apl pl) hD hS hA [2, 3, 4, 5, 6, 7, 8, 9, 10, 11, 12, 13, 14, 15, 16, 17, 18] rfl
        refine va_calli (va_runV (As := [.int x3]) (rest := []) ⟨hx, hb, hml, hown, hts⟩ (ct_Plan_hasResource l dC dI cI cZ cO apl H.size pl x3 hR_pl) (cwV 1 hts (ng_V tw_185 tw_186 tw_187 tw_2 tw_188) rfl rfl rfl (by decide +kernel) ⟨Nat.le_of_ble_eq_true rfl, Nat.le_of_ble_eq_true rfl⟩) ⟨fun a U g mk q => by obtain ⟨q0, q1, qP, qK, qD⟩ := q; exact ⟨q0, q1, qP, va_K.moved (u := U) (U := U.calling g mk a) (Vm.Alike.refl U.vm) qK, qD⟩, va_recv hK hPc (ci := 0) (q0 := 0) rfl rfl, fun U hU hW => ⟨rfl, by rw [hU], by rw [hU]; exact hPc, va_K.moved hW.alike hK, hDc.weaken (fun _ _ _ _ => trivial)⟩⟩ rfl rfl hl.1 rfl (lv_room (Nat.le_of_ble_eq_true rfl)) nd_Main_step_38 ⟨Nat.zero_le _, Nat.zero_le _⟩) hS (fun q _ h => hFc q h) hFc (fun r_7 u t H1 locs ht hvm hw hB hz1 hk1 hS => ?_)
        obtain ⟨hP1, hK1, hD1⟩ := hB
        rw [ht] at hP1
        obtain ⟨w_8, f_9⟩ := hw
        try rw [← w_8] at hM
        obtain ⟨hP, hD⟩ := va_join (wr := cw_Main cI cZ cO amn apl abd alk atr mn lt ++ cw_Board cI cZ cO abd apl bd ++ cw_Locks cI cZ cO alk lk ++ cw_Trial cI cZ cO atr apl atb tr ++ cw_Board cI cZ cO atb apl tb) (w1 := cw_Plan cI cZ cO apl pl) hP hD [2, 3, 4, 5, 6, 7, 8, 9, 10, 11, 12, 13, 14, 15, 16, 17, 18] [0, 1, 19, 20, 21, 22, 23, 24, 25, 26, 27, 28, 29, 30, 31, 32, 33, 34, 35, 36, 37, 38, 39, 40, 41, 42, 43, 44, 45, 46, 47, 48] rfl rfl (by decide) (by decide) hk1 hFc hP1 hD1
        have hP := hP.sub (ws' := cw_Main cI cZ cO amn apl abd alk atr mn lt ++ cw_Plan cI cZ cO apl pl ++ cw_Board cI cZ cO abd apl bd ++ cw_Locks cI cZ cO alk lk ++ cw_Trial cI cZ cO atr apl atb tr ++ cw_Board cI cZ cO atb apl tb) [0, 1, 32, 33, 34, 35, 36, 37, 38, 39, 40, 41, 42, 43, 44, 45, 46, 47, 48, 2, 3, 4, 5, 6, 7, 8, 9, 10, 11, 12, 13, 14, 15, 16, 17, 18, 19, 20, 21, 22, 23, 24, 25, 26, 27, 28, 29, 30, 31] rfl
        have hD := hD.sub (ws' := cw_Main cI cZ cO amn apl abd alk atr mn lt ++ cw_Plan cI cZ cO apl pl ++ cw_Board cI cZ cO abd apl bd ++ cw_Locks cI cZ cO alk lk ++ cw_Trial cI cZ cO atr apl atb tr ++ cw_Board cI cZ cO atb apl tb) [0, 1, 32, 33, 34, 35, 36, 37, 38, 39, 40, 41, 42, 43, 44, 45, 46, 47, 48, 2, 3, 4, 5, 6, 7, 8, 9, 10, 11, 12, 13, 14, 15, 16, 17, 18, 19, 20, 21, 22, 23, 24, 25, 26, 27, 28, 29, 30, 31] (by decide) rfl
        generalize H1 = H at hP hS ⊢
        refine lv_if_ne (tgt := 46) hx hb nd_Main_step_41 (by decide) (fun c_10 => ?_) (fun c_10 => ?_)
        · have c_10t := cr_ne c_10
          rw [if_neg c_10] at hM
          refine lv_iload_n hx hb nd_Main_step_46 rfl (lv_at hl 3 rfl) ?_
          refine lv_if_lt (tgt := 74) hx hb nd_Main_step_47 (by decide) (fun c_11 => ?_) (fun c_11 => ?_)
          · have c_11t := cr_lt c_11
            rw [if_pos c_11] at hM
            refine lv_bipush (v := -2) hx hb nd_Main_step_74 (by decide) ?_
            exact W.iret (v := (-2 : Int32)) hx hb hr (fun t ht hW => ⟨⟨(-2 : Int32), (mn, lt, bd), rfl, ⟨by rw [hT, ← hM], by rw [hT, ← hM], by rw [hT, ← hM], by rw [hT, ← hM], hR_bd⟩, by rw [ht]; exact hP, va_K.moved hW.alike hK, hD⟩, hS.F ht⟩) hS.2.2 nd_Main_step_76
          · have c_11t := cr_nlt c_11
            rw [if_neg c_11] at hM
            refine lv_iload_n hx hb nd_Main_step_50 rfl (lv_at hl 3 rfl) ?_
            refine lv_iconst (v := 5) hx hb nd_Main_step_51 (by decide) ?_
            refine lv_icmp_gt (tgt := 74) hx hb nd_Main_step_52 (by decide) (fun c_12 => ?_) (fun c_12 => ?_)
            · have c_12t := cr_lt c_12
              rw [if_pos c_12] at hM
              refine lv_bipush (v := -2) hx hb nd_Main_step_74 (by decide) ?_
              exact W.iret (v := (-2 : Int32)) hx hb hr (fun t ht hW => ⟨⟨(-2 : Int32), (mn, lt, bd), rfl, ⟨by rw [hT, ← hM], by rw [hT, ← hM], by rw [hT, ← hM], by rw [hT, ← hM], hR_bd⟩, by rw [ht]; exact hP, va_K.moved hW.alike hK, hD⟩, hS.F ht⟩) hS.2.2 nd_Main_step_76
            · have c_12t := cr_nlt c_12
              rw [if_neg c_12] at hM
              refine lv_lload hx hb nd_Main_step_55 (lv_at hl 5 rfl) ?_
              refine lv_aload_n hx hb nd_Main_step_57 rfl (lv_at hl 1 rfl) ?_
              refine va_get (D := (dC, dI)) (ci := 4) (v := .long lt) (C := "CeilingRows") (T := nf_Main) (N := 6) hx hb hts nin_Main hown hK hP 0 rfl rfl 5 (by decide) (hts _ tw_143) (fun _ h9 => h9) rfl nd_Main_step_58 ?_
              refine W.lcmp hx hb nd_Main_step_61 ?_
              refine lv_if_lt (tgt := 74) hx hb nd_Main_step_62 (by decide) (fun c_13 => ?_) (fun c_13 => ?_)
              · have c_13t := cr_lt c_13
                rw [if_pos c_13] at hM
                refine lv_bipush (v := -2) hx hb nd_Main_step_74 (by decide) ?_
                exact W.iret (v := (-2 : Int32)) hx hb hr (fun t ht hW => ⟨⟨(-2 : Int32), (mn, lt, bd), rfl, ⟨by rw [hT, ← hM], by rw [hT, ← hM], by rw [hT, ← hM], by rw [hT, ← hM], hR_bd⟩, by rw [ht]; exact hP, va_K.moved hW.alike hK, hD⟩, hS.F ht⟩) hS.2.2 nd_Main_step_76
              · have c_13t := cr_nlt c_13
                rw [if_neg c_13] at hM
                refine lv_lload hx hb nd_Main_step_65 (lv_at hl 5 rfl) ?_
                refine lv_ldc2 (v := 1000000000) hx hb hown (hts _ tw_217) nd_Main_step_67 ?_
                refine W.lcmp hx hb nd_Main_step_70 ?_
                refine lv_if_le (tgt := 77) hx hb nd_Main_step_71 (by decide) (fun c_14 => ?_) (fun c_14 => ?_)
                · have c_14t := cr_le c_14
                  rw [if_pos c_14] at hM
                  refine lv_aload_n hx hb nd_Main_step_77 rfl (lv_at hl 1 rfl) ?_
                  refine lv_iload_n hx hb nd_Main_step_78 rfl (lv_at hl 2 rfl) ?_
                  refine lv_iload_n hx hb nd_Main_step_79 rfl (lv_at hl 3 rfl) ?_
                  refine lv_iload_n hx hb nd_Main_step_80 rfl (lv_at hl 4 rfl) ?_
                  have hPc := hP
                  have hDc := hD
                  have hFc := va_free (wc := cw_Main cI cZ cO amn apl abd alk atr mn lt ++ cw_Plan cI cZ cO apl pl ++ cw_Board cI cZ cO abd apl bd ++ cw_Locks cI cZ cO alk lk ++ cw_Trial cI cZ cO atr apl atb tr ++ cw_Board cI cZ cO atb apl tb) hD hS hA [0, 1, 2, 3, 4, 5, 6, 7, 8, 9, 10, 11, 12, 13, 14, 15, 16, 17, 18, 19, 20, 21, 22, 23, 24, 25, 26, 27, 28, 29, 30, 31, 32, 33, 34, 35, 36, 37, 38, 39, 40, 41, 42, 43, 44, 45, 46, 47, 48] rfl
                  refine va_calli (va_runV (As := [.int x1, .int x2, .int x3]) (rest := []) ⟨hx, hb, hml, hown, hts⟩ (ct_Main_perform l dC dI cI cZ cO amn apl abd alk atr atb H.size mn lt pl bd lk tr tb x1 x2 x3 hR_tb hR_lk hR_bd hR_pl (by omega) (by omega) (by omega)) (cwV 3 hts (ng_V tw_218 tw_220 tp_0 tw_1 tw_221) rfl rfl rfl (by decide +kernel) ⟨Nat.le_of_ble_eq_true rfl, Nat.le_of_ble_eq_true rfl⟩) ⟨fun a U g mk q => by obtain ⟨q0, q1, qP, qK, qD⟩ := q; exact ⟨q0, q1, qP, va_K.moved (u := U) (U := U.calling g mk a) (Vm.Alike.refl U.vm) qK, qD⟩, va_recv hK hPc (ci := 4) (q0 := 0) rfl rfl, fun U hU hW => ⟨rfl, by rw [hU], by rw [hU]; exact hPc, va_K.moved hW.alike hK, hDc.weaken (fun _ _ _ _ => trivial)⟩⟩ rfl rfl hl.1 rfl (lv_room (Nat.le_of_ble_eq_true rfl)) nd_Main_step_81 ⟨Nat.zero_le _, Nat.zero_le _⟩) hS (fun q _ h => hFc q h) hFc (fun r_15 u t H1 locs ht hvm hw hB hz1 hk1 hS => ?_)
                  obtain ⟨hP1, hK1, hD1⟩ := hB
                  rw [ht] at hP1
                  obtain ⟨mnq_17, ltq_19, bdq_21⟩ := u
                  dsimp only at hw hP1 hD1
                  obtain ⟨w_16, w_18, w_20, w_22, hR_23⟩ := hw
                  try rw [← w_16] at hM
                  try rw [← w_18] at hM
                  try rw [← w_20] at hM
                  try rw [← w_22] at hM
                  have hP := hP1
                  have hD := cr_Dw hD1 hFc
                  generalize H1 = H at hP hS ⊢
                  refine lv_istore (lv' := [(7, .int r_15), (6, .int (1 : Int32)), (0, .ref (amn 0)), (1, .int x1), (2, .int x2), (3, .int x3), (4, .long x4)]) hx hb nd_Main_step_84 hl (by decide) rfl (fun ls hl => ?_)
                  refine lv_iload hx hb nd_Main_step_86 (lv_at hl 0 rfl) ?_
                  refine lv_if_ge (tgt := 98) hx hb nd_Main_step_88 (by decide) (fun c_24 => ?_) (fun c_24 => ?_)
                  · have c_24t := cr_le c_24
                    rw [if_pos c_24] at hM
                    refine lv_aload_n hx hb nd_Main_step_98 rfl (lv_at hl 2 rfl) ?_
                    refine lv_lload hx hb nd_Main_step_99 (lv_at hl 6 rfl) ?_
                    refine va_put (D := (dC, dI)) (ci := 4) (v := .long x4) (ty := .long) (C := "CeilingRows") (T := nf_Main) (N := 6) hx hb hts nin_Main nt_Main nto_Main nno_Main hown hK hP hD hS 0 rfl rfl 5 (by decide) (hts _ tw_143) (fun _ h9 => h9) rfl (by decide +kernel) rfl rfl (Nat.le_of_ble_eq_true rfl) nd_Main_step_101 (fun H locs hP hD hS => ?_)
                    have hP : va_P (dC, dI) vwCl (cw_Main cI cZ cO amn apl abd alk atr mnq_17 x4 ++ cw_Plan cI cZ cO apl pl ++ cw_Board cI cZ cO abd apl bdq_21 ++ cw_Locks cI cZ cO alk lk ++ cw_Trial cI cZ cO atr apl atb tr ++ cw_Board cI cZ cO atb apl tb) H := hP
                    have hD : va_D A (cw_Main cI cZ cO amn apl abd alk atr mnq_17 x4 ++ cw_Plan cI cZ cO apl pl ++ cw_Board cI cZ cO abd apl bdq_21 ++ cw_Locks cI cZ cO alk lk ++ cw_Trial cI cZ cO atr apl atb tr ++ cw_Board cI cZ cO atb apl tb) := hD
                    refine lv_iload hx hb nd_Main_step_104 (lv_at hl 0 rfl) ?_
                    exact W.iret (v := r_15) hx hb hr (fun t ht hW => ⟨⟨r_15, (mnq_17, x4, bdq_21), rfl, ⟨by rw [hT, ← hM], by rw [hT, ← hM], by rw [hT, ← hM], by rw [hT, ← hM], hR_23⟩, by rw [ht]; exact hP, va_K.moved hW.alike hK, hD⟩, hS.F ht⟩) hS.2.2 nd_Main_step_106
                  · have c_24t := cr_nle c_24
                    rw [if_neg c_24] at hM
                    refine lv_iload hx hb nd_Main_step_91 (lv_at hl 0 rfl) ?_
                    refine lv_bipush (v := -14) hx hb nd_Main_step_93 (by decide) ?_
                    refine lv_icmp_ne (tgt := 104) hx hb nd_Main_step_95 (by decide) (fun c_25 => ?_) (fun c_25 => ?_)
                    · have c_25t := cr_ne c_25
                      rw [if_neg c_25] at hM
                      refine lv_iload hx hb nd_Main_step_104 (lv_at hl 0 rfl) ?_
                      exact W.iret (v := r_15) hx hb hr (fun t ht hW => ⟨⟨r_15, (mnq_17, ltq_19, bdq_21), rfl, ⟨by rw [hT, ← hM], by rw [hT, ← hM], by rw [hT, ← hM], by rw [hT, ← hM], hR_23⟩, by rw [ht]; exact hP, va_K.moved hW.alike hK, hD⟩, hS.F ht⟩) hS.2.2 nd_Main_step_106
                    · have c_25t := cr_eq c_25
                      rw [if_pos c_25] at hM
                      refine lv_aload_n hx hb nd_Main_step_98 rfl (lv_at hl 2 rfl) ?_
                      refine lv_lload hx hb nd_Main_step_99 (lv_at hl 6 rfl) ?_
                      refine va_put (D := (dC, dI)) (ci := 4) (v := .long x4) (ty := .long) (C := "CeilingRows") (T := nf_Main) (N := 6) hx hb hts nin_Main nt_Main nto_Main nno_Main hown hK hP hD hS 0 rfl rfl 5 (by decide) (hts _ tw_143) (fun _ h9 => h9) rfl (by decide +kernel) rfl rfl (Nat.le_of_ble_eq_true rfl) nd_Main_step_101 (fun H locs hP hD hS => ?_)
                      have hP : va_P (dC, dI) vwCl (cw_Main cI cZ cO amn apl abd alk atr mnq_17 x4 ++ cw_Plan cI cZ cO apl pl ++ cw_Board cI cZ cO abd apl bdq_21 ++ cw_Locks cI cZ cO alk lk ++ cw_Trial cI cZ cO atr apl atb tr ++ cw_Board cI cZ cO atb apl tb) H := hP
                      have hD : va_D A (cw_Main cI cZ cO amn apl abd alk atr mnq_17 x4 ++ cw_Plan cI cZ cO apl pl ++ cw_Board cI cZ cO abd apl bdq_21 ++ cw_Locks cI cZ cO alk lk ++ cw_Trial cI cZ cO atr apl atb tr ++ cw_Board cI cZ cO atb apl tb) := hD
                      refine lv_iload hx hb nd_Main_step_104 (lv_at hl 0 rfl) ?_
                      exact W.iret (v := r_15) hx hb hr (fun t ht hW => ⟨⟨r_15, (mnq_17, x4, bdq_21), rfl, ⟨by rw [hT, ← hM], by rw [hT, ← hM], by rw [hT, ← hM], by rw [hT, ← hM], hR_23⟩, by rw [ht]; exact hP, va_K.moved hW.alike hK, hD⟩, hS.F ht⟩) hS.2.2 nd_Main_step_106
                · have c_14t := cr_nle c_14
                  rw [if_neg c_14] at hM
                  refine lv_bipush (v := -2) hx hb nd_Main_step_74 (by decide) ?_
                  exact W.iret (v := (-2 : Int32)) hx hb hr (fun t ht hW => ⟨⟨(-2 : Int32), (mn, lt, bd), rfl, ⟨by rw [hT, ← hM], by rw [hT, ← hM], by rw [hT, ← hM], by rw [hT, ← hM], hR_bd⟩, by rw [ht]; exact hP, va_K.moved hW.alike hK, hD⟩, hS.F ht⟩) hS.2.2 nd_Main_step_76
        · have c_10t := cr_eq c_10
          rw [if_pos c_10] at hM
          refine lv_iconst (v := -1) hx hb nd_Main_step_44 (by decide) ?_
          exact W.iret (v := (-1 : Int32)) hx hb hr (fun t ht hW => ⟨⟨(-1 : Int32), (mn, lt, bd), rfl, ⟨by rw [hT, ← hM], by rw [hT, ← hM], by rw [hT, ← hM], by rw [hT, ← hM], hR_bd⟩, by rw [ht]; exact hP, va_K.moved hW.alike hK, hD⟩, hS.F ht⟩) hS.2.2 nd_Main_step_45
  · have c_1t := cr_ne c_1
    rw [if_neg c_1] at hM
    refine lv_iload_n hx hb nd_Main_step_5 rfl (lv_at hl 2 rfl) ?_
    refine lv_iconst (v := 2) hx hb nd_Main_step_6 (by decide) ?_
    refine lv_icmp_ne (tgt := 14) hx hb nd_Main_step_7 (by decide) (fun c_26 => ?_) (fun c_26 => ?_)
    · have c_26t := cr_ne c_26
      rw [if_neg c_26] at hM
      refine lv_iconst (v := 0) hx hb nd_Main_step_14 (by decide) ?_
      refine lv_istore (lv' := [(6, .int (0 : Int32)), (0, .ref (amn 0)), (1, .int x1), (2, .int x2), (3, .int x3), (4, .long x4)]) hx hb nd_Main_step_15 hl (by decide) rfl (fun ls hl => ?_)
      refine lv_aload_n hx hb nd_Main_step_17 rfl (lv_at hl 1 rfl) ?_
      refine va_get (D := (dC, dI)) (ci := 4) (v := .ref (apl 0)) (C := "CeilingRows") (T := nf_Main) (N := 6) hx hb hts nin_Main hown hK hP 0 rfl rfl 0 (by decide) (hts _ tw_138) (fun _ h9 => h9) rfl nd_Main_step_18 ?_
      refine lv_iload_n hx hb nd_Main_step_21 rfl (lv_at hl 2 rfl) ?_
      have hPc := hP.sub (ws' := cw_Plan cI cZ cO apl pl) [2, 3, 4, 5, 6, 7, 8, 9, 10, 11, 12, 13, 14, 15, 16, 17, 18] rfl
      have hDc := hD.sub (ws' := cw_Plan cI cZ cO apl pl) [2, 3, 4, 5, 6, 7, 8, 9, 10, 11, 12, 13, 14, 15, 16, 17, 18] (by decide) rfl
      have hFc := va_free (wc := cw_Plan cI cZ cO apl pl) hD hS hA [2, 3, 4, 5, 6, 7, 8, 9, 10, 11, 12, 13, 14, 15, 16, 17, 18] rfl
      refine va_calli (va_runV (As := [.int x1]) (rest := []) ⟨hx, hb, hml, hown, hts⟩ (ct_Plan_hasTask l dC dI cI cZ cO apl s.heap.size pl x1 hR_pl) (cwV 1 hts (ng_V tw_181 tw_182 tw_183 tw_2 tw_184) rfl rfl rfl (by decide +kernel) ⟨Nat.le_of_ble_eq_true rfl, Nat.le_of_ble_eq_true rfl⟩) ⟨fun a U g mk q => by obtain ⟨q0, q1, qP, qK, qD⟩ := q; exact ⟨q0, q1, qP, va_K.moved (u := U) (U := U.calling g mk a) (Vm.Alike.refl U.vm) qK, qD⟩, va_recv hK hPc (ci := 0) (q0 := 0) rfl rfl, fun U hU hW => ⟨rfl, by rw [hU], by rw [hU]; exact hPc, va_K.moved hW.alike hK, hDc.weaken (fun _ _ _ _ => trivial)⟩⟩ rfl rfl hl.1 rfl (lv_room (Nat.le_of_ble_eq_true rfl)) nd_Main_step_22 ⟨Nat.zero_le _, Nat.zero_le _⟩) hS (fun q _ h => hFc q h) hFc (fun r_27 u t H1 locs ht hvm hw hB hz1 hk1 hS => ?_)
      obtain ⟨hP1, hK1, hD1⟩ := hB
      rw [ht] at hP1
      obtain ⟨w_28, f_29⟩ := hw
      try rw [← w_28] at hM
      obtain ⟨hP, hD⟩ := va_join (wr := cw_Main cI cZ cO amn apl abd alk atr mn lt ++ cw_Board cI cZ cO abd apl bd ++ cw_Locks cI cZ cO alk lk ++ cw_Trial cI cZ cO atr apl atb tr ++ cw_Board cI cZ cO atb apl tb) (w1 := cw_Plan cI cZ cO apl pl) hP hD [2, 3, 4, 5, 6, 7, 8, 9, 10, 11, 12, 13, 14, 15, 16, 17, 18] [0, 1, 19, 20, 21, 22, 23, 24, 25, 26, 27, 28, 29, 30, 31, 32, 33, 34, 35, 36, 37, 38, 39, 40, 41, 42, 43, 44, 45, 46, 47, 48] rfl rfl (by decide) (by decide) hk1 hFc hP1 hD1
      have hP := hP.sub (ws' := cw_Main cI cZ cO amn apl abd alk atr mn lt ++ cw_Plan cI cZ cO apl pl ++ cw_Board cI cZ cO abd apl bd ++ cw_Locks cI cZ cO alk lk ++ cw_Trial cI cZ cO atr apl atb tr ++ cw_Board cI cZ cO atb apl tb) [0, 1, 32, 33, 34, 35, 36, 37, 38, 39, 40, 41, 42, 43, 44, 45, 46, 47, 48, 2, 3, 4, 5, 6, 7, 8, 9, 10, 11, 12, 13, 14, 15, 16, 17, 18, 19, 20, 21, 22, 23, 24, 25, 26, 27, 28, 29, 30, 31] rfl
      have hD := hD.sub (ws' := cw_Main cI cZ cO amn apl abd alk atr mn lt ++ cw_Plan cI cZ cO apl pl ++ cw_Board cI cZ cO abd apl bd ++ cw_Locks cI cZ cO alk lk ++ cw_Trial cI cZ cO atr apl atb tr ++ cw_Board cI cZ cO atb apl tb) [0, 1, 32, 33, 34, 35, 36, 37, 38, 39, 40, 41, 42, 43, 44, 45, 46, 47, 48, 2, 3, 4, 5, 6, 7, 8, 9, 10, 11, 12, 13, 14, 15, 16, 17, 18, 19, 20, 21, 22, 23, 24, 25, 26, 27, 28, 29, 30, 31] (by decide) rfl
      generalize H1 = H at hP hS ⊢
      refine lv_if_eq (tgt := 44) hx hb nd_Main_step_25 (by decide) (fun c_30 => ?_) (fun c_30 => ?_)
      · have c_30t := cr_eq c_30
        rw [if_pos c_30] at hM
        refine lv_iconst (v := -1) hx hb nd_Main_step_44 (by decide) ?_
        exact W.iret (v := (-1 : Int32)) hx hb hr (fun t ht hW => ⟨⟨(-1 : Int32), (mn, lt, bd), rfl, ⟨by rw [hT, ← hM], by rw [hT, ← hM], by rw [hT, ← hM], by rw [hT, ← hM], hR_bd⟩, by rw [ht]; exact hP, va_K.moved hW.alike hK, hD⟩, hS.F ht⟩) hS.2.2 nd_Main_step_45
      · have c_30t := cr_ne c_30
        rw [if_neg c_30] at hM
        refine lv_iload hx hb nd_Main_step_28 (lv_at hl 0 rfl) ?_
        refine lv_if_eq (tgt := 46) hx hb nd_Main_step_30 (by decide) (fun c_31 => ?_) (fun c_31 => ?_)
        · refine lv_iload_n hx hb nd_Main_step_46 rfl (lv_at hl 3 rfl) ?_
          refine lv_if_lt (tgt := 74) hx hb nd_Main_step_47 (by decide) (fun c_32 => ?_) (fun c_32 => ?_)
          · have c_32t := cr_lt c_32
            rw [if_pos c_32] at hM
            refine lv_bipush (v := -2) hx hb nd_Main_step_74 (by decide) ?_
            exact W.iret (v := (-2 : Int32)) hx hb hr (fun t ht hW => ⟨⟨(-2 : Int32), (mn, lt, bd), rfl, ⟨by rw [hT, ← hM], by rw [hT, ← hM], by rw [hT, ← hM], by rw [hT, ← hM], hR_bd⟩, by rw [ht]; exact hP, va_K.moved hW.alike hK, hD⟩, hS.F ht⟩) hS.2.2 nd_Main_step_76
          · have c_32t := cr_nlt c_32
            rw [if_neg c_32] at hM
            refine lv_iload_n hx hb nd_Main_step_50 rfl (lv_at hl 3 rfl) ?_
            refine lv_iconst (v := 5) hx hb nd_Main_step_51 (by decide) ?_
            refine lv_icmp_gt (tgt := 74) hx hb nd_Main_step_52 (by decide) (fun c_33 => ?_) (fun c_33 => ?_)
            · have c_33t := cr_lt c_33
              rw [if_pos c_33] at hM
              refine lv_bipush (v := -2) hx hb nd_Main_step_74 (by decide) ?_
              exact W.iret (v := (-2 : Int32)) hx hb hr (fun t ht hW => ⟨⟨(-2 : Int32), (mn, lt, bd), rfl, ⟨by rw [hT, ← hM], by rw [hT, ← hM], by rw [hT, ← hM], by rw [hT, ← hM], hR_bd⟩, by rw [ht]; exact hP, va_K.moved hW.alike hK, hD⟩, hS.F ht⟩) hS.2.2 nd_Main_step_76
            · have c_33t := cr_nlt c_33
              rw [if_neg c_33] at hM
              refine lv_lload hx hb nd_Main_step_55 (lv_at hl 5 rfl) ?_
              refine lv_aload_n hx hb nd_Main_step_57 rfl (lv_at hl 1 rfl) ?_
              refine va_get (D := (dC, dI)) (ci := 4) (v := .long lt) (C := "CeilingRows") (T := nf_Main) (N := 6) hx hb hts nin_Main hown hK hP 0 rfl rfl 5 (by decide) (hts _ tw_143) (fun _ h9 => h9) rfl nd_Main_step_58 ?_
              refine W.lcmp hx hb nd_Main_step_61 ?_
              refine lv_if_lt (tgt := 74) hx hb nd_Main_step_62 (by decide) (fun c_34 => ?_) (fun c_34 => ?_)
              · have c_34t := cr_lt c_34
                rw [if_pos c_34] at hM
                refine lv_bipush (v := -2) hx hb nd_Main_step_74 (by decide) ?_
                exact W.iret (v := (-2 : Int32)) hx hb hr (fun t ht hW => ⟨⟨(-2 : Int32), (mn, lt, bd), rfl, ⟨by rw [hT, ← hM], by rw [hT, ← hM], by rw [hT, ← hM], by rw [hT, ← hM], hR_bd⟩, by rw [ht]; exact hP, va_K.moved hW.alike hK, hD⟩, hS.F ht⟩) hS.2.2 nd_Main_step_76
              · have c_34t := cr_nlt c_34
                rw [if_neg c_34] at hM
                refine lv_lload hx hb nd_Main_step_65 (lv_at hl 5 rfl) ?_
                refine lv_ldc2 (v := 1000000000) hx hb hown (hts _ tw_217) nd_Main_step_67 ?_
                refine W.lcmp hx hb nd_Main_step_70 ?_
                refine lv_if_le (tgt := 77) hx hb nd_Main_step_71 (by decide) (fun c_35 => ?_) (fun c_35 => ?_)
                · have c_35t := cr_le c_35
                  rw [if_pos c_35] at hM
                  refine lv_aload_n hx hb nd_Main_step_77 rfl (lv_at hl 1 rfl) ?_
                  refine lv_iload_n hx hb nd_Main_step_78 rfl (lv_at hl 2 rfl) ?_
                  refine lv_iload_n hx hb nd_Main_step_79 rfl (lv_at hl 3 rfl) ?_
                  refine lv_iload_n hx hb nd_Main_step_80 rfl (lv_at hl 4 rfl) ?_
                  have hPc := hP
                  have hDc := hD
                  have hFc := va_free (wc := cw_Main cI cZ cO amn apl abd alk atr mn lt ++ cw_Plan cI cZ cO apl pl ++ cw_Board cI cZ cO abd apl bd ++ cw_Locks cI cZ cO alk lk ++ cw_Trial cI cZ cO atr apl atb tr ++ cw_Board cI cZ cO atb apl tb) hD hS hA [0, 1, 2, 3, 4, 5, 6, 7, 8, 9, 10, 11, 12, 13, 14, 15, 16, 17, 18, 19, 20, 21, 22, 23, 24, 25, 26, 27, 28, 29, 30, 31, 32, 33, 34, 35, 36, 37, 38, 39, 40, 41, 42, 43, 44, 45, 46, 47, 48] rfl
                  refine va_calli (va_runV (As := [.int x1, .int x2, .int x3]) (rest := []) ⟨hx, hb, hml, hown, hts⟩ (ct_Main_perform l dC dI cI cZ cO amn apl abd alk atr atb H.size mn lt pl bd lk tr tb x1 x2 x3 hR_tb hR_lk hR_bd hR_pl (by omega) (by omega) (by omega)) (cwV 3 hts (ng_V tw_218 tw_220 tp_0 tw_1 tw_221) rfl rfl rfl (by decide +kernel) ⟨Nat.le_of_ble_eq_true rfl, Nat.le_of_ble_eq_true rfl⟩) ⟨fun a U g mk q => by obtain ⟨q0, q1, qP, qK, qD⟩ := q; exact ⟨q0, q1, qP, va_K.moved (u := U) (U := U.calling g mk a) (Vm.Alike.refl U.vm) qK, qD⟩, va_recv hK hPc (ci := 4) (q0 := 0) rfl rfl, fun U hU hW => ⟨rfl, by rw [hU], by rw [hU]; exact hPc, va_K.moved hW.alike hK, hDc.weaken (fun _ _ _ _ => trivial)⟩⟩ rfl rfl hl.1 rfl (lv_room (Nat.le_of_ble_eq_true rfl)) nd_Main_step_81 ⟨Nat.zero_le _, Nat.zero_le _⟩) hS (fun q _ h => hFc q h) hFc (fun r_36 u t H1 locs ht hvm hw hB hz1 hk1 hS => ?_)
                  obtain ⟨hP1, hK1, hD1⟩ := hB
                  rw [ht] at hP1
                  obtain ⟨mnq_38, ltq_40, bdq_42⟩ := u
                  dsimp only at hw hP1 hD1
                  obtain ⟨w_37, w_39, w_41, w_43, hR_44⟩ := hw
                  try rw [← w_37] at hM
                  try rw [← w_39] at hM
                  try rw [← w_41] at hM
                  try rw [← w_43] at hM
                  have hP := hP1
                  have hD := cr_Dw hD1 hFc
                  generalize H1 = H at hP hS ⊢
                  refine lv_istore (lv' := [(7, .int r_36), (6, .int (0 : Int32)), (0, .ref (amn 0)), (1, .int x1), (2, .int x2), (3, .int x3), (4, .long x4)]) hx hb nd_Main_step_84 hl (by decide) rfl (fun ls hl => ?_)
                  refine lv_iload hx hb nd_Main_step_86 (lv_at hl 0 rfl) ?_
                  refine lv_if_ge (tgt := 98) hx hb nd_Main_step_88 (by decide) (fun c_45 => ?_) (fun c_45 => ?_)
                  · have c_45t := cr_le c_45
                    rw [if_pos c_45] at hM
                    refine lv_aload_n hx hb nd_Main_step_98 rfl (lv_at hl 2 rfl) ?_
                    refine lv_lload hx hb nd_Main_step_99 (lv_at hl 6 rfl) ?_
                    refine va_put (D := (dC, dI)) (ci := 4) (v := .long x4) (ty := .long) (C := "CeilingRows") (T := nf_Main) (N := 6) hx hb hts nin_Main nt_Main nto_Main nno_Main hown hK hP hD hS 0 rfl rfl 5 (by decide) (hts _ tw_143) (fun _ h9 => h9) rfl (by decide +kernel) rfl rfl (Nat.le_of_ble_eq_true rfl) nd_Main_step_101 (fun H locs hP hD hS => ?_)
                    have hP : va_P (dC, dI) vwCl (cw_Main cI cZ cO amn apl abd alk atr mnq_38 x4 ++ cw_Plan cI cZ cO apl pl ++ cw_Board cI cZ cO abd apl bdq_42 ++ cw_Locks cI cZ cO alk lk ++ cw_Trial cI cZ cO atr apl atb tr ++ cw_Board cI cZ cO atb apl tb) H := hP
                    have hD : va_D A (cw_Main cI cZ cO amn apl abd alk atr mnq_38 x4 ++ cw_Plan cI cZ cO apl pl ++ cw_Board cI cZ cO abd apl bdq_42 ++ cw_Locks cI cZ cO alk lk ++ cw_Trial cI cZ cO atr apl atb tr ++ cw_Board cI cZ cO atb apl tb) := hD
                    refine lv_iload hx hb nd_Main_step_104 (lv_at hl 0 rfl) ?_
                    exact W.iret (v := r_36) hx hb hr (fun t ht hW => ⟨⟨r_36, (mnq_38, x4, bdq_42), rfl, ⟨by rw [hT, ← hM], by rw [hT, ← hM], by rw [hT, ← hM], by rw [hT, ← hM], hR_44⟩, by rw [ht]; exact hP, va_K.moved hW.alike hK, hD⟩, hS.F ht⟩) hS.2.2 nd_Main_step_106
                  · have c_45t := cr_nle c_45
                    rw [if_neg c_45] at hM
                    refine lv_iload hx hb nd_Main_step_91 (lv_at hl 0 rfl) ?_
                    refine lv_bipush (v := -14) hx hb nd_Main_step_93 (by decide) ?_
                    refine lv_icmp_ne (tgt := 104) hx hb nd_Main_step_95 (by decide) (fun c_46 => ?_) (fun c_46 => ?_)
                    · have c_46t := cr_ne c_46
                      rw [if_neg c_46] at hM
                      refine lv_iload hx hb nd_Main_step_104 (lv_at hl 0 rfl) ?_
                      exact W.iret (v := r_36) hx hb hr (fun t ht hW => ⟨⟨r_36, (mnq_38, ltq_40, bdq_42), rfl, ⟨by rw [hT, ← hM], by rw [hT, ← hM], by rw [hT, ← hM], by rw [hT, ← hM], hR_44⟩, by rw [ht]; exact hP, va_K.moved hW.alike hK, hD⟩, hS.F ht⟩) hS.2.2 nd_Main_step_106
                    · have c_46t := cr_eq c_46
                      rw [if_pos c_46] at hM
                      refine lv_aload_n hx hb nd_Main_step_98 rfl (lv_at hl 2 rfl) ?_
                      refine lv_lload hx hb nd_Main_step_99 (lv_at hl 6 rfl) ?_
                      refine va_put (D := (dC, dI)) (ci := 4) (v := .long x4) (ty := .long) (C := "CeilingRows") (T := nf_Main) (N := 6) hx hb hts nin_Main nt_Main nto_Main nno_Main hown hK hP hD hS 0 rfl rfl 5 (by decide) (hts _ tw_143) (fun _ h9 => h9) rfl (by decide +kernel) rfl rfl (Nat.le_of_ble_eq_true rfl) nd_Main_step_101 (fun H locs hP hD hS => ?_)
                      have hP : va_P (dC, dI) vwCl (cw_Main cI cZ cO amn apl abd alk atr mnq_38 x4 ++ cw_Plan cI cZ cO apl pl ++ cw_Board cI cZ cO abd apl bdq_42 ++ cw_Locks cI cZ cO alk lk ++ cw_Trial cI cZ cO atr apl atb tr ++ cw_Board cI cZ cO atb apl tb) H := hP
                      have hD : va_D A (cw_Main cI cZ cO amn apl abd alk atr mnq_38 x4 ++ cw_Plan cI cZ cO apl pl ++ cw_Board cI cZ cO abd apl bdq_42 ++ cw_Locks cI cZ cO alk lk ++ cw_Trial cI cZ cO atr apl atb tr ++ cw_Board cI cZ cO atb apl tb) := hD
                      refine lv_iload hx hb nd_Main_step_104 (lv_at hl 0 rfl) ?_
                      exact W.iret (v := r_36) hx hb hr (fun t ht hW => ⟨⟨r_36, (mnq_38, x4, bdq_42), rfl, ⟨by rw [hT, ← hM], by rw [hT, ← hM], by rw [hT, ← hM], by rw [hT, ← hM], hR_44⟩, by rw [ht]; exact hP, va_K.moved hW.alike hK, hD⟩, hS.F ht⟩) hS.2.2 nd_Main_step_106
                · have c_35t := cr_nle c_35
                  rw [if_neg c_35] at hM
                  refine lv_bipush (v := -2) hx hb nd_Main_step_74 (by decide) ?_
                  exact W.iret (v := (-2 : Int32)) hx hb hr (fun t ht hW => ⟨⟨(-2 : Int32), (mn, lt, bd), rfl, ⟨by rw [hT, ← hM], by rw [hT, ← hM], by rw [hT, ← hM], by rw [hT, ← hM], hR_bd⟩, by rw [ht]; exact hP, va_K.moved hW.alike hK, hD⟩, hS.F ht⟩) hS.2.2 nd_Main_step_76
        · exact absurd c_31 (by decide)
    · have c_26t := cr_eq c_26
      rw [if_pos c_26] at hM
      refine lv_iconst (v := 1) hx hb nd_Main_step_10 (by decide) ?_
      refine lv_goto (tgt := 15) hx hb nd_Main_step_11 (by decide) ?_
      refine lv_istore (lv' := [(6, .int (1 : Int32)), (0, .ref (amn 0)), (1, .int x1), (2, .int x2), (3, .int x3), (4, .long x4)]) hx hb nd_Main_step_15 hl (by decide) rfl (fun ls hl => ?_)
      refine lv_aload_n hx hb nd_Main_step_17 rfl (lv_at hl 1 rfl) ?_
      refine va_get (D := (dC, dI)) (ci := 4) (v := .ref (apl 0)) (C := "CeilingRows") (T := nf_Main) (N := 6) hx hb hts nin_Main hown hK hP 0 rfl rfl 0 (by decide) (hts _ tw_138) (fun _ h9 => h9) rfl nd_Main_step_18 ?_
      refine lv_iload_n hx hb nd_Main_step_21 rfl (lv_at hl 2 rfl) ?_
      have hPc := hP.sub (ws' := cw_Plan cI cZ cO apl pl) [2, 3, 4, 5, 6, 7, 8, 9, 10, 11, 12, 13, 14, 15, 16, 17, 18] rfl
      have hDc := hD.sub (ws' := cw_Plan cI cZ cO apl pl) [2, 3, 4, 5, 6, 7, 8, 9, 10, 11, 12, 13, 14, 15, 16, 17, 18] (by decide) rfl
      have hFc := va_free (wc := cw_Plan cI cZ cO apl pl) hD hS hA [2, 3, 4, 5, 6, 7, 8, 9, 10, 11, 12, 13, 14, 15, 16, 17, 18] rfl
      refine va_calli (va_runV (As := [.int x1]) (rest := []) ⟨hx, hb, hml, hown, hts⟩ (ct_Plan_hasTask l dC dI cI cZ cO apl s.heap.size pl x1 hR_pl) (cwV 1 hts (ng_V tw_181 tw_182 tw_183 tw_2 tw_184) rfl rfl rfl (by decide +kernel) ⟨Nat.le_of_ble_eq_true rfl, Nat.le_of_ble_eq_true rfl⟩) ⟨fun a U g mk q => by obtain ⟨q0, q1, qP, qK, qD⟩ := q; exact ⟨q0, q1, qP, va_K.moved (u := U) (U := U.calling g mk a) (Vm.Alike.refl U.vm) qK, qD⟩, va_recv hK hPc (ci := 0) (q0 := 0) rfl rfl, fun U hU hW => ⟨rfl, by rw [hU], by rw [hU]; exact hPc, va_K.moved hW.alike hK, hDc.weaken (fun _ _ _ _ => trivial)⟩⟩ rfl rfl hl.1 rfl (lv_room (Nat.le_of_ble_eq_true rfl)) nd_Main_step_22 ⟨Nat.zero_le _, Nat.zero_le _⟩) hS (fun q _ h => hFc q h) hFc (fun r_47 u t H1 locs ht hvm hw hB hz1 hk1 hS => ?_)
      obtain ⟨hP1, hK1, hD1⟩ := hB
      rw [ht] at hP1
      obtain ⟨w_48, f_49⟩ := hw
      try rw [← w_48] at hM
      obtain ⟨hP, hD⟩ := va_join (wr := cw_Main cI cZ cO amn apl abd alk atr mn lt ++ cw_Board cI cZ cO abd apl bd ++ cw_Locks cI cZ cO alk lk ++ cw_Trial cI cZ cO atr apl atb tr ++ cw_Board cI cZ cO atb apl tb) (w1 := cw_Plan cI cZ cO apl pl) hP hD [2, 3, 4, 5, 6, 7, 8, 9, 10, 11, 12, 13, 14, 15, 16, 17, 18] [0, 1, 19, 20, 21, 22, 23, 24, 25, 26, 27, 28, 29, 30, 31, 32, 33, 34, 35, 36, 37, 38, 39, 40, 41, 42, 43, 44, 45, 46, 47, 48] rfl rfl (by decide) (by decide) hk1 hFc hP1 hD1
      have hP := hP.sub (ws' := cw_Main cI cZ cO amn apl abd alk atr mn lt ++ cw_Plan cI cZ cO apl pl ++ cw_Board cI cZ cO abd apl bd ++ cw_Locks cI cZ cO alk lk ++ cw_Trial cI cZ cO atr apl atb tr ++ cw_Board cI cZ cO atb apl tb) [0, 1, 32, 33, 34, 35, 36, 37, 38, 39, 40, 41, 42, 43, 44, 45, 46, 47, 48, 2, 3, 4, 5, 6, 7, 8, 9, 10, 11, 12, 13, 14, 15, 16, 17, 18, 19, 20, 21, 22, 23, 24, 25, 26, 27, 28, 29, 30, 31] rfl
      have hD := hD.sub (ws' := cw_Main cI cZ cO amn apl abd alk atr mn lt ++ cw_Plan cI cZ cO apl pl ++ cw_Board cI cZ cO abd apl bd ++ cw_Locks cI cZ cO alk lk ++ cw_Trial cI cZ cO atr apl atb tr ++ cw_Board cI cZ cO atb apl tb) [0, 1, 32, 33, 34, 35, 36, 37, 38, 39, 40, 41, 42, 43, 44, 45, 46, 47, 48, 2, 3, 4, 5, 6, 7, 8, 9, 10, 11, 12, 13, 14, 15, 16, 17, 18, 19, 20, 21, 22, 23, 24, 25, 26, 27, 28, 29, 30, 31] (by decide) rfl
      generalize H1 = H at hP hS ⊢
      refine lv_if_eq (tgt := 44) hx hb nd_Main_step_25 (by decide) (fun c_50 => ?_) (fun c_50 => ?_)
      · have c_50t := cr_eq c_50
        rw [if_pos c_50] at hM
        refine lv_iconst (v := -1) hx hb nd_Main_step_44 (by decide) ?_
        exact W.iret (v := (-1 : Int32)) hx hb hr (fun t ht hW => ⟨⟨(-1 : Int32), (mn, lt, bd), rfl, ⟨by rw [hT, ← hM], by rw [hT, ← hM], by rw [hT, ← hM], by rw [hT, ← hM], hR_bd⟩, by rw [ht]; exact hP, va_K.moved hW.alike hK, hD⟩, hS.F ht⟩) hS.2.2 nd_Main_step_45
      · have c_50t := cr_ne c_50
        rw [if_neg c_50] at hM
        refine lv_iload hx hb nd_Main_step_28 (lv_at hl 0 rfl) ?_
        refine lv_if_eq (tgt := 46) hx hb nd_Main_step_30 (by decide) (fun c_51 => ?_) (fun c_51 => ?_)
        · exact absurd c_51 (by decide)
        · refine lv_aload_n hx hb nd_Main_step_33 rfl (lv_at hl 1 rfl) ?_
          refine va_get (D := (dC, dI)) (ci := 4) (v := .ref (apl 0)) (C := "CeilingRows") (T := nf_Main) (N := 6) hx hb hts nin_Main hown hK hP 0 rfl rfl 0 (by decide) (hts _ tw_138) (fun _ h9 => h9) rfl nd_Main_step_34 ?_
          refine lv_iload_n hx hb nd_Main_step_37 rfl (lv_at hl 4 rfl) ?_
          have hPc := hP.sub (ws' := cw_Plan cI cZ cO apl pl) [2, 3, 4, 5, 6, 7, 8, 9, 10, 11, 12, 13, 14, 15, 16, 17, 18] rfl
          have hDc := hD.sub (ws' := cw_Plan cI cZ cO apl pl) [2, 3, 4, 5, 6, 7, 8, 9, 10, 11, 12, 13, 14, 15, 16, 17, 18] (by decide) rfl
          have hFc := va_free (wc := cw_Plan cI cZ cO apl pl) hD hS hA [2, 3, 4, 5, 6, 7, 8, 9, 10, 11, 12, 13, 14, 15, 16, 17, 18] rfl
          refine va_calli (va_runV (As := [.int x3]) (rest := []) ⟨hx, hb, hml, hown, hts⟩ (ct_Plan_hasResource l dC dI cI cZ cO apl H.size pl x3 hR_pl) (cwV 1 hts (ng_V tw_185 tw_186 tw_187 tw_2 tw_188) rfl rfl rfl (by decide +kernel) ⟨Nat.le_of_ble_eq_true rfl, Nat.le_of_ble_eq_true rfl⟩) ⟨fun a U g mk q => by obtain ⟨q0, q1, qP, qK, qD⟩ := q; exact ⟨q0, q1, qP, va_K.moved (u := U) (U := U.calling g mk a) (Vm.Alike.refl U.vm) qK, qD⟩, va_recv hK hPc (ci := 0) (q0 := 0) rfl rfl, fun U hU hW => ⟨rfl, by rw [hU], by rw [hU]; exact hPc, va_K.moved hW.alike hK, hDc.weaken (fun _ _ _ _ => trivial)⟩⟩ rfl rfl hl.1 rfl (lv_room (Nat.le_of_ble_eq_true rfl)) nd_Main_step_38 ⟨Nat.zero_le _, Nat.zero_le _⟩) hS (fun q _ h => hFc q h) hFc (fun r_52 u t H1 locs ht hvm hw hB hz1 hk1 hS => ?_)
          obtain ⟨hP1, hK1, hD1⟩ := hB
          rw [ht] at hP1
          obtain ⟨w_53, f_54⟩ := hw
          try rw [← w_53] at hM
          obtain ⟨hP, hD⟩ := va_join (wr := cw_Main cI cZ cO amn apl abd alk atr mn lt ++ cw_Board cI cZ cO abd apl bd ++ cw_Locks cI cZ cO alk lk ++ cw_Trial cI cZ cO atr apl atb tr ++ cw_Board cI cZ cO atb apl tb) (w1 := cw_Plan cI cZ cO apl pl) hP hD [2, 3, 4, 5, 6, 7, 8, 9, 10, 11, 12, 13, 14, 15, 16, 17, 18] [0, 1, 19, 20, 21, 22, 23, 24, 25, 26, 27, 28, 29, 30, 31, 32, 33, 34, 35, 36, 37, 38, 39, 40, 41, 42, 43, 44, 45, 46, 47, 48] rfl rfl (by decide) (by decide) hk1 hFc hP1 hD1
          have hP := hP.sub (ws' := cw_Main cI cZ cO amn apl abd alk atr mn lt ++ cw_Plan cI cZ cO apl pl ++ cw_Board cI cZ cO abd apl bd ++ cw_Locks cI cZ cO alk lk ++ cw_Trial cI cZ cO atr apl atb tr ++ cw_Board cI cZ cO atb apl tb) [0, 1, 32, 33, 34, 35, 36, 37, 38, 39, 40, 41, 42, 43, 44, 45, 46, 47, 48, 2, 3, 4, 5, 6, 7, 8, 9, 10, 11, 12, 13, 14, 15, 16, 17, 18, 19, 20, 21, 22, 23, 24, 25, 26, 27, 28, 29, 30, 31] rfl
          have hD := hD.sub (ws' := cw_Main cI cZ cO amn apl abd alk atr mn lt ++ cw_Plan cI cZ cO apl pl ++ cw_Board cI cZ cO abd apl bd ++ cw_Locks cI cZ cO alk lk ++ cw_Trial cI cZ cO atr apl atb tr ++ cw_Board cI cZ cO atb apl tb) [0, 1, 32, 33, 34, 35, 36, 37, 38, 39, 40, 41, 42, 43, 44, 45, 46, 47, 48, 2, 3, 4, 5, 6, 7, 8, 9, 10, 11, 12, 13, 14, 15, 16, 17, 18, 19, 20, 21, 22, 23, 24, 25, 26, 27, 28, 29, 30, 31] (by decide) rfl
          generalize H1 = H at hP hS ⊢
          refine lv_if_ne (tgt := 46) hx hb nd_Main_step_41 (by decide) (fun c_55 => ?_) (fun c_55 => ?_)
          · have c_55t := cr_ne c_55
            rw [if_neg c_55] at hM
            refine lv_iload_n hx hb nd_Main_step_46 rfl (lv_at hl 3 rfl) ?_
            refine lv_if_lt (tgt := 74) hx hb nd_Main_step_47 (by decide) (fun c_56 => ?_) (fun c_56 => ?_)
            · have c_56t := cr_lt c_56
              rw [if_pos c_56] at hM
              refine lv_bipush (v := -2) hx hb nd_Main_step_74 (by decide) ?_
              exact W.iret (v := (-2 : Int32)) hx hb hr (fun t ht hW => ⟨⟨(-2 : Int32), (mn, lt, bd), rfl, ⟨by rw [hT, ← hM], by rw [hT, ← hM], by rw [hT, ← hM], by rw [hT, ← hM], hR_bd⟩, by rw [ht]; exact hP, va_K.moved hW.alike hK, hD⟩, hS.F ht⟩) hS.2.2 nd_Main_step_76
            · have c_56t := cr_nlt c_56
              rw [if_neg c_56] at hM
              refine lv_iload_n hx hb nd_Main_step_50 rfl (lv_at hl 3 rfl) ?_
              refine lv_iconst (v := 5) hx hb nd_Main_step_51 (by decide) ?_
              refine lv_icmp_gt (tgt := 74) hx hb nd_Main_step_52 (by decide) (fun c_57 => ?_) (fun c_57 => ?_)
              · have c_57t := cr_lt c_57
                rw [if_pos c_57] at hM
                refine lv_bipush (v := -2) hx hb nd_Main_step_74 (by decide) ?_
                exact W.iret (v := (-2 : Int32)) hx hb hr (fun t ht hW => ⟨⟨(-2 : Int32), (mn, lt, bd), rfl, ⟨by rw [hT, ← hM], by rw [hT, ← hM], by rw [hT, ← hM], by rw [hT, ← hM], hR_bd⟩, by rw [ht]; exact hP, va_K.moved hW.alike hK, hD⟩, hS.F ht⟩) hS.2.2 nd_Main_step_76
              · have c_57t := cr_nlt c_57
                rw [if_neg c_57] at hM
                refine lv_lload hx hb nd_Main_step_55 (lv_at hl 5 rfl) ?_
                refine lv_aload_n hx hb nd_Main_step_57 rfl (lv_at hl 1 rfl) ?_
                refine va_get (D := (dC, dI)) (ci := 4) (v := .long lt) (C := "CeilingRows") (T := nf_Main) (N := 6) hx hb hts nin_Main hown hK hP 0 rfl rfl 5 (by decide) (hts _ tw_143) (fun _ h9 => h9) rfl nd_Main_step_58 ?_
                refine W.lcmp hx hb nd_Main_step_61 ?_
                refine lv_if_lt (tgt := 74) hx hb nd_Main_step_62 (by decide) (fun c_58 => ?_) (fun c_58 => ?_)
                · have c_58t := cr_lt c_58
                  rw [if_pos c_58] at hM
                  refine lv_bipush (v := -2) hx hb nd_Main_step_74 (by decide) ?_
                  exact W.iret (v := (-2 : Int32)) hx hb hr (fun t ht hW => ⟨⟨(-2 : Int32), (mn, lt, bd), rfl, ⟨by rw [hT, ← hM], by rw [hT, ← hM], by rw [hT, ← hM], by rw [hT, ← hM], hR_bd⟩, by rw [ht]; exact hP, va_K.moved hW.alike hK, hD⟩, hS.F ht⟩) hS.2.2 nd_Main_step_76
                · have c_58t := cr_nlt c_58
                  rw [if_neg c_58] at hM
                  refine lv_lload hx hb nd_Main_step_65 (lv_at hl 5 rfl) ?_
                  refine lv_ldc2 (v := 1000000000) hx hb hown (hts _ tw_217) nd_Main_step_67 ?_
                  refine W.lcmp hx hb nd_Main_step_70 ?_
                  refine lv_if_le (tgt := 77) hx hb nd_Main_step_71 (by decide) (fun c_59 => ?_) (fun c_59 => ?_)
                  · have c_59t := cr_le c_59
                    rw [if_pos c_59] at hM
                    refine lv_aload_n hx hb nd_Main_step_77 rfl (lv_at hl 1 rfl) ?_
                    refine lv_iload_n hx hb nd_Main_step_78 rfl (lv_at hl 2 rfl) ?_
                    refine lv_iload_n hx hb nd_Main_step_79 rfl (lv_at hl 3 rfl) ?_
                    refine lv_iload_n hx hb nd_Main_step_80 rfl (lv_at hl 4 rfl) ?_
                    have hPc := hP
                    have hDc := hD
                    have hFc := va_free (wc := cw_Main cI cZ cO amn apl abd alk atr mn lt ++ cw_Plan cI cZ cO apl pl ++ cw_Board cI cZ cO abd apl bd ++ cw_Locks cI cZ cO alk lk ++ cw_Trial cI cZ cO atr apl atb tr ++ cw_Board cI cZ cO atb apl tb) hD hS hA [0, 1, 2, 3, 4, 5, 6, 7, 8, 9, 10, 11, 12, 13, 14, 15, 16, 17, 18, 19, 20, 21, 22, 23, 24, 25, 26, 27, 28, 29, 30, 31, 32, 33, 34, 35, 36, 37, 38, 39, 40, 41, 42, 43, 44, 45, 46, 47, 48] rfl
                    refine va_calli (va_runV (As := [.int x1, .int x2, .int x3]) (rest := []) ⟨hx, hb, hml, hown, hts⟩ (ct_Main_perform l dC dI cI cZ cO amn apl abd alk atr atb H.size mn lt pl bd lk tr tb x1 x2 x3 hR_tb hR_lk hR_bd hR_pl (by omega) (by omega) (by omega)) (cwV 3 hts (ng_V tw_218 tw_220 tp_0 tw_1 tw_221) rfl rfl rfl (by decide +kernel) ⟨Nat.le_of_ble_eq_true rfl, Nat.le_of_ble_eq_true rfl⟩) ⟨fun a U g mk q => by obtain ⟨q0, q1, qP, qK, qD⟩ := q; exact ⟨q0, q1, qP, va_K.moved (u := U) (U := U.calling g mk a) (Vm.Alike.refl U.vm) qK, qD⟩, va_recv hK hPc (ci := 4) (q0 := 0) rfl rfl, fun U hU hW => ⟨rfl, by rw [hU], by rw [hU]; exact hPc, va_K.moved hW.alike hK, hDc.weaken (fun _ _ _ _ => trivial)⟩⟩ rfl rfl hl.1 rfl (lv_room (Nat.le_of_ble_eq_true rfl)) nd_Main_step_81 ⟨Nat.zero_le _, Nat.zero_le _⟩) hS (fun q _ h => hFc q h) hFc (fun r_60 u t H1 locs ht hvm hw hB hz1 hk1 hS => ?_)
                    obtain ⟨hP1, hK1, hD1⟩ := hB
                    rw [ht] at hP1
                    obtain ⟨mnq_62, ltq_64, bdq_66⟩ := u
                    dsimp only at hw hP1 hD1
                    obtain ⟨w_61, w_63, w_65, w_67, hR_68⟩ := hw
                    try rw [← w_61] at hM
                    try rw [← w_63] at hM
                    try rw [← w_65] at hM
                    try rw [← w_67] at hM
                    have hP := hP1
                    have hD := cr_Dw hD1 hFc
                    generalize H1 = H at hP hS ⊢
                    refine lv_istore (lv' := [(7, .int r_60), (6, .int (1 : Int32)), (0, .ref (amn 0)), (1, .int x1), (2, .int x2), (3, .int x3), (4, .long x4)]) hx hb nd_Main_step_84 hl (by decide) rfl (fun ls hl => ?_)
                    refine lv_iload hx hb nd_Main_step_86 (lv_at hl 0 rfl) ?_
                    refine lv_if_ge (tgt := 98) hx hb nd_Main_step_88 (by decide) (fun c_69 => ?_) (fun c_69 => ?_)
                    · have c_69t := cr_le c_69
                      rw [if_pos c_69] at hM
                      refine lv_aload_n hx hb nd_Main_step_98 rfl (lv_at hl 2 rfl) ?_
                      refine lv_lload hx hb nd_Main_step_99 (lv_at hl 6 rfl) ?_
                      refine va_put (D := (dC, dI)) (ci := 4) (v := .long x4) (ty := .long) (C := "CeilingRows") (T := nf_Main) (N := 6) hx hb hts nin_Main nt_Main nto_Main nno_Main hown hK hP hD hS 0 rfl rfl 5 (by decide) (hts _ tw_143) (fun _ h9 => h9) rfl (by decide +kernel) rfl rfl (Nat.le_of_ble_eq_true rfl) nd_Main_step_101 (fun H locs hP hD hS => ?_)
                      have hP : va_P (dC, dI) vwCl (cw_Main cI cZ cO amn apl abd alk atr mnq_62 x4 ++ cw_Plan cI cZ cO apl pl ++ cw_Board cI cZ cO abd apl bdq_66 ++ cw_Locks cI cZ cO alk lk ++ cw_Trial cI cZ cO atr apl atb tr ++ cw_Board cI cZ cO atb apl tb) H := hP
                      have hD : va_D A (cw_Main cI cZ cO amn apl abd alk atr mnq_62 x4 ++ cw_Plan cI cZ cO apl pl ++ cw_Board cI cZ cO abd apl bdq_66 ++ cw_Locks cI cZ cO alk lk ++ cw_Trial cI cZ cO atr apl atb tr ++ cw_Board cI cZ cO atb apl tb) := hD
                      refine lv_iload hx hb nd_Main_step_104 (lv_at hl 0 rfl) ?_
                      exact W.iret (v := r_60) hx hb hr (fun t ht hW => ⟨⟨r_60, (mnq_62, x4, bdq_66), rfl, ⟨by rw [hT, ← hM], by rw [hT, ← hM], by rw [hT, ← hM], by rw [hT, ← hM], hR_68⟩, by rw [ht]; exact hP, va_K.moved hW.alike hK, hD⟩, hS.F ht⟩) hS.2.2 nd_Main_step_106
                    · have c_69t := cr_nle c_69
                      rw [if_neg c_69] at hM
                      refine lv_iload hx hb nd_Main_step_91 (lv_at hl 0 rfl) ?_
                      refine lv_bipush (v := -14) hx hb nd_Main_step_93 (by decide) ?_
                      refine lv_icmp_ne (tgt := 104) hx hb nd_Main_step_95 (by decide) (fun c_70 => ?_) (fun c_70 => ?_)
                      · have c_70t := cr_ne c_70
                        rw [if_neg c_70] at hM
                        refine lv_iload hx hb nd_Main_step_104 (lv_at hl 0 rfl) ?_
                        exact W.iret (v := r_60) hx hb hr (fun t ht hW => ⟨⟨r_60, (mnq_62, ltq_64, bdq_66), rfl, ⟨by rw [hT, ← hM], by rw [hT, ← hM], by rw [hT, ← hM], by rw [hT, ← hM], hR_68⟩, by rw [ht]; exact hP, va_K.moved hW.alike hK, hD⟩, hS.F ht⟩) hS.2.2 nd_Main_step_106
                      · have c_70t := cr_eq c_70
                        rw [if_pos c_70] at hM
                        refine lv_aload_n hx hb nd_Main_step_98 rfl (lv_at hl 2 rfl) ?_
                        refine lv_lload hx hb nd_Main_step_99 (lv_at hl 6 rfl) ?_
                        refine va_put (D := (dC, dI)) (ci := 4) (v := .long x4) (ty := .long) (C := "CeilingRows") (T := nf_Main) (N := 6) hx hb hts nin_Main nt_Main nto_Main nno_Main hown hK hP hD hS 0 rfl rfl 5 (by decide) (hts _ tw_143) (fun _ h9 => h9) rfl (by decide +kernel) rfl rfl (Nat.le_of_ble_eq_true rfl) nd_Main_step_101 (fun H locs hP hD hS => ?_)
                        have hP : va_P (dC, dI) vwCl (cw_Main cI cZ cO amn apl abd alk atr mnq_62 x4 ++ cw_Plan cI cZ cO apl pl ++ cw_Board cI cZ cO abd apl bdq_66 ++ cw_Locks cI cZ cO alk lk ++ cw_Trial cI cZ cO atr apl atb tr ++ cw_Board cI cZ cO atb apl tb) H := hP
                        have hD : va_D A (cw_Main cI cZ cO amn apl abd alk atr mnq_62 x4 ++ cw_Plan cI cZ cO apl pl ++ cw_Board cI cZ cO abd apl bdq_66 ++ cw_Locks cI cZ cO alk lk ++ cw_Trial cI cZ cO atr apl atb tr ++ cw_Board cI cZ cO atb apl tb) := hD
                        refine lv_iload hx hb nd_Main_step_104 (lv_at hl 0 rfl) ?_
                        exact W.iret (v := r_60) hx hb hr (fun t ht hW => ⟨⟨r_60, (mnq_62, x4, bdq_66), rfl, ⟨by rw [hT, ← hM], by rw [hT, ← hM], by rw [hT, ← hM], by rw [hT, ← hM], hR_68⟩, by rw [ht]; exact hP, va_K.moved hW.alike hK, hD⟩, hS.F ht⟩) hS.2.2 nd_Main_step_106
                  · have c_59t := cr_nle c_59
                    rw [if_neg c_59] at hM
                    refine lv_bipush (v := -2) hx hb nd_Main_step_74 (by decide) ?_
                    exact W.iret (v := (-2 : Int32)) hx hb hr (fun t ht hW => ⟨⟨(-2 : Int32), (mn, lt, bd), rfl, ⟨by rw [hT, ← hM], by rw [hT, ← hM], by rw [hT, ← hM], by rw [hT, ← hM], hR_bd⟩, by rw [ht]; exact hP, va_K.moved hW.alike hK, hD⟩, hS.F ht⟩) hS.2.2 nd_Main_step_76
          · have c_55t := cr_eq c_55
            rw [if_pos c_55] at hM
            refine lv_iconst (v := -1) hx hb nd_Main_step_44 (by decide) ?_
            exact W.iret (v := (-1 : Int32)) hx hb hr (fun t ht hW => ⟨⟨(-1 : Int32), (mn, lt, bd), rfl, ⟨by rw [hT, ← hM], by rw [hT, ← hM], by rw [hT, ← hM], by rw [hT, ← hM], hR_bd⟩, by rw [ht]; exact hP, va_K.moved hW.alike hK, hD⟩, hS.F ht⟩) hS.2.2 nd_Main_step_45
