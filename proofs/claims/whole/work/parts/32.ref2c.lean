theorem nd_Ref_step_0 : decode prog_7_method_15_code 0 = .ok (.aload_n 0, 1) := by decide +kernel
theorem nd_Ref_step_1 : decode prog_7_method_15_code 1 = .ok (.iload_n 1, 1) := by decide +kernel
theorem nd_Ref_step_2 : decode prog_7_method_15_code 2 = .ok (.invokevirtual 70, 3) := by decide +kernel
theorem nd_Ref_step_5 : decode prog_7_method_15_code 5 = .ok (.ifCond .eq (21), 3) := by decide +kernel
theorem nd_Ref_step_8 : decode prog_7_method_15_code 8 = .ok (.iload_n 2, 1) := by decide +kernel
theorem nd_Ref_step_9 : decode prog_7_method_15_code 9 = .ok (.iconst 1, 1) := by decide +kernel
theorem nd_Ref_step_10 : decode prog_7_method_15_code 10 = .ok (.if_icmp .eq (8), 3) := by decide +kernel
theorem nd_Ref_step_13 : decode prog_7_method_15_code 13 = .ok (.iload_n 2, 1) := by decide +kernel
theorem nd_Ref_step_14 : decode prog_7_method_15_code 14 = .ok (.iconst 2, 1) := by decide +kernel
theorem nd_Ref_step_15 : decode prog_7_method_15_code 15 = .ok (.if_icmp .ne (13), 3) := by decide +kernel
theorem nd_Ref_step_18 : decode prog_7_method_15_code 18 = .ok (.aload_n 0, 1) := by decide +kernel
theorem nd_Ref_step_19 : decode prog_7_method_15_code 19 = .ok (.iload_n 3, 1) := by decide +kernel
theorem nd_Ref_step_20 : decode prog_7_method_15_code 20 = .ok (.invokevirtual 74, 3) := by decide +kernel
theorem nd_Ref_step_23 : decode prog_7_method_15_code 23 = .ok (.ifCond .ne (5), 3) := by decide +kernel
theorem nd_Ref_step_26 : decode prog_7_method_15_code 26 = .ok (.iconst (-1), 1) := by decide +kernel
theorem nd_Ref_step_27 : decode prog_7_method_15_code 27 = .ok (.ireturn, 1) := by decide +kernel
theorem nd_Ref_step_28 : decode prog_7_method_15_code 28 = .ok (.iload_n 2, 1) := by decide +kernel
theorem nd_Ref_step_29 : decode prog_7_method_15_code 29 = .ok (.ifCond .lt (34), 3) := by decide +kernel
theorem nd_Ref_step_32 : decode prog_7_method_15_code 32 = .ok (.iload_n 2, 1) := by decide +kernel
theorem nd_Ref_step_33 : decode prog_7_method_15_code 33 = .ok (.iconst 5, 1) := by decide +kernel
theorem nd_Ref_step_34 : decode prog_7_method_15_code 34 = .ok (.if_icmp .gt (29), 3) := by decide +kernel
theorem nd_Ref_step_37 : decode prog_7_method_15_code 37 = .ok (.lload 4, 2) := by decide +kernel
theorem nd_Ref_step_39 : decode prog_7_method_15_code 39 = .ok (.aload_n 0, 1) := by decide +kernel
theorem nd_Ref_step_40 : decode prog_7_method_15_code 40 = .ok (.getfield 102, 3) := by decide +kernel
theorem nd_Ref_step_43 : decode prog_7_method_15_code 43 = .ok (.lcmp, 1) := by decide +kernel
theorem nd_Ref_step_44 : decode prog_7_method_15_code 44 = .ok (.ifCond .lt (19), 3) := by decide +kernel
theorem nd_Ref_step_47 : decode prog_7_method_15_code 47 = .ok (.lload 4, 2) := by decide +kernel
theorem nd_Ref_step_49 : decode prog_7_method_15_code 49 = .ok (.lconst 0, 1) := by decide +kernel
theorem nd_Ref_step_50 : decode prog_7_method_15_code 50 = .ok (.lcmp, 1) := by decide +kernel
theorem nd_Ref_step_51 : decode prog_7_method_15_code 51 = .ok (.ifCond .lt (12), 3) := by decide +kernel
theorem nd_Ref_step_54 : decode prog_7_method_15_code 54 = .ok (.lload 4, 2) := by decide +kernel
theorem nd_Ref_step_56 : decode prog_7_method_15_code 56 = .ok (.ldc2_w 106, 3) := by decide +kernel
theorem nd_Ref_step_59 : decode prog_7_method_15_code 59 = .ok (.lcmp, 1) := by decide +kernel
theorem nd_Ref_step_60 : decode prog_7_method_15_code 60 = .ok (.ifCond .le (6), 3) := by decide +kernel
theorem nd_Ref_step_63 : decode prog_7_method_15_code 63 = .ok (.bipush (-2), 2) := by decide +kernel
theorem nd_Ref_step_65 : decode prog_7_method_15_code 65 = .ok (.ireturn, 1) := by decide +kernel
theorem nd_Ref_step_66 : decode prog_7_method_15_code 66 = .ok (.aload_n 0, 1) := by decide +kernel
theorem nd_Ref_step_67 : decode prog_7_method_15_code 67 = .ok (.iload_n 1, 1) := by decide +kernel
theorem nd_Ref_step_68 : decode prog_7_method_15_code 68 = .ok (.iload_n 2, 1) := by decide +kernel
theorem nd_Ref_step_69 : decode prog_7_method_15_code 69 = .ok (.iload_n 3, 1) := by decide +kernel
theorem nd_Ref_step_70 : decode prog_7_method_15_code 70 = .ok (.invokevirtual 108, 3) := by decide +kernel
theorem nd_Ref_step_73 : decode prog_7_method_15_code 73 = .ok (.istore 6, 2) := by decide +kernel
theorem nd_Ref_step_75 : decode prog_7_method_15_code 75 = .ok (.iload 6, 2) := by decide +kernel
theorem nd_Ref_step_77 : decode prog_7_method_15_code 77 = .ok (.ifCond .ge (10), 3) := by decide +kernel
theorem nd_Ref_step_80 : decode prog_7_method_15_code 80 = .ok (.iload 6, 2) := by decide +kernel
theorem nd_Ref_step_82 : decode prog_7_method_15_code 82 = .ok (.bipush (-14), 2) := by decide +kernel
theorem nd_Ref_step_84 : decode prog_7_method_15_code 84 = .ok (.if_icmp .ne (9), 3) := by decide +kernel
theorem nd_Ref_step_87 : decode prog_7_method_15_code 87 = .ok (.aload_n 0, 1) := by decide +kernel
theorem nd_Ref_step_88 : decode prog_7_method_15_code 88 = .ok (.lload 4, 2) := by decide +kernel
theorem nd_Ref_step_90 : decode prog_7_method_15_code 90 = .ok (.putfield 102, 3) := by decide +kernel
theorem nd_Ref_step_93 : decode prog_7_method_15_code 93 = .ok (.iload 6, 2) := by decide +kernel
theorem nd_Ref_step_95 : decode prog_7_method_15_code 95 = .ok (.ireturn, 1) := by decide +kernel
abbrev pq_Ref_step (dC : Nat → ClassId) (dI : Nat → Nat → Nat) (cI cZ cJ : ClassId) (arf : Nat → Nat) (rf : cr_S) (lat : Int64) (ln : (Nat → Int64)) (x1 : Int32) (x2 : Int32) (x3 : Int32) (x4 : Int64) (A : Nat → Prop) : Array Value → State → Outcome → State → Prop :=
  va_Qi (fun (r : Int32) (u : cr_S × Int64) => r = (md_Ref_step rf lat ln x1 x2 x3 x4).1 ∧ u.1 = (md_Ref_step rf lat ln x1 x2 x3 x4).2.1 ∧ u.2 = (md_Ref_step rf lat ln x1 x2 x3 x4).2.2 ∧ cr_RRef u.1) (fun (u : cr_S × Int64) t => va_P (dC, dI) vwCl (cw_Ref cI cZ cJ arf u.1 u.2 ln) t.heap ∧ va_K (dC, dI) vwCl [(cI, .int), (cZ, .boolean), (cJ, .long)] t ∧ va_D A (cw_Ref cI cZ cJ arf u.1 u.2 ln)) A
set_option maxHeartbeats 4000000 in
set_option maxRecDepth 100000 in
theorem ct_Ref_step (l : Launch) (dC : Nat → ClassId) (dI : Nat → Nat → Nat) (cI cZ cJ : ClassId) (arf : Nat → Nat) (sz : Nat) (rf : cr_S) (lat : Int64) (ln : (Nat → Int64)) (x1 : Int32) (x2 : Int32) (x3 : Int32) (x4 : Int64) (hR_rf : cr_RRef rf) : Met l ny_Ref_step nw_Ref_step ({ frames := 5, cells := 0, slots := 0, locals := 116 } : Room) (va_Pc [.ref (arf 0), .int x1, .int x2, .int x3, .long x4] (fun U => U.heap.size = sz ∧ va_P (dC, dI) vwCl (cw_Ref cI cZ cJ arf rf lat ln) U.heap ∧ va_K (dC, dI) vwCl [(cI, .int), (cZ, .boolean), (cJ, .long)] U ∧ va_D (fun _ => True) (cw_Ref cI cZ cJ arf rf lat ln))) (pq_Ref_step dC dI cI cZ cJ arf rf lat ln x1 x2 x3 x4 (va_A (cw_Ref cI cZ cJ arf rf lat ln) sz)) 0 0 (va_A (cw_Ref cI cZ cJ arf rf lat ln) sz) := by
  refine Met.ofW (cc := prog_7_method_15_code) (maxL := 7) (ret := (some .int)) (by decide) rfl ?_
  intro p e s m args below meth c s₁ B hml hv
  obtain ⟨rfl, hsz, hP, hK, hD0⟩ := hv
  have hx := B.exec
  have hb := B.bytes
  have hr := B.returns
  have hts0 := atoms_spec (ws := nw_Ref_step) B.pre
  have hts : ∀ w ∈ ng_tbl, w.before ([.ref (arf 0), .int x1, .int x2, .int x3, .long x4] : List Value).toArray s = true := fun w h => hts0 w (List.mem_cons_of_mem _ h)
  have hown : s.vm.findClass "CeilingRowsModel" = some m.cls := findClass_of_methodNamed B.named
  have hlocks := B.notSynchronized
  subst hsz
  have hD := hD0.self (sz := s.heap.size)
  generalize hAe : va_A (cw_Ref cI cZ cJ arf rf lat ln) s.heap.size = A at hD ⊢
  have hA : ∀ q : Nat, s.heap.size ≤ q → A q := fun q h => by rw [← hAe]; exact Or.inr h
  have hS : va_S A s.heap s.heap [] := va_S.rf
  have hP : va_P (dC, dI) vwCl (cw_Ref cI cZ cJ arf rf lat ln) s.heap := hP
  have hl := lv_entry ([.ref (arf 0), .int x1, .int x2, .int x3, .long x4]) (n := 7) (Nat.le_of_ble_eq_true rfl)
  rw [lg_entry_eq]
  generalize (lg_sl ([.ref (arf 0), .int x1, .int x2, .int x3, .long x4]) ++ List.replicate (7 - (lg_sl ([.ref (arf 0), .int x1, .int x2, .int x3, .long x4])).length) Slot.unset).toArray = ls at hl ⊢
  have hl : lv_has ls 7 [(0, .ref (arf 0)), (1, .int x1), (2, .int x2), (3, .int x3), (4, .long x4)] := hl
  have f0_rf_0 := cr_rfo hR_rf.1
  have f0_rf_1 := cr_rfo hR_rf.2.1
  have k_m14 : (-14 : Int32).toInt = -14 := by decide
  have k_m2 : (-2 : Int32).toInt = -2 := by decide
  have k_m1 : (-1 : Int32).toInt = -1 := by decide
  have k_0 : (0 : Int32).toInt = 0 := by decide
  have k_1 : (1 : Int32).toInt = 1 := by decide
  have k_2 : (2 : Int32).toInt = 2 := by decide
  have k_5 : (5 : Int32).toInt = 5 := by decide
  obtain ⟨tgt, hT⟩ : ∃ z, md_Ref_step rf lat ln x1 x2 x3 x4 = z := ⟨_, rfl⟩
  have hM := hT
  unfold md_Ref_step at hM
  refine lv_aload_n hx hb nd_Ref_step_0 rfl (lv_at hl 0 rfl) ?_
  refine lv_iload_n hx hb nd_Ref_step_1 rfl (lv_at hl 1 rfl) ?_
  have hPc := hP
  have hDc := hD
  have hFc := va_free (wc := cw_Ref cI cZ cJ arf rf lat ln) hD hS hA [0, 1, 2, 3, 4, 5, 6, 7, 8, 9, 10, 11, 12, 13, 14, 15, 16, 17] rfl
  refine va_calli (va_runV (As := [.int x1]) (rest := []) ⟨hx, hb, hml, hown, hts⟩ (ct_Ref_isTask l dC dI cI cZ cJ arf s.heap.size rf lat ln x1 hR_rf) (cwV 1 hts (ng_V tw_493 tw_495 tp_18 tw_6 tw_496) rfl rfl rfl (by decide +kernel) ⟨Nat.le_of_ble_eq_true rfl, Nat.le_of_ble_eq_true rfl⟩) ⟨fun a U g mk q => by obtain ⟨q0, q1, qP, qK, qD⟩ := q; exact ⟨q0, q1, qP, va_K.moved (u := U) (U := U.calling g mk a) (Vm.Alike.refl U.vm) qK, qD⟩, va_recv hK hPc (ci := 5) (q0 := 0) rfl rfl, fun U hU hW => ⟨rfl, by rw [hU], by rw [hU]; exact hPc, va_K.moved hW.alike hK, hDc.weaken (fun _ _ _ _ => trivial)⟩⟩ rfl rfl hl.1 rfl (lv_room (Nat.le_of_ble_eq_true rfl)) nd_Ref_step_2 ⟨Nat.zero_le _, Nat.zero_le _⟩) hS (fun q _ h => hFc q h) hFc (fun r_1 u t H1 locs ht hvm hw hB hz1 hk1 hS => ?_)
  obtain ⟨hP1, hK1, hD1⟩ := hB
  rw [ht] at hP1
  obtain ⟨w_2, f_3⟩ := hw
  try rw [← w_2] at hM
  have hP := hP1
  have hD := cr_Dw hD1 hFc
  generalize H1 = H at hP hS ⊢
  refine lv_if_eq (tgt := 26) hx hb nd_Ref_step_5 (by decide) (fun c_4 => ?_) (fun c_4 => ?_)
  · have c_4t := cr_eq c_4
    rw [if_pos c_4] at hM
    refine lv_iconst (v := -1) hx hb nd_Ref_step_26 (by decide) ?_
    exact W.iret (v := (-1 : Int32)) hx hb hr (fun t ht hW => ⟨⟨(-1 : Int32), (rf, lat), rfl, ⟨by rw [hT, ← hM], by rw [hT, ← hM], by rw [hT, ← hM], hR_rf⟩, by rw [ht]; exact hP, va_K.moved hW.alike hK, hD⟩, hS.F ht⟩) hS.2.2 nd_Ref_step_27
  · have c_4t := cr_ne c_4
    rw [if_neg c_4] at hM
    refine lv_iload_n hx hb nd_Ref_step_8 rfl (lv_at hl 2 rfl) ?_
    refine lv_iconst (v := 1) hx hb nd_Ref_step_9 (by decide) ?_
    refine lv_icmp_eq (tgt := 18) hx hb nd_Ref_step_10 (by decide) (fun c_5 => ?_) (fun c_5 => ?_)
    · have c_5t := cr_eq c_5
      rw [if_pos c_5] at hM
      refine lv_aload_n hx hb nd_Ref_step_18 rfl (lv_at hl 0 rfl) ?_
      refine lv_iload_n hx hb nd_Ref_step_19 rfl (lv_at hl 3 rfl) ?_
      have hPc := hP
      have hDc := hD
      have hFc := va_free (wc := cw_Ref cI cZ cJ arf rf lat ln) hD hS hA [0, 1, 2, 3, 4, 5, 6, 7, 8, 9, 10, 11, 12, 13, 14, 15, 16, 17] rfl
      refine va_calli (va_runV (As := [.int x3]) (rest := []) ⟨hx, hb, hml, hown, hts⟩ (ct_Ref_isResource l dC dI cI cZ cJ arf H.size rf lat ln x3 hR_rf) (cwV 1 hts (ng_V tw_497 tw_499 tp_19 tw_6 tw_500) rfl rfl rfl (by decide +kernel) ⟨Nat.le_of_ble_eq_true rfl, Nat.le_of_ble_eq_true rfl⟩) ⟨fun a U g mk q => by obtain ⟨q0, q1, qP, qK, qD⟩ := q; exact ⟨q0, q1, qP, va_K.moved (u := U) (U := U.calling g mk a) (Vm.Alike.refl U.vm) qK, qD⟩, va_recv hK hPc (ci := 5) (q0 := 0) rfl rfl, fun U hU hW => ⟨rfl, by rw [hU], by rw [hU]; exact hPc, va_K.moved hW.alike hK, hDc.weaken (fun _ _ _ _ => trivial)⟩⟩ rfl rfl hl.1 rfl (lv_room (Nat.le_of_ble_eq_true rfl)) nd_Ref_step_20 ⟨Nat.zero_le _, Nat.zero_le _⟩) hS (fun q _ h => hFc q h) hFc (fun r_6 u t H1 locs ht hvm hw hB hz1 hk1 hS => ?_)
      obtain ⟨hP1, hK1, hD1⟩ := hB
      rw [ht] at hP1
      obtain ⟨w_7, f_8⟩ := hw
      try rw [← w_7] at hM
      have hP := hP1
      have hD := cr_Dw hD1 hFc
      generalize H1 = H at hP hS ⊢
      refine lv_if_ne (tgt := 28) hx hb nd_Ref_step_23 (by decide) (fun c_9 => ?_) (fun c_9 => ?_)
      · have c_9t := cr_ne c_9
        rw [if_neg c_9] at hM
        refine lv_iload_n hx hb nd_Ref_step_28 rfl (lv_at hl 2 rfl) ?_
        refine lv_if_lt (tgt := 63) hx hb nd_Ref_step_29 (by decide) (fun c_10 => ?_) (fun c_10 => ?_)
        · have c_10t := cr_lt c_10
          rw [if_pos c_10] at hM
          refine lv_bipush (v := -2) hx hb nd_Ref_step_63 (by decide) ?_
          exact W.iret (v := (-2 : Int32)) hx hb hr (fun t ht hW => ⟨⟨(-2 : Int32), (rf, lat), rfl, ⟨by rw [hT, ← hM], by rw [hT, ← hM], by rw [hT, ← hM], hR_rf⟩, by rw [ht]; exact hP, va_K.moved hW.alike hK, hD⟩, hS.F ht⟩) hS.2.2 nd_Ref_step_65
        · have c_10t := cr_nlt c_10
          rw [if_neg c_10] at hM
          refine lv_iload_n hx hb nd_Ref_step_32 rfl (lv_at hl 2 rfl) ?_
          refine lv_iconst (v := 5) hx hb nd_Ref_step_33 (by decide) ?_
          refine lv_icmp_gt (tgt := 63) hx hb nd_Ref_step_34 (by decide) (fun c_11 => ?_) (fun c_11 => ?_)
          · have c_11t := cr_lt c_11
            rw [if_pos c_11] at hM
            refine lv_bipush (v := -2) hx hb nd_Ref_step_63 (by decide) ?_
            exact W.iret (v := (-2 : Int32)) hx hb hr (fun t ht hW => ⟨⟨(-2 : Int32), (rf, lat), rfl, ⟨by rw [hT, ← hM], by rw [hT, ← hM], by rw [hT, ← hM], hR_rf⟩, by rw [ht]; exact hP, va_K.moved hW.alike hK, hD⟩, hS.F ht⟩) hS.2.2 nd_Ref_step_65
          · have c_11t := cr_nlt c_11
            rw [if_neg c_11] at hM
            refine lv_lload hx hb nd_Ref_step_37 (lv_at hl 4 rfl) ?_
            refine lv_aload_n hx hb nd_Ref_step_39 rfl (lv_at hl 0 rfl) ?_
            refine va_get (D := (dC, dI)) (ci := 5) (v := .long lat) (C := "CeilingRowsModel") (T := nf_Ref) (N := 22) hx hb hts nin_Ref hown hK hP 0 rfl rfl 11 (by decide) (hts _ tw_424) (fun _ h9 => h9) rfl nd_Ref_step_40 ?_
            refine W.lcmp hx hb nd_Ref_step_43 ?_
            refine lv_if_lt (tgt := 63) hx hb nd_Ref_step_44 (by decide) (fun c_12 => ?_) (fun c_12 => ?_)
            · have c_12t := cr_lt c_12
              rw [if_pos c_12] at hM
              refine lv_bipush (v := -2) hx hb nd_Ref_step_63 (by decide) ?_
              exact W.iret (v := (-2 : Int32)) hx hb hr (fun t ht hW => ⟨⟨(-2 : Int32), (rf, lat), rfl, ⟨by rw [hT, ← hM], by rw [hT, ← hM], by rw [hT, ← hM], hR_rf⟩, by rw [ht]; exact hP, va_K.moved hW.alike hK, hD⟩, hS.F ht⟩) hS.2.2 nd_Ref_step_65
            · have c_12t := cr_nlt c_12
              rw [if_neg c_12] at hM
              refine lv_lload hx hb nd_Ref_step_47 (lv_at hl 4 rfl) ?_
              refine lv_lconst (v := 0) hx hb nd_Ref_step_49 (by decide) ?_
              refine W.lcmp hx hb nd_Ref_step_50 ?_
              refine lv_if_lt (tgt := 63) hx hb nd_Ref_step_51 (by decide) (fun c_13 => ?_) (fun c_13 => ?_)
              · have c_13t := cr_lt c_13
                rw [if_pos c_13] at hM
                refine lv_bipush (v := -2) hx hb nd_Ref_step_63 (by decide) ?_
                exact W.iret (v := (-2 : Int32)) hx hb hr (fun t ht hW => ⟨⟨(-2 : Int32), (rf, lat), rfl, ⟨by rw [hT, ← hM], by rw [hT, ← hM], by rw [hT, ← hM], hR_rf⟩, by rw [ht]; exact hP, va_K.moved hW.alike hK, hD⟩, hS.F ht⟩) hS.2.2 nd_Ref_step_65
              · have c_13t := cr_nlt c_13
                rw [if_neg c_13] at hM
                refine lv_lload hx hb nd_Ref_step_54 (lv_at hl 4 rfl) ?_
                refine lv_ldc2 (v := 1000000000) hx hb hown (hts _ tw_514) nd_Ref_step_56 ?_
                refine W.lcmp hx hb nd_Ref_step_59 ?_
                refine lv_if_le (tgt := 66) hx hb nd_Ref_step_60 (by decide) (fun c_14 => ?_) (fun c_14 => ?_)
                · have c_14t := cr_le c_14
                  rw [if_pos c_14] at hM
                  refine lv_aload_n hx hb nd_Ref_step_66 rfl (lv_at hl 0 rfl) ?_
                  refine lv_iload_n hx hb nd_Ref_step_67 rfl (lv_at hl 1 rfl) ?_
                  refine lv_iload_n hx hb nd_Ref_step_68 rfl (lv_at hl 2 rfl) ?_
                  refine lv_iload_n hx hb nd_Ref_step_69 rfl (lv_at hl 3 rfl) ?_
                  have hPc := hP
                  have hDc := hD
                  have hFc := va_free (wc := cw_Ref cI cZ cJ arf rf lat ln) hD hS hA [0, 1, 2, 3, 4, 5, 6, 7, 8, 9, 10, 11, 12, 13, 14, 15, 16, 17] rfl
                  refine va_calli (va_runV (As := [.int x1, .int x2, .int x3]) (rest := []) ⟨hx, hb, hml, hown, hts⟩ (ct_Ref_acts l dC dI cI cZ cJ arf H.size rf lat ln x1 x2 x3 hR_rf (by omega) (by omega)) (cwV 3 hts (ng_V tw_515 tw_517 tp_21 tw_6 tw_518) rfl rfl rfl (by decide +kernel) ⟨Nat.le_of_ble_eq_true rfl, Nat.le_of_ble_eq_true rfl⟩) ⟨fun a U g mk q => by obtain ⟨q0, q1, qP, qK, qD⟩ := q; exact ⟨q0, q1, qP, va_K.moved (u := U) (U := U.calling g mk a) (Vm.Alike.refl U.vm) qK, qD⟩, va_recv hK hPc (ci := 5) (q0 := 0) rfl rfl, fun U hU hW => ⟨rfl, by rw [hU], by rw [hU]; exact hPc, va_K.moved hW.alike hK, hDc.weaken (fun _ _ _ _ => trivial)⟩⟩ rfl rfl hl.1 rfl (lv_room (Nat.le_of_ble_eq_true rfl)) nd_Ref_step_70 ⟨Nat.zero_le _, Nat.zero_le _⟩) hS (fun q _ h => hFc q h) hFc (fun r_15 u t H1 locs ht hvm hw hB hz1 hk1 hS => ?_)
                  obtain ⟨hP1, hK1, hD1⟩ := hB
                  rw [ht] at hP1
                  obtain ⟨rfq_17, rfl⟩ : ∃ z, z = u := ⟨_, rfl⟩
                  obtain ⟨w_16, w_18, hR_19⟩ := hw
                  try rw [← w_16] at hM
                  try rw [← w_18] at hM
                  have hP := hP1
                  have hD := cr_Dw hD1 hFc
                  generalize H1 = H at hP hS ⊢
                  refine lv_istore (lv' := [(6, .int r_15), (0, .ref (arf 0)), (1, .int x1), (2, .int x2), (3, .int x3), (4, .long x4)]) hx hb nd_Ref_step_73 hl (by decide) rfl (fun ls hl => ?_)
                  refine lv_iload hx hb nd_Ref_step_75 (lv_at hl 0 rfl) ?_
                  refine lv_if_ge (tgt := 87) hx hb nd_Ref_step_77 (by decide) (fun c_20 => ?_) (fun c_20 => ?_)
                  · have c_20t := cr_le c_20
                    rw [if_pos c_20] at hM
                    refine lv_aload_n hx hb nd_Ref_step_87 rfl (lv_at hl 1 rfl) ?_
                    refine lv_lload hx hb nd_Ref_step_88 (lv_at hl 5 rfl) ?_
                    refine va_put (D := (dC, dI)) (ci := 5) (v := .long x4) (ty := .long) (C := "CeilingRowsModel") (T := nf_Ref) (N := 22) hx hb hts nin_Ref nt_Ref nto_Ref nno_Ref hown hK hP hD hS 0 rfl rfl 11 (by decide) (hts _ tw_424) (fun _ h9 => h9) rfl (by decide +kernel) rfl rfl (Nat.le_of_ble_eq_true rfl) nd_Ref_step_90 (fun H locs hP hD hS => ?_)
                    have hP : va_P (dC, dI) vwCl (cw_Ref cI cZ cJ arf rfq_17 x4 ln) H := hP
                    have hD : va_D A (cw_Ref cI cZ cJ arf rfq_17 x4 ln) := hD
                    refine lv_iload hx hb nd_Ref_step_93 (lv_at hl 0 rfl) ?_
                    exact W.iret (v := r_15) hx hb hr (fun t ht hW => ⟨⟨r_15, (rfq_17, x4), rfl, ⟨by rw [hT, ← hM], by rw [hT, ← hM], by rw [hT, ← hM], hR_19⟩, by rw [ht]; exact hP, va_K.moved hW.alike hK, hD⟩, hS.F ht⟩) hS.2.2 nd_Ref_step_95
                  · have c_20t := cr_nle c_20
                    rw [if_neg c_20] at hM
                    refine lv_iload hx hb nd_Ref_step_80 (lv_at hl 0 rfl) ?_
                    refine lv_bipush (v := -14) hx hb nd_Ref_step_82 (by decide) ?_
                    refine lv_icmp_ne (tgt := 93) hx hb nd_Ref_step_84 (by decide) (fun c_21 => ?_) (fun c_21 => ?_)
                    · have c_21t := cr_ne c_21
                      rw [if_neg c_21] at hM
                      refine lv_iload hx hb nd_Ref_step_93 (lv_at hl 0 rfl) ?_
                      exact W.iret (v := r_15) hx hb hr (fun t ht hW => ⟨⟨r_15, (rfq_17, lat), rfl, ⟨by rw [hT, ← hM], by rw [hT, ← hM], by rw [hT, ← hM], hR_19⟩, by rw [ht]; exact hP, va_K.moved hW.alike hK, hD⟩, hS.F ht⟩) hS.2.2 nd_Ref_step_95
                    · have c_21t := cr_eq c_21
                      rw [if_pos c_21] at hM
                      refine lv_aload_n hx hb nd_Ref_step_87 rfl (lv_at hl 1 rfl) ?_
                      refine lv_lload hx hb nd_Ref_step_88 (lv_at hl 5 rfl) ?_
                      refine va_put (D := (dC, dI)) (ci := 5) (v := .long x4) (ty := .long) (C := "CeilingRowsModel") (T := nf_Ref) (N := 22) hx hb hts nin_Ref nt_Ref nto_Ref nno_Ref hown hK hP hD hS 0 rfl rfl 11 (by decide) (hts _ tw_424) (fun _ h9 => h9) rfl (by decide +kernel) rfl rfl (Nat.le_of_ble_eq_true rfl) nd_Ref_step_90 (fun H locs hP hD hS => ?_)
                      have hP : va_P (dC, dI) vwCl (cw_Ref cI cZ cJ arf rfq_17 x4 ln) H := hP
                      have hD : va_D A (cw_Ref cI cZ cJ arf rfq_17 x4 ln) := hD
                      refine lv_iload hx hb nd_Ref_step_93 (lv_at hl 0 rfl) ?_
                      exact W.iret (v := r_15) hx hb hr (fun t ht hW => ⟨⟨r_15, (rfq_17, x4), rfl, ⟨by rw [hT, ← hM], by rw [hT, ← hM], by rw [hT, ← hM], hR_19⟩, by rw [ht]; exact hP, va_K.moved hW.alike hK, hD⟩, hS.F ht⟩) hS.2.2 nd_Ref_step_95
                · have c_14t := cr_nle c_14
                  rw [if_neg c_14] at hM
                  refine lv_bipush (v := -2) hx hb nd_Ref_step_63 (by decide) ?_
                  exact W.iret (v := (-2 : Int32)) hx hb hr (fun t ht hW => ⟨⟨(-2 : Int32), (rf, lat), rfl, ⟨by rw [hT, ← hM], by rw [hT, ← hM], by rw [hT, ← hM], hR_rf⟩, by rw [ht]; exact hP, va_K.moved hW.alike hK, hD⟩, hS.F ht⟩) hS.2.2 nd_Ref_step_65
      · have c_9t := cr_eq c_9
        rw [if_pos c_9] at hM
        refine lv_iconst (v := -1) hx hb nd_Ref_step_26 (by decide) ?_
        exact W.iret (v := (-1 : Int32)) hx hb hr (fun t ht hW => ⟨⟨(-1 : Int32), (rf, lat), rfl, ⟨by rw [hT, ← hM], by rw [hT, ← hM], by rw [hT, ← hM], hR_rf⟩, by rw [ht]; exact hP, va_K.moved hW.alike hK, hD⟩, hS.F ht⟩) hS.2.2 nd_Ref_step_27
    · have c_5t := cr_ne c_5
      rw [if_neg c_5] at hM
      refine lv_iload_n hx hb nd_Ref_step_13 rfl (lv_at hl 2 rfl) ?_
      refine lv_iconst (v := 2) hx hb nd_Ref_step_14 (by decide) ?_
      refine lv_icmp_ne (tgt := 28) hx hb nd_Ref_step_15 (by decide) (fun c_22 => ?_) (fun c_22 => ?_)
      · have c_22t := cr_ne c_22
        rw [if_neg c_22] at hM
        refine lv_iload_n hx hb nd_Ref_step_28 rfl (lv_at hl 2 rfl) ?_
        refine lv_if_lt (tgt := 63) hx hb nd_Ref_step_29 (by decide) (fun c_23 => ?_) (fun c_23 => ?_)
        · have c_23t := cr_lt c_23
          rw [if_pos c_23] at hM
          refine lv_bipush (v := -2) hx hb nd_Ref_step_63 (by decide) ?_
          exact W.iret (v := (-2 : Int32)) hx hb hr (fun t ht hW => ⟨⟨(-2 : Int32), (rf, lat), rfl, ⟨by rw [hT, ← hM], by rw [hT, ← hM], by rw [hT, ← hM], hR_rf⟩, by rw [ht]; exact hP, va_K.moved hW.alike hK, hD⟩, hS.F ht⟩) hS.2.2 nd_Ref_step_65
        · have c_23t := cr_nlt c_23
          rw [if_neg c_23] at hM
          refine lv_iload_n hx hb nd_Ref_step_32 rfl (lv_at hl 2 rfl) ?_
          refine lv_iconst (v := 5) hx hb nd_Ref_step_33 (by decide) ?_
          refine lv_icmp_gt (tgt := 63) hx hb nd_Ref_step_34 (by decide) (fun c_24 => ?_) (fun c_24 => ?_)
          · have c_24t := cr_lt c_24
            rw [if_pos c_24] at hM
            refine lv_bipush (v := -2) hx hb nd_Ref_step_63 (by decide) ?_
            exact W.iret (v := (-2 : Int32)) hx hb hr (fun t ht hW => ⟨⟨(-2 : Int32), (rf, lat), rfl, ⟨by rw [hT, ← hM], by rw [hT, ← hM], by rw [hT, ← hM], hR_rf⟩, by rw [ht]; exact hP, va_K.moved hW.alike hK, hD⟩, hS.F ht⟩) hS.2.2 nd_Ref_step_65
          · have c_24t := cr_nlt c_24
            rw [if_neg c_24] at hM
            refine lv_lload hx hb nd_Ref_step_37 (lv_at hl 4 rfl) ?_
            refine lv_aload_n hx hb nd_Ref_step_39 rfl (lv_at hl 0 rfl) ?_
            refine va_get (D := (dC, dI)) (ci := 5) (v := .long lat) (C := "CeilingRowsModel") (T := nf_Ref) (N := 22) hx hb hts nin_Ref hown hK hP 0 rfl rfl 11 (by decide) (hts _ tw_424) (fun _ h9 => h9) rfl nd_Ref_step_40 ?_
            refine W.lcmp hx hb nd_Ref_step_43 ?_
            refine lv_if_lt (tgt := 63) hx hb nd_Ref_step_44 (by decide) (fun c_25 => ?_) (fun c_25 => ?_)
            · have c_25t := cr_lt c_25
              rw [if_pos c_25] at hM
              refine lv_bipush (v := -2) hx hb nd_Ref_step_63 (by decide) ?_
              exact W.iret (v := (-2 : Int32)) hx hb hr (fun t ht hW => ⟨⟨(-2 : Int32), (rf, lat), rfl, ⟨by rw [hT, ← hM], by rw [hT, ← hM], by rw [hT, ← hM], hR_rf⟩, by rw [ht]; exact hP, va_K.moved hW.alike hK, hD⟩, hS.F ht⟩) hS.2.2 nd_Ref_step_65
            · have c_25t := cr_nlt c_25
              rw [if_neg c_25] at hM
              refine lv_lload hx hb nd_Ref_step_47 (lv_at hl 4 rfl) ?_
              refine lv_lconst (v := 0) hx hb nd_Ref_step_49 (by decide) ?_
              refine W.lcmp hx hb nd_Ref_step_50 ?_
              refine lv_if_lt (tgt := 63) hx hb nd_Ref_step_51 (by decide) (fun c_26 => ?_) (fun c_26 => ?_)
              · have c_26t := cr_lt c_26
                rw [if_pos c_26] at hM
                refine lv_bipush (v := -2) hx hb nd_Ref_step_63 (by decide) ?_
                exact W.iret (v := (-2 : Int32)) hx hb hr (fun t ht hW => ⟨⟨(-2 : Int32), (rf, lat), rfl, ⟨by rw [hT, ← hM], by rw [hT, ← hM], by rw [hT, ← hM], hR_rf⟩, by rw [ht]; exact hP, va_K.moved hW.alike hK, hD⟩, hS.F ht⟩) hS.2.2 nd_Ref_step_65
              · have c_26t := cr_nlt c_26
                rw [if_neg c_26] at hM
                refine lv_lload hx hb nd_Ref_step_54 (lv_at hl 4 rfl) ?_
                refine lv_ldc2 (v := 1000000000) hx hb hown (hts _ tw_514) nd_Ref_step_56 ?_
                refine W.lcmp hx hb nd_Ref_step_59 ?_
                refine lv_if_le (tgt := 66) hx hb nd_Ref_step_60 (by decide) (fun c_27 => ?_) (fun c_27 => ?_)
                · have c_27t := cr_le c_27
                  rw [if_pos c_27] at hM
                  refine lv_aload_n hx hb nd_Ref_step_66 rfl (lv_at hl 0 rfl) ?_
                  refine lv_iload_n hx hb nd_Ref_step_67 rfl (lv_at hl 1 rfl) ?_
                  refine lv_iload_n hx hb nd_Ref_step_68 rfl (lv_at hl 2 rfl) ?_
                  refine lv_iload_n hx hb nd_Ref_step_69 rfl (lv_at hl 3 rfl) ?_
                  have hPc := hP
                  have hDc := hD
                  have hFc := va_free (wc := cw_Ref cI cZ cJ arf rf lat ln) hD hS hA [0, 1, 2, 3, 4, 5, 6, 7, 8, 9, 10, 11, 12, 13, 14, 15, 16, 17] rfl
                  refine va_calli (va_runV (As := [.int x1, .int x2, .int x3]) (rest := []) ⟨hx, hb, hml, hown, hts⟩ (ct_Ref_acts l dC dI cI cZ cJ arf H.size rf lat ln x1 x2 x3 hR_rf (by omega) (by omega)) (cwV 3 hts (ng_V tw_515 tw_517 tp_21 tw_6 tw_518) rfl rfl rfl (by decide +kernel) ⟨Nat.le_of_ble_eq_true rfl, Nat.le_of_ble_eq_true rfl⟩) ⟨fun a U g mk q => by obtain ⟨q0, q1, qP, qK, qD⟩ := q; exact ⟨q0, q1, qP, va_K.moved (u := U) (U := U.calling g mk a) (Vm.Alike.refl U.vm) qK, qD⟩, va_recv hK hPc (ci := 5) (q0 := 0) rfl rfl, fun U hU hW => ⟨rfl, by rw [hU], by rw [hU]; exact hPc, va_K.moved hW.alike hK, hDc.weaken (fun _ _ _ _ => trivial)⟩⟩ rfl rfl hl.1 rfl (lv_room (Nat.le_of_ble_eq_true rfl)) nd_Ref_step_70 ⟨Nat.zero_le _, Nat.zero_le _⟩) hS (fun q _ h => hFc q h) hFc (fun r_28 u t H1 locs ht hvm hw hB hz1 hk1 hS => ?_)
                  obtain ⟨hP1, hK1, hD1⟩ := hB
                  rw [ht] at hP1
                  obtain ⟨rfq_30, rfl⟩ : ∃ z, z = u := ⟨_, rfl⟩
                  obtain ⟨w_29, w_31, hR_32⟩ := hw
                  try rw [← w_29] at hM
                  try rw [← w_31] at hM
                  have hP := hP1
                  have hD := cr_Dw hD1 hFc
                  generalize H1 = H at hP hS ⊢
                  refine lv_istore (lv' := [(6, .int r_28), (0, .ref (arf 0)), (1, .int x1), (2, .int x2), (3, .int x3), (4, .long x4)]) hx hb nd_Ref_step_73 hl (by decide) rfl (fun ls hl => ?_)
                  refine lv_iload hx hb nd_Ref_step_75 (lv_at hl 0 rfl) ?_
                  refine lv_if_ge (tgt := 87) hx hb nd_Ref_step_77 (by decide) (fun c_33 => ?_) (fun c_33 => ?_)
                  · have c_33t := cr_le c_33
                    rw [if_pos c_33] at hM
                    refine lv_aload_n hx hb nd_Ref_step_87 rfl (lv_at hl 1 rfl) ?_
                    refine lv_lload hx hb nd_Ref_step_88 (lv_at hl 5 rfl) ?_
                    refine va_put (D := (dC, dI)) (ci := 5) (v := .long x4) (ty := .long) (C := "CeilingRowsModel") (T := nf_Ref) (N := 22) hx hb hts nin_Ref nt_Ref nto_Ref nno_Ref hown hK hP hD hS 0 rfl rfl 11 (by decide) (hts _ tw_424) (fun _ h9 => h9) rfl (by decide +kernel) rfl rfl (Nat.le_of_ble_eq_true rfl) nd_Ref_step_90 (fun H locs hP hD hS => ?_)
                    have hP : va_P (dC, dI) vwCl (cw_Ref cI cZ cJ arf rfq_30 x4 ln) H := hP
                    have hD : va_D A (cw_Ref cI cZ cJ arf rfq_30 x4 ln) := hD
                    refine lv_iload hx hb nd_Ref_step_93 (lv_at hl 0 rfl) ?_
                    exact W.iret (v := r_28) hx hb hr (fun t ht hW => ⟨⟨r_28, (rfq_30, x4), rfl, ⟨by rw [hT, ← hM], by rw [hT, ← hM], by rw [hT, ← hM], hR_32⟩, by rw [ht]; exact hP, va_K.moved hW.alike hK, hD⟩, hS.F ht⟩) hS.2.2 nd_Ref_step_95
                  · have c_33t := cr_nle c_33
                    rw [if_neg c_33] at hM
                    refine lv_iload hx hb nd_Ref_step_80 (lv_at hl 0 rfl) ?_
                    refine lv_bipush (v := -14) hx hb nd_Ref_step_82 (by decide) ?_
                    refine lv_icmp_ne (tgt := 93) hx hb nd_Ref_step_84 (by decide) (fun c_34 => ?_) (fun c_34 => ?_)
                    · have c_34t := cr_ne c_34
                      rw [if_neg c_34] at hM
                      refine lv_iload hx hb nd_Ref_step_93 (lv_at hl 0 rfl) ?_
                      exact W.iret (v := r_28) hx hb hr (fun t ht hW => ⟨⟨r_28, (rfq_30, lat), rfl, ⟨by rw [hT, ← hM], by rw [hT, ← hM], by rw [hT, ← hM], hR_32⟩, by rw [ht]; exact hP, va_K.moved hW.alike hK, hD⟩, hS.F ht⟩) hS.2.2 nd_Ref_step_95
                    · have c_34t := cr_eq c_34
                      rw [if_pos c_34] at hM
                      refine lv_aload_n hx hb nd_Ref_step_87 rfl (lv_at hl 1 rfl) ?_
                      refine lv_lload hx hb nd_Ref_step_88 (lv_at hl 5 rfl) ?_
                      refine va_put (D := (dC, dI)) (ci := 5) (v := .long x4) (ty := .long) (C := "CeilingRowsModel") (T := nf_Ref) (N := 22) hx hb hts nin_Ref nt_Ref nto_Ref nno_Ref hown hK hP hD hS 0 rfl rfl 11 (by decide) (hts _ tw_424) (fun _ h9 => h9) rfl (by decide +kernel) rfl rfl (Nat.le_of_ble_eq_true rfl) nd_Ref_step_90 (fun H locs hP hD hS => ?_)
                      have hP : va_P (dC, dI) vwCl (cw_Ref cI cZ cJ arf rfq_30 x4 ln) H := hP
                      have hD : va_D A (cw_Ref cI cZ cJ arf rfq_30 x4 ln) := hD
                      refine lv_iload hx hb nd_Ref_step_93 (lv_at hl 0 rfl) ?_
                      exact W.iret (v := r_28) hx hb hr (fun t ht hW => ⟨⟨r_28, (rfq_30, x4), rfl, ⟨by rw [hT, ← hM], by rw [hT, ← hM], by rw [hT, ← hM], hR_32⟩, by rw [ht]; exact hP, va_K.moved hW.alike hK, hD⟩, hS.F ht⟩) hS.2.2 nd_Ref_step_95
                · have c_27t := cr_nle c_27
                  rw [if_neg c_27] at hM
                  refine lv_bipush (v := -2) hx hb nd_Ref_step_63 (by decide) ?_
                  exact W.iret (v := (-2 : Int32)) hx hb hr (fun t ht hW => ⟨⟨(-2 : Int32), (rf, lat), rfl, ⟨by rw [hT, ← hM], by rw [hT, ← hM], by rw [hT, ← hM], hR_rf⟩, by rw [ht]; exact hP, va_K.moved hW.alike hK, hD⟩, hS.F ht⟩) hS.2.2 nd_Ref_step_65
      · have c_22t := cr_eq c_22
        rw [if_pos c_22] at hM
        refine lv_aload_n hx hb nd_Ref_step_18 rfl (lv_at hl 0 rfl) ?_
        refine lv_iload_n hx hb nd_Ref_step_19 rfl (lv_at hl 3 rfl) ?_
        have hPc := hP
        have hDc := hD
        have hFc := va_free (wc := cw_Ref cI cZ cJ arf rf lat ln) hD hS hA [0, 1, 2, 3, 4, 5, 6, 7, 8, 9, 10, 11, 12, 13, 14, 15, 16, 17] rfl
        refine va_calli (va_runV (As := [.int x3]) (rest := []) ⟨hx, hb, hml, hown, hts⟩ (ct_Ref_isResource l dC dI cI cZ cJ arf H.size rf lat ln x3 hR_rf) (cwV 1 hts (ng_V tw_497 tw_499 tp_19 tw_6 tw_500) rfl rfl rfl (by decide +kernel) ⟨Nat.le_of_ble_eq_true rfl, Nat.le_of_ble_eq_true rfl⟩) ⟨fun a U g mk q => by obtain ⟨q0, q1, qP, qK, qD⟩ := q; exact ⟨q0, q1, qP, va_K.moved (u := U) (U := U.calling g mk a) (Vm.Alike.refl U.vm) qK, qD⟩, va_recv hK hPc (ci := 5) (q0 := 0) rfl rfl, fun U hU hW => ⟨rfl, by rw [hU], by rw [hU]; exact hPc, va_K.moved hW.alike hK, hDc.weaken (fun _ _ _ _ => trivial)⟩⟩ rfl rfl hl.1 rfl (lv_room (Nat.le_of_ble_eq_true rfl)) nd_Ref_step_20 ⟨Nat.zero_le _, Nat.zero_le _⟩) hS (fun q _ h => hFc q h) hFc (fun r_35 u t H1 locs ht hvm hw hB hz1 hk1 hS => ?_)
        obtain ⟨hP1, hK1, hD1⟩ := hB
        rw [ht] at hP1
        obtain ⟨w_36, f_37⟩ := hw
        try rw [← w_36] at hM
        have hP := hP1
        have hD := cr_Dw hD1 hFc
        generalize H1 = H at hP hS ⊢
        refine lv_if_ne (tgt := 28) hx hb nd_Ref_step_23 (by decide) (fun c_38 => ?_) (fun c_38 => ?_)
        · have c_38t := cr_ne c_38
          rw [if_neg c_38] at hM
          refine lv_iload_n hx hb nd_Ref_step_28 rfl (lv_at hl 2 rfl) ?_
          refine lv_if_lt (tgt := 63) hx hb nd_Ref_step_29 (by decide) (fun c_39 => ?_) (fun c_39 => ?_)
          · have c_39t := cr_lt c_39
            rw [if_pos c_39] at hM
            refine lv_bipush (v := -2) hx hb nd_Ref_step_63 (by decide) ?_
            exact W.iret (v := (-2 : Int32)) hx hb hr (fun t ht hW => ⟨⟨(-2 : Int32), (rf, lat), rfl, ⟨by rw [hT, ← hM], by rw [hT, ← hM], by rw [hT, ← hM], hR_rf⟩, by rw [ht]; exact hP, va_K.moved hW.alike hK, hD⟩, hS.F ht⟩) hS.2.2 nd_Ref_step_65
          · have c_39t := cr_nlt c_39
            rw [if_neg c_39] at hM
            refine lv_iload_n hx hb nd_Ref_step_32 rfl (lv_at hl 2 rfl) ?_
            refine lv_iconst (v := 5) hx hb nd_Ref_step_33 (by decide) ?_
            refine lv_icmp_gt (tgt := 63) hx hb nd_Ref_step_34 (by decide) (fun c_40 => ?_) (fun c_40 => ?_)
            · have c_40t := cr_lt c_40
              rw [if_pos c_40] at hM
              refine lv_bipush (v := -2) hx hb nd_Ref_step_63 (by decide) ?_
              exact W.iret (v := (-2 : Int32)) hx hb hr (fun t ht hW => ⟨⟨(-2 : Int32), (rf, lat), rfl, ⟨by rw [hT, ← hM], by rw [hT, ← hM], by rw [hT, ← hM], hR_rf⟩, by rw [ht]; exact hP, va_K.moved hW.alike hK, hD⟩, hS.F ht⟩) hS.2.2 nd_Ref_step_65
            · have c_40t := cr_nlt c_40
              rw [if_neg c_40] at hM
              refine lv_lload hx hb nd_Ref_step_37 (lv_at hl 4 rfl) ?_
              refine lv_aload_n hx hb nd_Ref_step_39 rfl (lv_at hl 0 rfl) ?_
              refine va_get (D := (dC, dI)) (ci := 5) (v := .long lat) (C := "CeilingRowsModel") (T := nf_Ref) (N := 22) hx hb hts nin_Ref hown hK hP 0 rfl rfl 11 (by decide) (hts _ tw_424) (fun _ h9 => h9) rfl nd_Ref_step_40 ?_
              refine W.lcmp hx hb nd_Ref_step_43 ?_
              refine lv_if_lt (tgt := 63) hx hb nd_Ref_step_44 (by decide) (fun c_41 => ?_) (fun c_41 => ?_)
              · have c_41t := cr_lt c_41
                rw [if_pos c_41] at hM
                refine lv_bipush (v := -2) hx hb nd_Ref_step_63 (by decide) ?_
                exact W.iret (v := (-2 : Int32)) hx hb hr (fun t ht hW => ⟨⟨(-2 : Int32), (rf, lat), rfl, ⟨by rw [hT, ← hM], by rw [hT, ← hM], by rw [hT, ← hM], hR_rf⟩, by rw [ht]; exact hP, va_K.moved hW.alike hK, hD⟩, hS.F ht⟩) hS.2.2 nd_Ref_step_65
              · have c_41t := cr_nlt c_41
                rw [if_neg c_41] at hM
                refine lv_lload hx hb nd_Ref_step_47 (lv_at hl 4 rfl) ?_
                refine lv_lconst (v := 0) hx hb nd_Ref_step_49 (by decide) ?_
                refine W.lcmp hx hb nd_Ref_step_50 ?_
                refine lv_if_lt (tgt := 63) hx hb nd_Ref_step_51 (by decide) (fun c_42 => ?_) (fun c_42 => ?_)
                · have c_42t := cr_lt c_42
                  rw [if_pos c_42] at hM
                  refine lv_bipush (v := -2) hx hb nd_Ref_step_63 (by decide) ?_
                  exact W.iret (v := (-2 : Int32)) hx hb hr (fun t ht hW => ⟨⟨(-2 : Int32), (rf, lat), rfl, ⟨by rw [hT, ← hM], by rw [hT, ← hM], by rw [hT, ← hM], hR_rf⟩, by rw [ht]; exact hP, va_K.moved hW.alike hK, hD⟩, hS.F ht⟩) hS.2.2 nd_Ref_step_65
                · have c_42t := cr_nlt c_42
                  rw [if_neg c_42] at hM
                  refine lv_lload hx hb nd_Ref_step_54 (lv_at hl 4 rfl) ?_
                  refine lv_ldc2 (v := 1000000000) hx hb hown (hts _ tw_514) nd_Ref_step_56 ?_
                  refine W.lcmp hx hb nd_Ref_step_59 ?_
                  refine lv_if_le (tgt := 66) hx hb nd_Ref_step_60 (by decide) (fun c_43 => ?_) (fun c_43 => ?_)
                  · have c_43t := cr_le c_43
                    rw [if_pos c_43] at hM
                    refine lv_aload_n hx hb nd_Ref_step_66 rfl (lv_at hl 0 rfl) ?_
                    refine lv_iload_n hx hb nd_Ref_step_67 rfl (lv_at hl 1 rfl) ?_
                    refine lv_iload_n hx hb nd_Ref_step_68 rfl (lv_at hl 2 rfl) ?_
                    refine lv_iload_n hx hb nd_Ref_step_69 rfl (lv_at hl 3 rfl) ?_
                    have hPc := hP
                    have hDc := hD
                    have hFc := va_free (wc := cw_Ref cI cZ cJ arf rf lat ln) hD hS hA [0, 1, 2, 3, 4, 5, 6, 7, 8, 9, 10, 11, 12, 13, 14, 15, 16, 17] rfl
                    refine va_calli (va_runV (As := [.int x1, .int x2, .int x3]) (rest := []) ⟨hx, hb, hml, hown, hts⟩ (ct_Ref_acts l dC dI cI cZ cJ arf H.size rf lat ln x1 x2 x3 hR_rf (by omega) (by omega)) (cwV 3 hts (ng_V tw_515 tw_517 tp_21 tw_6 tw_518) rfl rfl rfl (by decide +kernel) ⟨Nat.le_of_ble_eq_true rfl, Nat.le_of_ble_eq_true rfl⟩) ⟨fun a U g mk q => by obtain ⟨q0, q1, qP, qK, qD⟩ := q; exact ⟨q0, q1, qP, va_K.moved (u := U) (U := U.calling g mk a) (Vm.Alike.refl U.vm) qK, qD⟩, va_recv hK hPc (ci := 5) (q0 := 0) rfl rfl, fun U hU hW => ⟨rfl, by rw [hU], by rw [hU]; exact hPc, va_K.moved hW.alike hK, hDc.weaken (fun _ _ _ _ => trivial)⟩⟩ rfl rfl hl.1 rfl (lv_room (Nat.le_of_ble_eq_true rfl)) nd_Ref_step_70 ⟨Nat.zero_le _, Nat.zero_le _⟩) hS (fun q _ h => hFc q h) hFc (fun r_44 u t H1 locs ht hvm hw hB hz1 hk1 hS => ?_)
                    obtain ⟨hP1, hK1, hD1⟩ := hB
                    rw [ht] at hP1
                    obtain ⟨rfq_46, rfl⟩ : ∃ z, z = u := ⟨_, rfl⟩
                    obtain ⟨w_45, w_47, hR_48⟩ := hw
                    try rw [← w_45] at hM
                    try rw [← w_47] at hM
                    have hP := hP1
                    have hD := cr_Dw hD1 hFc
                    generalize H1 = H at hP hS ⊢
                    refine lv_istore (lv' := [(6, .int r_44), (0, .ref (arf 0)), (1, .int x1), (2, .int x2), (3, .int x3), (4, .long x4)]) hx hb nd_Ref_step_73 hl (by decide) rfl (fun ls hl => ?_)
                    refine lv_iload hx hb nd_Ref_step_75 (lv_at hl 0 rfl) ?_
                    refine lv_if_ge (tgt := 87) hx hb nd_Ref_step_77 (by decide) (fun c_49 => ?_) (fun c_49 => ?_)
                    · have c_49t := cr_le c_49
                      rw [if_pos c_49] at hM
                      refine lv_aload_n hx hb nd_Ref_step_87 rfl (lv_at hl 1 rfl) ?_
                      refine lv_lload hx hb nd_Ref_step_88 (lv_at hl 5 rfl) ?_
                      refine va_put (D := (dC, dI)) (ci := 5) (v := .long x4) (ty := .long) (C := "CeilingRowsModel") (T := nf_Ref) (N := 22) hx hb hts nin_Ref nt_Ref nto_Ref nno_Ref hown hK hP hD hS 0 rfl rfl 11 (by decide) (hts _ tw_424) (fun _ h9 => h9) rfl (by decide +kernel) rfl rfl (Nat.le_of_ble_eq_true rfl) nd_Ref_step_90 (fun H locs hP hD hS => ?_)
                      have hP : va_P (dC, dI) vwCl (cw_Ref cI cZ cJ arf rfq_46 x4 ln) H := hP
                      have hD : va_D A (cw_Ref cI cZ cJ arf rfq_46 x4 ln) := hD
                      refine lv_iload hx hb nd_Ref_step_93 (lv_at hl 0 rfl) ?_
                      exact W.iret (v := r_44) hx hb hr (fun t ht hW => ⟨⟨r_44, (rfq_46, x4), rfl, ⟨by rw [hT, ← hM], by rw [hT, ← hM], by rw [hT, ← hM], hR_48⟩, by rw [ht]; exact hP, va_K.moved hW.alike hK, hD⟩, hS.F ht⟩) hS.2.2 nd_Ref_step_95
                    · have c_49t := cr_nle c_49
                      rw [if_neg c_49] at hM
                      refine lv_iload hx hb nd_Ref_step_80 (lv_at hl 0 rfl) ?_
                      refine lv_bipush (v := -14) hx hb nd_Ref_step_82 (by decide) ?_
                      refine lv_icmp_ne (tgt := 93) hx hb nd_Ref_step_84 (by decide) (fun c_50 => ?_) (fun c_50 => ?_)
                      · have c_50t := cr_ne c_50
                        rw [if_neg c_50] at hM
                        refine lv_iload hx hb nd_Ref_step_93 (lv_at hl 0 rfl) ?_
                        exact W.iret (v := r_44) hx hb hr (fun t ht hW => ⟨⟨r_44, (rfq_46, lat), rfl, ⟨by rw [hT, ← hM], by rw [hT, ← hM], by rw [hT, ← hM], hR_48⟩, by rw [ht]; exact hP, va_K.moved hW.alike hK, hD⟩, hS.F ht⟩) hS.2.2 nd_Ref_step_95
                      · have c_50t := cr_eq c_50
                        rw [if_pos c_50] at hM
                        refine lv_aload_n hx hb nd_Ref_step_87 rfl (lv_at hl 1 rfl) ?_
                        refine lv_lload hx hb nd_Ref_step_88 (lv_at hl 5 rfl) ?_
                        refine va_put (D := (dC, dI)) (ci := 5) (v := .long x4) (ty := .long) (C := "CeilingRowsModel") (T := nf_Ref) (N := 22) hx hb hts nin_Ref nt_Ref nto_Ref nno_Ref hown hK hP hD hS 0 rfl rfl 11 (by decide) (hts _ tw_424) (fun _ h9 => h9) rfl (by decide +kernel) rfl rfl (Nat.le_of_ble_eq_true rfl) nd_Ref_step_90 (fun H locs hP hD hS => ?_)
                        have hP : va_P (dC, dI) vwCl (cw_Ref cI cZ cJ arf rfq_46 x4 ln) H := hP
                        have hD : va_D A (cw_Ref cI cZ cJ arf rfq_46 x4 ln) := hD
                        refine lv_iload hx hb nd_Ref_step_93 (lv_at hl 0 rfl) ?_
                        exact W.iret (v := r_44) hx hb hr (fun t ht hW => ⟨⟨r_44, (rfq_46, x4), rfl, ⟨by rw [hT, ← hM], by rw [hT, ← hM], by rw [hT, ← hM], hR_48⟩, by rw [ht]; exact hP, va_K.moved hW.alike hK, hD⟩, hS.F ht⟩) hS.2.2 nd_Ref_step_95
                  · have c_43t := cr_nle c_43
                    rw [if_neg c_43] at hM
                    refine lv_bipush (v := -2) hx hb nd_Ref_step_63 (by decide) ?_
                    exact W.iret (v := (-2 : Int32)) hx hb hr (fun t ht hW => ⟨⟨(-2 : Int32), (rf, lat), rfl, ⟨by rw [hT, ← hM], by rw [hT, ← hM], by rw [hT, ← hM], hR_rf⟩, by rw [ht]; exact hP, va_K.moved hW.alike hK, hD⟩, hS.F ht⟩) hS.2.2 nd_Ref_step_65
        · have c_38t := cr_eq c_38
          rw [if_pos c_38] at hM
          refine lv_iconst (v := -1) hx hb nd_Ref_step_26 (by decide) ?_
          exact W.iret (v := (-1 : Int32)) hx hb hr (fun t ht hW => ⟨⟨(-1 : Int32), (rf, lat), rfl, ⟨by rw [hT, ← hM], by rw [hT, ← hM], by rw [hT, ← hM], hR_rf⟩, by rw [ht]; exact hP, va_K.moved hW.alike hK, hD⟩, hS.F ht⟩) hS.2.2 nd_Ref_step_27
