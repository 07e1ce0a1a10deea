theorem cr_bool {v : Int32} (h : 0 ≤ v.toInt ∧ v.toInt ≤ 1) : narrow .boolean (.int v) = .int v := by
  rcases (show v.toInt = 0 ∨ v.toInt = 1 by omega) with e | e
  · rw [show v = 0 from Int32.toInt_inj.mp (by rw [e]; decide)]; decide
  · rw [show v = 1 from Int32.toInt_inj.mp (by rw [e]; decide)]; decide
theorem nd_Ref_rank_0 : decode prog_7_method_16_code 0 = .ok (.aload_n 0, 1) := by decide +kernel
theorem nd_Ref_rank_1 : decode prog_7_method_16_code 1 = .ok (.iload_n 1, 1) := by decide +kernel
theorem nd_Ref_rank_2 : decode prog_7_method_16_code 2 = .ok (.invokevirtual 70, 3) := by decide +kernel
theorem nd_Ref_rank_5 : decode prog_7_method_16_code 5 = .ok (.ifCond .eq (11), 3) := by decide +kernel
theorem nd_Ref_rank_8 : decode prog_7_method_16_code 8 = .ok (.aload_n 0, 1) := by decide +kernel
theorem nd_Ref_rank_9 : decode prog_7_method_16_code 9 = .ok (.iload_n 1, 1) := by decide +kernel
theorem nd_Ref_rank_10 : decode prog_7_method_16_code 10 = .ok (.invokevirtual 83, 3) := by decide +kernel
theorem nd_Ref_rank_13 : decode prog_7_method_16_code 13 = .ok (.goto (4), 3) := by decide +kernel
theorem nd_Ref_rank_16 : decode prog_7_method_16_code 16 = .ok (.iconst (-1), 1) := by decide +kernel
theorem nd_Ref_rank_17 : decode prog_7_method_16_code 17 = .ok (.ireturn, 1) := by decide +kernel
abbrev pq_Ref_rank (dC : Nat → ClassId) (dI : Nat → Nat → Nat) (cI cZ cJ : ClassId) (arf : Nat → Nat) (rf : cr_S) (lat : Int64) (ln : (Nat → Int64)) (x1 : Int32) (A : Nat → Prop) : Array Value → State → Outcome → State → Prop :=
  va_Qi (fun (r : Int32) (_ : Unit) => r = md_Ref_rank rf lat ln x1) (fun (_ : Unit) t => va_P (dC, dI) vwCl (cw_Ref cI cZ cJ arf rf lat ln) t.heap ∧ va_K (dC, dI) vwCl [(cI, .int), (cZ, .boolean), (cJ, .long)] t ∧ va_D A (cw_Ref cI cZ cJ arf rf lat ln)) A
set_option maxHeartbeats 4000000 in
set_option maxRecDepth 100000 in
theorem ct_Ref_rank (l : Launch) (dC : Nat → ClassId) (dI : Nat → Nat → Nat) (cI cZ cJ : ClassId) (arf : Nat → Nat) (sz : Nat) (rf : cr_S) (lat : Int64) (ln : (Nat → Int64)) (x1 : Int32) (hR_rf : cr_RRef rf) : Met l ny_Ref_rank nw_Ref_rank ({ frames := 2, cells := 0, slots := 0, locals := 46 } : Room) (va_Pc [.ref (arf 0), .int x1] (fun U => U.heap.size = sz ∧ va_P (dC, dI) vwCl (cw_Ref cI cZ cJ arf rf lat ln) U.heap ∧ va_K (dC, dI) vwCl [(cI, .int), (cZ, .boolean), (cJ, .long)] U ∧ va_D (fun _ => True) (cw_Ref cI cZ cJ arf rf lat ln))) (pq_Ref_rank dC dI cI cZ cJ arf rf lat ln x1 (va_A (cw_Ref cI cZ cJ arf rf lat ln) sz)) 0 0 (va_A (cw_Ref cI cZ cJ arf rf lat ln) sz) := by
  refine Met.ofW (cc := prog_7_method_16_code) (maxL := 2) (ret := (some .int)) (by decide) rfl ?_
  intro p e s m args below meth c s₁ B hml hv
  obtain ⟨rfl, hsz, hP, hK, hD0⟩ := hv
  have hx := B.exec
  have hb := B.bytes
  have hr := B.returns
  have hts0 := atoms_spec (ws := nw_Ref_rank) B.pre
  have hts : ∀ w ∈ ng_tbl, w.before ([.ref (arf 0), .int x1] : List Value).toArray s = true := fun w h => hts0 w (List.mem_cons_of_mem _ h)
  have hown : s.vm.findClass "CeilingRowsModel" = some m.cls := findClass_of_methodNamed B.named
  have hlocks := B.notSynchronized
  subst hsz
  have hD := hD0.self (sz := s.heap.size)
  generalize hAe : va_A (cw_Ref cI cZ cJ arf rf lat ln) s.heap.size = A at hD ⊢
  have hA : ∀ q : Nat, s.heap.size ≤ q → A q := fun q h => by rw [← hAe]; exact Or.inr h
  have hS : va_S A s.heap s.heap [] := va_S.rf
  have hP : va_P (dC, dI) vwCl (cw_Ref cI cZ cJ arf rf lat ln) s.heap := hP
  have hl := lv_entry ([.ref (arf 0), .int x1]) (n := 2) (Nat.le_of_ble_eq_true rfl)
  rw [lg_entry_eq]
  generalize (lg_sl ([.ref (arf 0), .int x1]) ++ List.replicate (2 - (lg_sl ([.ref (arf 0), .int x1])).length) Slot.unset).toArray = ls at hl ⊢
  have hl : lv_has ls 2 [(0, .ref (arf 0)), (1, .int x1)] := hl
  have f0_rf_0 := cr_rfo hR_rf.1
  have f0_rf_1 := cr_rfo hR_rf.2.1
  have k_m1 : (-1 : Int32).toInt = -1 := by decide
  have k_0 : (0 : Int32).toInt = 0 := by decide
  obtain ⟨tgt, hT⟩ : ∃ z, md_Ref_rank rf lat ln x1 = z := ⟨_, rfl⟩
  have hM := hT
  unfold md_Ref_rank at hM
  refine lv_aload_n hx hb nd_Ref_rank_0 rfl (lv_at hl 0 rfl) ?_
  refine lv_iload_n hx hb nd_Ref_rank_1 rfl (lv_at hl 1 rfl) ?_
  have hPc := hP
  have hDc := hD
  have hFc := va_free (wc := cw_Ref cI cZ cJ arf rf lat ln) hD hS hA [0, 1, 2, 3, 4, 5, 6, 7, 8, 9, 10, 11, 12, 13, 14, 15, 16, 17] rfl
  refine va_calli (va_runV (As := [.int x1]) (rest := []) ⟨hx, hb, hml, hown, hts⟩ (ct_Ref_isTask l dC dI cI cZ cJ arf s.heap.size rf lat ln x1 hR_rf) (cwV 1 hts (ng_V tw_493 tw_495 tp_18 tw_6 tw_496) rfl rfl rfl (by decide +kernel) ⟨Nat.le_of_ble_eq_true rfl, Nat.le_of_ble_eq_true rfl⟩) ⟨fun a U g mk q => by obtain ⟨q0, q1, qP, qK, qD⟩ := q; exact ⟨q0, q1, qP, va_K.moved (u := U) (U := U.calling g mk a) (Vm.Alike.refl U.vm) qK, qD⟩, va_recv hK hPc (ci := 5) (q0 := 0) rfl rfl, fun U hU hW => ⟨rfl, by rw [hU], by rw [hU]; exact hPc, va_K.moved hW.alike hK, hDc.weaken (fun _ _ _ _ => trivial)⟩⟩ rfl rfl hl.1 rfl (lv_room (Nat.le_of_ble_eq_true rfl)) nd_Ref_rank_2 ⟨Nat.zero_le _, Nat.zero_le _⟩) hS (fun q _ h => hFc q h) hFc (fun r_1 u t H1 locs ht hvm hw hB hz1 hk1 hS => ?_)
  obtain ⟨hP1, hK1, hD1⟩ := hB
  rw [ht] at hP1
  obtain ⟨w_2, f_3⟩ := hw
  try rw [← w_2] at hM
  have hP := hP1
  have hD := cr_Dw hD1 hFc
  generalize H1 = H at hP hS ⊢
  refine lv_if_eq (tgt := 16) hx hb nd_Ref_rank_5 (by decide) (fun c_4 => ?_) (fun c_4 => ?_)
  · have c_4t := cr_eq c_4
    rw [if_pos c_4] at hM
    refine lv_iconst (v := -1) hx hb nd_Ref_rank_16 (by decide) ?_
    exact W.iret (v := (-1 : Int32)) hx hb hr (fun t ht hW => ⟨⟨(-1 : Int32), (), rfl, by rw [hT, ← hM], by rw [ht]; exact hP, va_K.moved hW.alike hK, hD⟩, hS.F ht⟩) hS.2.2 nd_Ref_rank_17
  · have c_4t := cr_ne c_4
    rw [if_neg c_4] at hM
    refine lv_aload_n hx hb nd_Ref_rank_8 rfl (lv_at hl 0 rfl) ?_
    refine lv_iload_n hx hb nd_Ref_rank_9 rfl (lv_at hl 1 rfl) ?_
    have hPc := hP
    have hDc := hD
    have hFc := va_free (wc := cw_Ref cI cZ cJ arf rf lat ln) hD hS hA [0, 1, 2, 3, 4, 5, 6, 7, 8, 9, 10, 11, 12, 13, 14, 15, 16, 17] rfl
    refine va_calli (va_runV (As := [.int x1]) (rest := []) ⟨hx, hb, hml, hown, hts⟩ (ct_Ref_rankNow l dC dI cI cZ cJ arf H.size rf lat ln x1 hR_rf (by omega)) (cwV 1 hts (ng_V tw_531 tw_533 tp_25 tw_6 tw_534) rfl rfl rfl (by decide +kernel) ⟨Nat.le_of_ble_eq_true rfl, Nat.le_of_ble_eq_true rfl⟩) ⟨fun a U g mk q => by obtain ⟨q0, q1, qP, qK, qD⟩ := q; exact ⟨q0, q1, qP, va_K.moved (u := U) (U := U.calling g mk a) (Vm.Alike.refl U.vm) qK, qD⟩, va_recv hK hPc (ci := 5) (q0 := 0) rfl rfl, fun U hU hW => ⟨rfl, by rw [hU], by rw [hU]; exact hPc, va_K.moved hW.alike hK, hDc.weaken (fun _ _ _ _ => trivial)⟩⟩ rfl rfl hl.1 rfl (lv_room (Nat.le_of_ble_eq_true rfl)) nd_Ref_rank_10 ⟨Nat.zero_le _, Nat.zero_le _⟩) hS (fun q _ h => hFc q h) hFc (fun r_5 u t H1 locs ht hvm hw hB hz1 hk1 hS => ?_)
    obtain ⟨hP1, hK1, hD1⟩ := hB
    rw [ht] at hP1
    have w_6 := hw
    try rw [← w_6] at hM
    have hP := hP1
    have hD := cr_Dw hD1 hFc
    generalize H1 = H at hP hS ⊢
    refine lv_goto (tgt := 17) hx hb nd_Ref_rank_13 (by decide) ?_
    exact W.iret (v := r_5) hx hb hr (fun t ht hW => ⟨⟨r_5, (), rfl, by rw [hT, ← hM], by rw [ht]; exact hP, va_K.moved hW.alike hK, hD⟩, hS.F ht⟩) hS.2.2 nd_Ref_rank_17

theorem nd_Ref_holder_0 : decode prog_7_method_17_code 0 = .ok (.aload_n 0, 1) := by decide +kernel
theorem nd_Ref_holder_1 : decode prog_7_method_17_code 1 = .ok (.iload_n 1, 1) := by decide +kernel
theorem nd_Ref_holder_2 : decode prog_7_method_17_code 2 = .ok (.invokevirtual 74, 3) := by decide +kernel
theorem nd_Ref_holder_5 : decode prog_7_method_17_code 5 = .ok (.ifCond .eq (12), 3) := by decide +kernel
theorem nd_Ref_holder_8 : decode prog_7_method_17_code 8 = .ok (.aload_n 0, 1) := by decide +kernel
theorem nd_Ref_holder_9 : decode prog_7_method_17_code 9 = .ok (.getfield 30, 3) := by decide +kernel
theorem nd_Ref_holder_12 : decode prog_7_method_17_code 12 = .ok (.iload_n 1, 1) := by decide +kernel
theorem nd_Ref_holder_13 : decode prog_7_method_17_code 13 = .ok (.iaload, 1) := by decide +kernel
theorem nd_Ref_holder_14 : decode prog_7_method_17_code 14 = .ok (.goto (4), 3) := by decide +kernel
theorem nd_Ref_holder_17 : decode prog_7_method_17_code 17 = .ok (.iconst (-1), 1) := by decide +kernel
theorem nd_Ref_holder_18 : decode prog_7_method_17_code 18 = .ok (.ireturn, 1) := by decide +kernel
abbrev pq_Ref_holder (dC : Nat → ClassId) (dI : Nat → Nat → Nat) (cI cZ cJ : ClassId) (arf : Nat → Nat) (rf : cr_S) (lat : Int64) (ln : (Nat → Int64)) (x1 : Int32) (A : Nat → Prop) : Array Value → State → Outcome → State → Prop :=
  va_Qi (fun (r : Int32) (_ : Unit) => r = md_Ref_holder rf lat ln x1) (fun (_ : Unit) t => va_P (dC, dI) vwCl (cw_Ref cI cZ cJ arf rf lat ln) t.heap ∧ va_K (dC, dI) vwCl [(cI, .int), (cZ, .boolean), (cJ, .long)] t ∧ va_D A (cw_Ref cI cZ cJ arf rf lat ln)) A
set_option maxHeartbeats 4000000 in
set_option maxRecDepth 100000 in
theorem ct_Ref_holder (l : Launch) (dC : Nat → ClassId) (dI : Nat → Nat → Nat) (cI cZ cJ : ClassId) (arf : Nat → Nat) (sz : Nat) (rf : cr_S) (lat : Int64) (ln : (Nat → Int64)) (x1 : Int32) (hR_rf : cr_RRef rf) : Met l ny_Ref_holder nw_Ref_holder ({ frames := 1, cells := 0, slots := 0, locals := 21 } : Room) (va_Pc [.ref (arf 0), .int x1] (fun U => U.heap.size = sz ∧ va_P (dC, dI) vwCl (cw_Ref cI cZ cJ arf rf lat ln) U.heap ∧ va_K (dC, dI) vwCl [(cI, .int), (cZ, .boolean), (cJ, .long)] U ∧ va_D (fun _ => True) (cw_Ref cI cZ cJ arf rf lat ln))) (pq_Ref_holder dC dI cI cZ cJ arf rf lat ln x1 (va_A (cw_Ref cI cZ cJ arf rf lat ln) sz)) 0 0 (va_A (cw_Ref cI cZ cJ arf rf lat ln) sz) := by
  refine Met.ofW (cc := prog_7_method_17_code) (maxL := 2) (ret := (some .int)) (by decide) rfl ?_
  intro p e s m args below meth c s₁ B hml hv
  obtain ⟨rfl, hsz, hP, hK, hD0⟩ := hv
  have hx := B.exec
  have hb := B.bytes
  have hr := B.returns
  have hts0 := atoms_spec (ws := nw_Ref_holder) B.pre
  have hts : ∀ w ∈ ng_tbl, w.before ([.ref (arf 0), .int x1] : List Value).toArray s = true := fun w h => hts0 w (List.mem_cons_of_mem _ h)
  have hown : s.vm.findClass "CeilingRowsModel" = some m.cls := findClass_of_methodNamed B.named
  have hlocks := B.notSynchronized
  subst hsz
  have hD := hD0.self (sz := s.heap.size)
  generalize hAe : va_A (cw_Ref cI cZ cJ arf rf lat ln) s.heap.size = A at hD ⊢
  have hA : ∀ q : Nat, s.heap.size ≤ q → A q := fun q h => by rw [← hAe]; exact Or.inr h
  have hS : va_S A s.heap s.heap [] := va_S.rf
  have hP : va_P (dC, dI) vwCl (cw_Ref cI cZ cJ arf rf lat ln) s.heap := hP
  have hl := lv_entry ([.ref (arf 0), .int x1]) (n := 2) (Nat.le_of_ble_eq_true rfl)
  rw [lg_entry_eq]
  generalize (lg_sl ([.ref (arf 0), .int x1]) ++ List.replicate (2 - (lg_sl ([.ref (arf 0), .int x1])).length) Slot.unset).toArray = ls at hl ⊢
  have hl : lv_has ls 2 [(0, .ref (arf 0)), (1, .int x1)] := hl
  have f0_rf_0 := cr_rfo hR_rf.1
  have f0_rf_1 := cr_rfo hR_rf.2.1
  have k_m1 : (-1 : Int32).toInt = -1 := by decide
  have k_0 : (0 : Int32).toInt = 0 := by decide
  obtain ⟨tgt, hT⟩ : ∃ z, md_Ref_holder rf lat ln x1 = z := ⟨_, rfl⟩
  have hM := hT
  unfold md_Ref_holder at hM
  refine lv_aload_n hx hb nd_Ref_holder_0 rfl (lv_at hl 0 rfl) ?_
  refine lv_iload_n hx hb nd_Ref_holder_1 rfl (lv_at hl 1 rfl) ?_
  have hPc := hP
  have hDc := hD
  have hFc := va_free (wc := cw_Ref cI cZ cJ arf rf lat ln) hD hS hA [0, 1, 2, 3, 4, 5, 6, 7, 8, 9, 10, 11, 12, 13, 14, 15, 16, 17] rfl
  refine va_calli (va_runV (As := [.int x1]) (rest := []) ⟨hx, hb, hml, hown, hts⟩ (ct_Ref_isResource l dC dI cI cZ cJ arf s.heap.size rf lat ln x1 hR_rf) (cwV 1 hts (ng_V tw_497 tw_499 tp_19 tw_6 tw_500) rfl rfl rfl (by decide +kernel) ⟨Nat.le_of_ble_eq_true rfl, Nat.le_of_ble_eq_true rfl⟩) ⟨fun a U g mk q => by obtain ⟨q0, q1, qP, qK, qD⟩ := q; exact ⟨q0, q1, qP, va_K.moved (u := U) (U := U.calling g mk a) (Vm.Alike.refl U.vm) qK, qD⟩, va_recv hK hPc (ci := 5) (q0 := 0) rfl rfl, fun U hU hW => ⟨rfl, by rw [hU], by rw [hU]; exact hPc, va_K.moved hW.alike hK, hDc.weaken (fun _ _ _ _ => trivial)⟩⟩ rfl rfl hl.1 rfl (lv_room (Nat.le_of_ble_eq_true rfl)) nd_Ref_holder_2 ⟨Nat.zero_le _, Nat.zero_le _⟩) hS (fun q _ h => hFc q h) hFc (fun r_1 u t H1 locs ht hvm hw hB hz1 hk1 hS => ?_)
  obtain ⟨hP1, hK1, hD1⟩ := hB
  rw [ht] at hP1
  obtain ⟨w_2, f_3⟩ := hw
  try rw [← w_2] at hM
  have hP := hP1
  have hD := cr_Dw hD1 hFc
  generalize H1 = H at hP hS ⊢
  refine lv_if_eq (tgt := 17) hx hb nd_Ref_holder_5 (by decide) (fun c_4 => ?_) (fun c_4 => ?_)
  · have c_4t := cr_eq c_4
    rw [if_pos c_4] at hM
    refine lv_iconst (v := -1) hx hb nd_Ref_holder_17 (by decide) ?_
    exact W.iret (v := (-1 : Int32)) hx hb hr (fun t ht hW => ⟨⟨(-1 : Int32), (), rfl, by rw [hT, ← hM], by rw [ht]; exact hP, va_K.moved hW.alike hK, hD⟩, hS.F ht⟩) hS.2.2 nd_Ref_holder_18
  · have c_4t := cr_ne c_4
    rw [if_neg c_4] at hM
    refine lv_aload_n hx hb nd_Ref_holder_8 rfl (lv_at hl 0 rfl) ?_
    refine va_get (D := (dC, dI)) (ci := 5) (v := .ref (arf 7)) (C := "CeilingRowsModel") (T := nf_Ref) (N := 22) hx hb hts nin_Ref hown hK hP 0 rfl rfl 9 (by decide) (hts _ tw_422) (fun _ h9 => h9) rfl nd_Ref_holder_9 ?_
    refine lv_iload_n hx hb nd_Ref_holder_12 rfl (lv_at hl 1 rfl) ?_
    have b_5 : vp_in x1 9 := vp_in_iff.mpr (by omega)
    refine va_iald hx hb hK hP 7 0 rfl rfl b_5 nd_Ref_holder_13 ?_
    refine lv_goto (tgt := 18) hx hb nd_Ref_holder_14 (by decide) ?_
    exact W.iret (v := (rf 7 x1.toNatClampNeg)) hx hb hr (fun t ht hW => ⟨⟨(rf 7 x1.toNatClampNeg), (), rfl, by rw [hT, ← hM], by rw [ht]; exact hP, va_K.moved hW.alike hK, hD⟩, hS.F ht⟩) hS.2.2 nd_Ref_holder_18

theorem nd_Ref_mayKeep_0 : decode prog_7_method_18_code 0 = .ok (.aload_n 0, 1) := by decide +kernel
theorem nd_Ref_mayKeep_1 : decode prog_7_method_18_code 1 = .ok (.getfield 13, 3) := by decide +kernel
theorem nd_Ref_mayKeep_4 : decode prog_7_method_18_code 4 = .ok (.iload_n 1, 1) := by decide +kernel
theorem nd_Ref_mayKeep_5 : decode prog_7_method_18_code 5 = .ok (.iaload, 1) := by decide +kernel
theorem nd_Ref_mayKeep_6 : decode prog_7_method_18_code 6 = .ok (.aload_n 0, 1) := by decide +kernel
theorem nd_Ref_mayKeep_7 : decode prog_7_method_18_code 7 = .ok (.getfield 13, 3) := by decide +kernel
theorem nd_Ref_mayKeep_10 : decode prog_7_method_18_code 10 = .ok (.iload_n 2, 1) := by decide +kernel
theorem nd_Ref_mayKeep_11 : decode prog_7_method_18_code 11 = .ok (.iaload, 1) := by decide +kernel
theorem nd_Ref_mayKeep_12 : decode prog_7_method_18_code 12 = .ok (.if_icmp .ne (52), 3) := by decide +kernel
theorem nd_Ref_mayKeep_15 : decode prog_7_method_18_code 15 = .ok (.aload_n 0, 1) := by decide +kernel
theorem nd_Ref_mayKeep_16 : decode prog_7_method_18_code 16 = .ok (.getfield 7, 3) := by decide +kernel
theorem nd_Ref_mayKeep_19 : decode prog_7_method_18_code 19 = .ok (.iload_n 1, 1) := by decide +kernel
theorem nd_Ref_mayKeep_20 : decode prog_7_method_18_code 20 = .ok (.iaload, 1) := by decide +kernel
theorem nd_Ref_mayKeep_21 : decode prog_7_method_18_code 21 = .ok (.aload_n 0, 1) := by decide +kernel
theorem nd_Ref_mayKeep_22 : decode prog_7_method_18_code 22 = .ok (.getfield 7, 3) := by decide +kernel
theorem nd_Ref_mayKeep_25 : decode prog_7_method_18_code 25 = .ok (.iload_n 2, 1) := by decide +kernel
theorem nd_Ref_mayKeep_26 : decode prog_7_method_18_code 26 = .ok (.iaload, 1) := by decide +kernel
theorem nd_Ref_mayKeep_27 : decode prog_7_method_18_code 27 = .ok (.if_icmp .ge (37), 3) := by decide +kernel
theorem nd_Ref_mayKeep_30 : decode prog_7_method_18_code 30 = .ok (.aload_n 0, 1) := by decide +kernel
theorem nd_Ref_mayKeep_31 : decode prog_7_method_18_code 31 = .ok (.getfield 26, 3) := by decide +kernel
theorem nd_Ref_mayKeep_34 : decode prog_7_method_18_code 34 = .ok (.bipush 9, 2) := by decide +kernel
theorem nd_Ref_mayKeep_36 : decode prog_7_method_18_code 36 = .ok (.iload_n 1, 1) := by decide +kernel
theorem nd_Ref_mayKeep_37 : decode prog_7_method_18_code 37 = .ok (.imul, 1) := by decide +kernel
theorem nd_Ref_mayKeep_38 : decode prog_7_method_18_code 38 = .ok (.iload_n 3, 1) := by decide +kernel
theorem nd_Ref_mayKeep_39 : decode prog_7_method_18_code 39 = .ok (.iadd, 1) := by decide +kernel
theorem nd_Ref_mayKeep_40 : decode prog_7_method_18_code 40 = .ok (.laload, 1) := by decide +kernel
theorem nd_Ref_mayKeep_41 : decode prog_7_method_18_code 41 = .ok (.lconst 0, 1) := by decide +kernel
theorem nd_Ref_mayKeep_42 : decode prog_7_method_18_code 42 = .ok (.lcmp, 1) := by decide +kernel
theorem nd_Ref_mayKeep_43 : decode prog_7_method_18_code 43 = .ok (.ifCond .le (21), 3) := by decide +kernel
theorem nd_Ref_mayKeep_46 : decode prog_7_method_18_code 46 = .ok (.aload_n 0, 1) := by decide +kernel
theorem nd_Ref_mayKeep_47 : decode prog_7_method_18_code 47 = .ok (.iload_n 3, 1) := by decide +kernel
theorem nd_Ref_mayKeep_48 : decode prog_7_method_18_code 48 = .ok (.invokevirtual 79, 3) := by decide +kernel
theorem nd_Ref_mayKeep_51 : decode prog_7_method_18_code 51 = .ok (.aload_n 0, 1) := by decide +kernel
theorem nd_Ref_mayKeep_52 : decode prog_7_method_18_code 52 = .ok (.getfield 7, 3) := by decide +kernel
theorem nd_Ref_mayKeep_55 : decode prog_7_method_18_code 55 = .ok (.iload_n 2, 1) := by decide +kernel
theorem nd_Ref_mayKeep_56 : decode prog_7_method_18_code 56 = .ok (.iaload, 1) := by decide +kernel
theorem nd_Ref_mayKeep_57 : decode prog_7_method_18_code 57 = .ok (.if_icmp .lt (7), 3) := by decide +kernel
theorem nd_Ref_mayKeep_60 : decode prog_7_method_18_code 60 = .ok (.iconst 1, 1) := by decide +kernel
theorem nd_Ref_mayKeep_61 : decode prog_7_method_18_code 61 = .ok (.goto (4), 3) := by decide +kernel
theorem nd_Ref_mayKeep_64 : decode prog_7_method_18_code 64 = .ok (.iconst 0, 1) := by decide +kernel
theorem nd_Ref_mayKeep_65 : decode prog_7_method_18_code 65 = .ok (.ireturn, 1) := by decide +kernel
abbrev pq_Ref_mayKeep (dC : Nat → ClassId) (dI : Nat → Nat → Nat) (cI cZ cJ : ClassId) (arf : Nat → Nat) (rf : cr_S) (lat : Int64) (ln : (Nat → Int64)) (x1 : Int32) (x2 : Int32) (x3 : Int32) (A : Nat → Prop) : Array Value → State → Outcome → State → Prop :=
  va_Qi (fun (r : Int32) (_ : Unit) => r = md_Ref_mayKeep rf lat ln x1 x2 x3) (fun (_ : Unit) t => va_P (dC, dI) vwCl (cw_Ref cI cZ cJ arf rf lat ln) t.heap ∧ va_K (dC, dI) vwCl [(cI, .int), (cZ, .boolean), (cJ, .long)] t ∧ va_D A (cw_Ref cI cZ cJ arf rf lat ln)) A
set_option maxHeartbeats 4000000 in
set_option maxRecDepth 100000 in
theorem ct_Ref_mayKeep (l : Launch) (dC : Nat → ClassId) (dI : Nat → Nat → Nat) (cI cZ cJ : ClassId) (arf : Nat → Nat) (sz : Nat) (rf : cr_S) (lat : Int64) (ln : (Nat → Int64)) (x1 : Int32) (x2 : Int32) (x3 : Int32) (hR_rf : cr_RRef rf) (hx1 : 0 ≤ x1.toInt ∧ x1.toInt ≤ 10) (hx2 : 0 ≤ x2.toInt ∧ x2.toInt ≤ 10) (hx3 : 0 ≤ x3.toInt ∧ x3.toInt ≤ 8) : Met l ny_Ref_mayKeep nw_Ref_mayKeep ({ frames := 1, cells := 0, slots := 0, locals := 23 } : Room) (va_Pc [.ref (arf 0), .int x1, .int x2, .int x3] (fun U => U.heap.size = sz ∧ va_P (dC, dI) vwCl (cw_Ref cI cZ cJ arf rf lat ln) U.heap ∧ va_K (dC, dI) vwCl [(cI, .int), (cZ, .boolean), (cJ, .long)] U ∧ va_D (fun _ => True) (cw_Ref cI cZ cJ arf rf lat ln))) (pq_Ref_mayKeep dC dI cI cZ cJ arf rf lat ln x1 x2 x3 (va_A (cw_Ref cI cZ cJ arf rf lat ln) sz)) 0 0 (va_A (cw_Ref cI cZ cJ arf rf lat ln) sz) := by
  refine Met.ofW (cc := prog_7_method_18_code) (maxL := 4) (ret := (some .boolean)) (by decide) rfl ?_
  intro p e s m args below meth c s₁ B hml hv
  obtain ⟨rfl, hsz, hP, hK, hD0⟩ := hv
  have hx := B.exec
  have hb := B.bytes
  have hr := B.returns
  have hts0 := atoms_spec (ws := nw_Ref_mayKeep) B.pre
  have hts : ∀ w ∈ ng_tbl, w.before ([.ref (arf 0), .int x1, .int x2, .int x3] : List Value).toArray s = true := fun w h => hts0 w (List.mem_cons_of_mem _ h)
  have hown : s.vm.findClass "CeilingRowsModel" = some m.cls := findClass_of_methodNamed B.named
  have hlocks := B.notSynchronized
  subst hsz
  have hD := hD0.self (sz := s.heap.size)
  generalize hAe : va_A (cw_Ref cI cZ cJ arf rf lat ln) s.heap.size = A at hD ⊢
  have hA : ∀ q : Nat, s.heap.size ≤ q → A q := fun q h => by rw [← hAe]; exact Or.inr h
  have hS : va_S A s.heap s.heap [] := va_S.rf
  have hP : va_P (dC, dI) vwCl (cw_Ref cI cZ cJ arf rf lat ln) s.heap := hP
  have hl := lv_entry ([.ref (arf 0), .int x1, .int x2, .int x3]) (n := 4) (Nat.le_of_ble_eq_true rfl)
  rw [lg_entry_eq]
  generalize (lg_sl ([.ref (arf 0), .int x1, .int x2, .int x3]) ++ List.replicate (4 - (lg_sl ([.ref (arf 0), .int x1, .int x2, .int x3])).length) Slot.unset).toArray = ls at hl ⊢
  have hl : lv_has ls 4 [(0, .ref (arf 0)), (1, .int x1), (2, .int x2), (3, .int x3)] := hl
  have f0_rf_0 := cr_rfo hR_rf.1
  have f0_rf_1 := cr_rfo hR_rf.2.1
  have k_0 : (0 : Int32).toInt = 0 := by decide
  have k_1 : (1 : Int32).toInt = 1 := by decide
  have k_9 : (9 : Int32).toInt = 9 := by decide
  obtain ⟨tgt, hT⟩ : ∃ z, md_Ref_mayKeep rf lat ln x1 x2 x3 = z := ⟨_, rfl⟩
  have hM := hT
  unfold md_Ref_mayKeep at hM
  refine lv_aload_n hx hb nd_Ref_mayKeep_0 rfl (lv_at hl 0 rfl) ?_
  refine va_get (D := (dC, dI)) (ci := 5) (v := .ref (arf 2)) (C := "CeilingRowsModel") (T := nf_Ref) (N := 22) hx hb hts nin_Ref hown hK hP 0 rfl rfl 2 (by decide) (hts _ tw_415) (fun _ h9 => h9) rfl nd_Ref_mayKeep_1 ?_
  refine lv_iload_n hx hb nd_Ref_mayKeep_4 rfl (lv_at hl 1 rfl) ?_
  have b_1 : vp_in x1 11 := vp_in_iff.mpr (by omega)
  refine va_iald hx hb hK hP 2 0 rfl rfl b_1 nd_Ref_mayKeep_5 ?_
  have f_2 := cr_rgo hR_rf.2.2.1 (x1.toNatClampNeg)
  refine lv_aload_n hx hb nd_Ref_mayKeep_6 rfl (lv_at hl 0 rfl) ?_
  refine va_get (D := (dC, dI)) (ci := 5) (v := .ref (arf 2)) (C := "CeilingRowsModel") (T := nf_Ref) (N := 22) hx hb hts nin_Ref hown hK hP 0 rfl rfl 2 (by decide) (hts _ tw_415) (fun _ h9 => h9) rfl nd_Ref_mayKeep_7 ?_
  refine lv_iload_n hx hb nd_Ref_mayKeep_10 rfl (lv_at hl 2 rfl) ?_
  have b_3 : vp_in x2 11 := vp_in_iff.mpr (by omega)
  refine va_iald hx hb hK hP 2 0 rfl rfl b_3 nd_Ref_mayKeep_11 ?_
  have f_4 := cr_rgo hR_rf.2.2.1 (x2.toNatClampNeg)
  refine lv_icmp_ne (tgt := 64) hx hb nd_Ref_mayKeep_12 (by decide) (fun c_5 => ?_) (fun c_5 => ?_)
  · have c_5t := cr_ne c_5
    rw [if_neg c_5] at hM
    refine lv_iconst (v := 0) hx hb nd_Ref_mayKeep_64 (by decide) ?_
    exact W.zret (v := (0 : Int32)) (ty := .boolean) hx hb hr (by decide) (fun t ht hW => ⟨⟨(0 : Int32), (), rfl, by rw [hT, ← hM], by rw [ht]; exact hP, va_K.moved hW.alike hK, hD⟩, hS.F ht⟩) hS.2.2 nd_Ref_mayKeep_65
  · have c_5t := cr_eq c_5
    rw [if_pos c_5] at hM
    refine lv_aload_n hx hb nd_Ref_mayKeep_15 rfl (lv_at hl 0 rfl) ?_
    refine va_get (D := (dC, dI)) (ci := 5) (v := .ref (arf 1)) (C := "CeilingRowsModel") (T := nf_Ref) (N := 22) hx hb hts nin_Ref hown hK hP 0 rfl rfl 1 (by decide) (hts _ tw_414) (fun _ h9 => h9) rfl nd_Ref_mayKeep_16 ?_
    refine lv_iload_n hx hb nd_Ref_mayKeep_19 rfl (lv_at hl 1 rfl) ?_
    have b_6 : vp_in x1 11 := vp_in_iff.mpr (by omega)
    refine va_iald hx hb hK hP 1 0 rfl rfl b_6 nd_Ref_mayKeep_20 ?_
    refine lv_aload_n hx hb nd_Ref_mayKeep_21 rfl (lv_at hl 0 rfl) ?_
    refine va_get (D := (dC, dI)) (ci := 5) (v := .ref (arf 1)) (C := "CeilingRowsModel") (T := nf_Ref) (N := 22) hx hb hts nin_Ref hown hK hP 0 rfl rfl 1 (by decide) (hts _ tw_414) (fun _ h9 => h9) rfl nd_Ref_mayKeep_22 ?_
    refine lv_iload_n hx hb nd_Ref_mayKeep_25 rfl (lv_at hl 2 rfl) ?_
    have b_7 : vp_in x2 11 := vp_in_iff.mpr (by omega)
    refine va_iald hx hb hK hP 1 0 rfl rfl b_7 nd_Ref_mayKeep_26 ?_
    refine lv_icmp_ge (tgt := 64) hx hb nd_Ref_mayKeep_27 (by decide) (fun c_8 => ?_) (fun c_8 => ?_)
    · have c_8t := cr_le c_8
      rw [if_pos c_8] at hM
      refine lv_iconst (v := 0) hx hb nd_Ref_mayKeep_64 (by decide) ?_
      exact W.zret (v := (0 : Int32)) (ty := .boolean) hx hb hr (by decide) (fun t ht hW => ⟨⟨(0 : Int32), (), rfl, by rw [hT, ← hM], by rw [ht]; exact hP, va_K.moved hW.alike hK, hD⟩, hS.F ht⟩) hS.2.2 nd_Ref_mayKeep_65
    · have c_8t := cr_nle c_8
      rw [if_neg c_8] at hM
      refine lv_aload_n hx hb nd_Ref_mayKeep_30 rfl (lv_at hl 0 rfl) ?_
      refine va_get (D := (dC, dI)) (ci := 5) (v := .ref (arf 6)) (C := "CeilingRowsModel") (T := nf_Ref) (N := 22) hx hb hts nin_Ref hown hK hP 0 rfl rfl 8 (by decide) (hts _ tw_421) (fun _ h9 => h9) rfl nd_Ref_mayKeep_31 ?_
      refine lv_bipush (v := 9) hx hb nd_Ref_mayKeep_34 (by decide) ?_
      refine lv_iload_n hx hb nd_Ref_mayKeep_36 rfl (lv_at hl 1 rfl) ?_
      refine lv_imul hx hb nd_Ref_mayKeep_37 ?_
      have e_9 : ((9 : Int32) * x1).toInt = 9 * x1.toInt := cr_mulL 9 k_9 (by omega)
      refine lv_iload_n hx hb nd_Ref_mayKeep_38 rfl (lv_at hl 3 rfl) ?_
      refine lv_iadd hx hb nd_Ref_mayKeep_39 ?_
      have e_10 : (((9 : Int32) * x1) + x3).toInt = ((9 : Int32) * x1).toInt + x3.toInt := cr_add (by omega)
      have b_11 : vp_in (((9 : Int32) * x1) + x3) 99 := vp_in_iff.mpr (by omega)
      refine va_lald hx hb hK hP 6 2 rfl rfl b_11 nd_Ref_mayKeep_40 ?_
      refine lv_lconst (v := 0) hx hb nd_Ref_mayKeep_41 (by decide) ?_
      refine W.lcmp hx hb nd_Ref_mayKeep_42 ?_
      refine lv_if_le (tgt := 64) hx hb nd_Ref_mayKeep_43 (by decide) (fun c_12 => ?_) (fun c_12 => ?_)
      · have c_12t := cr_le c_12
        rw [if_pos c_12] at hM
        refine lv_iconst (v := 0) hx hb nd_Ref_mayKeep_64 (by decide) ?_
        exact W.zret (v := (0 : Int32)) (ty := .boolean) hx hb hr (by decide) (fun t ht hW => ⟨⟨(0 : Int32), (), rfl, by rw [hT, ← hM], by rw [ht]; exact hP, va_K.moved hW.alike hK, hD⟩, hS.F ht⟩) hS.2.2 nd_Ref_mayKeep_65
      · have c_12t := cr_nle c_12
        rw [if_neg c_12] at hM
        refine lv_aload_n hx hb nd_Ref_mayKeep_46 rfl (lv_at hl 0 rfl) ?_
        refine lv_iload_n hx hb nd_Ref_mayKeep_47 rfl (lv_at hl 3 rfl) ?_
        have hPc := hP
        have hDc := hD
        have hFc := va_free (wc := cw_Ref cI cZ cJ arf rf lat ln) hD hS hA [0, 1, 2, 3, 4, 5, 6, 7, 8, 9, 10, 11, 12, 13, 14, 15, 16, 17] rfl
        refine va_calli (va_runV (As := [.int x3]) (rest := []) ⟨hx, hb, hml, hown, hts⟩ (ct_Ref_ceilingOf l dC dI cI cZ cJ arf s.heap.size rf lat ln x3 hR_rf (by omega)) (cwV 1 hts (ng_V tw_506 tw_508 tp_20 tw_6 tw_509) rfl rfl rfl (by decide +kernel) ⟨Nat.le_of_ble_eq_true rfl, Nat.le_of_ble_eq_true rfl⟩) ⟨fun a U g mk q => by obtain ⟨q0, q1, qP, qK, qD⟩ := q; exact ⟨q0, q1, qP, va_K.moved (u := U) (U := U.calling g mk a) (Vm.Alike.refl U.vm) qK, qD⟩, va_recv hK hPc (ci := 5) (q0 := 0) rfl rfl, fun U hU hW => ⟨rfl, by rw [hU], by rw [hU]; exact hPc, va_K.moved hW.alike hK, hDc.weaken (fun _ _ _ _ => trivial)⟩⟩ rfl rfl hl.1 rfl (lv_room (Nat.le_of_ble_eq_true rfl)) nd_Ref_mayKeep_48 ⟨Nat.zero_le _, Nat.zero_le _⟩) hS (fun q _ h => hFc q h) hFc (fun r_13 u t H1 locs ht hvm hw hB hz1 hk1 hS => ?_)
        obtain ⟨hP1, hK1, hD1⟩ := hB
        rw [ht] at hP1
        have w_14 := hw
        try rw [← w_14] at hM
        have hP := hP1
        have hD := cr_Dw hD1 hFc
        generalize H1 = H at hP hS ⊢
        refine lv_aload_n hx hb nd_Ref_mayKeep_51 rfl (lv_at hl 0 rfl) ?_
        refine va_get (D := (dC, dI)) (ci := 5) (v := .ref (arf 1)) (C := "CeilingRowsModel") (T := nf_Ref) (N := 22) hx hb hts nin_Ref hown hK hP 0 rfl rfl 1 (by decide) (hts _ tw_414) (fun _ h9 => h9) rfl nd_Ref_mayKeep_52 ?_
        refine lv_iload_n hx hb nd_Ref_mayKeep_55 rfl (lv_at hl 2 rfl) ?_
        have b_15 : vp_in x2 11 := vp_in_iff.mpr (by omega)
        refine va_iald hx hb hK hP 1 0 rfl rfl b_15 nd_Ref_mayKeep_56 ?_
        refine lv_icmp_lt (tgt := 64) hx hb nd_Ref_mayKeep_57 (by decide) (fun c_16 => ?_) (fun c_16 => ?_)
        · have c_16t := cr_lt c_16
          rw [if_pos c_16] at hM
          refine lv_iconst (v := 0) hx hb nd_Ref_mayKeep_64 (by decide) ?_
          exact W.zret (v := (0 : Int32)) (ty := .boolean) hx hb hr (by decide) (fun t ht hW => ⟨⟨(0 : Int32), (), rfl, by rw [hT, ← hM], by rw [ht]; exact hP, va_K.moved hW.alike hK, hD⟩, hS.F ht⟩) hS.2.2 nd_Ref_mayKeep_65
        · have c_16t := cr_nlt c_16
          rw [if_neg c_16] at hM
          refine lv_iconst (v := 1) hx hb nd_Ref_mayKeep_60 (by decide) ?_
          refine lv_goto (tgt := 65) hx hb nd_Ref_mayKeep_61 (by decide) ?_
          exact W.zret (v := (1 : Int32)) (ty := .boolean) hx hb hr (by decide) (fun t ht hW => ⟨⟨(1 : Int32), (), rfl, by rw [hT, ← hM], by rw [ht]; exact hP, va_K.moved hW.alike hK, hD⟩, hS.F ht⟩) hS.2.2 nd_Ref_mayKeep_65

theorem nd_Ref_blocking_0 : decode prog_7_method_19_code 0 = .ok (.aload_n 0, 1) := by decide +kernel
theorem nd_Ref_blocking_1 : decode prog_7_method_19_code 1 = .ok (.iload_n 1, 1) := by decide +kernel
theorem nd_Ref_blocking_2 : decode prog_7_method_19_code 2 = .ok (.invokevirtual 70, 3) := by decide +kernel
theorem nd_Ref_blocking_5 : decode prog_7_method_19_code 5 = .ok (.ifCond .ne (7), 3) := by decide +kernel
theorem nd_Ref_blocking_8 : decode prog_7_method_19_code 8 = .ok (.ldc2_w 112, 3) := by decide +kernel
theorem nd_Ref_blocking_11 : decode prog_7_method_19_code 11 = .ok (.lreturn, 1) := by decide +kernel
theorem nd_Ref_blocking_12 : decode prog_7_method_19_code 12 = .ok (.lconst 0, 1) := by decide +kernel
theorem nd_Ref_blocking_13 : decode prog_7_method_19_code 13 = .ok (.lstore_n 2, 1) := by decide +kernel
theorem nd_Ref_blocking_14 : decode prog_7_method_19_code 14 = .ok (.iconst 1, 1) := by decide +kernel
theorem nd_Ref_blocking_15 : decode prog_7_method_19_code 15 = .ok (.istore 4, 2) := by decide +kernel
theorem nd_Ref_blocking_17 : decode prog_7_method_19_code 17 = .ok (.iload 4, 2) := by decide +kernel
theorem nd_Ref_blocking_19 : decode prog_7_method_19_code 19 = .ok (.aload_n 0, 1) := by decide +kernel
theorem nd_Ref_blocking_20 : decode prog_7_method_19_code 20 = .ok (.getfield 63, 3) := by decide +kernel
theorem nd_Ref_blocking_23 : decode prog_7_method_19_code 23 = .ok (.if_icmp .gt (75), 3) := by decide +kernel
theorem nd_Ref_blocking_26 : decode prog_7_method_19_code 26 = .ok (.iconst 1, 1) := by decide +kernel
theorem nd_Ref_blocking_27 : decode prog_7_method_19_code 27 = .ok (.istore 5, 2) := by decide +kernel
theorem nd_Ref_blocking_29 : decode prog_7_method_19_code 29 = .ok (.iload 5, 2) := by decide +kernel
theorem nd_Ref_blocking_31 : decode prog_7_method_19_code 31 = .ok (.aload_n 0, 1) := by decide +kernel
theorem nd_Ref_blocking_32 : decode prog_7_method_19_code 32 = .ok (.getfield 67, 3) := by decide +kernel
theorem nd_Ref_blocking_35 : decode prog_7_method_19_code 35 = .ok (.if_icmp .gt (57), 3) := by decide +kernel
theorem nd_Ref_blocking_38 : decode prog_7_method_19_code 38 = .ok (.aload_n 0, 1) := by decide +kernel
theorem nd_Ref_blocking_39 : decode prog_7_method_19_code 39 = .ok (.iload 4, 2) := by decide +kernel
theorem nd_Ref_blocking_41 : decode prog_7_method_19_code 41 = .ok (.iload_n 1, 1) := by decide +kernel
theorem nd_Ref_blocking_42 : decode prog_7_method_19_code 42 = .ok (.iload 5, 2) := by decide +kernel
theorem nd_Ref_blocking_44 : decode prog_7_method_19_code 44 = .ok (.invokevirtual 114, 3) := by decide +kernel
theorem nd_Ref_blocking_47 : decode prog_7_method_19_code 47 = .ok (.ifCond .eq (37), 3) := by decide +kernel
theorem nd_Ref_blocking_50 : decode prog_7_method_19_code 50 = .ok (.aload_n 0, 1) := by decide +kernel
theorem nd_Ref_blocking_51 : decode prog_7_method_19_code 51 = .ok (.getfield 26, 3) := by decide +kernel
theorem nd_Ref_blocking_54 : decode prog_7_method_19_code 54 = .ok (.bipush 9, 2) := by decide +kernel
theorem nd_Ref_blocking_56 : decode prog_7_method_19_code 56 = .ok (.iload 4, 2) := by decide +kernel
theorem nd_Ref_blocking_58 : decode prog_7_method_19_code 58 = .ok (.imul, 1) := by decide +kernel
theorem nd_Ref_blocking_59 : decode prog_7_method_19_code 59 = .ok (.iload 5, 2) := by decide +kernel
theorem nd_Ref_blocking_61 : decode prog_7_method_19_code 61 = .ok (.iadd, 1) := by decide +kernel
theorem nd_Ref_blocking_62 : decode prog_7_method_19_code 62 = .ok (.laload, 1) := by decide +kernel
theorem nd_Ref_blocking_63 : decode prog_7_method_19_code 63 = .ok (.lload_n 2, 1) := by decide +kernel
theorem nd_Ref_blocking_64 : decode prog_7_method_19_code 64 = .ok (.lcmp, 1) := by decide +kernel
theorem nd_Ref_blocking_65 : decode prog_7_method_19_code 65 = .ok (.ifCond .le (19), 3) := by decide +kernel
theorem nd_Ref_blocking_68 : decode prog_7_method_19_code 68 = .ok (.aload_n 0, 1) := by decide +kernel
theorem nd_Ref_blocking_69 : decode prog_7_method_19_code 69 = .ok (.getfield 26, 3) := by decide +kernel
theorem nd_Ref_blocking_72 : decode prog_7_method_19_code 72 = .ok (.bipush 9, 2) := by decide +kernel
theorem nd_Ref_blocking_74 : decode prog_7_method_19_code 74 = .ok (.iload 4, 2) := by decide +kernel
theorem nd_Ref_blocking_76 : decode prog_7_method_19_code 76 = .ok (.imul, 1) := by decide +kernel
theorem nd_Ref_blocking_77 : decode prog_7_method_19_code 77 = .ok (.iload 5, 2) := by decide +kernel
theorem nd_Ref_blocking_79 : decode prog_7_method_19_code 79 = .ok (.iadd, 1) := by decide +kernel
theorem nd_Ref_blocking_80 : decode prog_7_method_19_code 80 = .ok (.laload, 1) := by decide +kernel
theorem nd_Ref_blocking_81 : decode prog_7_method_19_code 81 = .ok (.goto (4), 3) := by decide +kernel
theorem nd_Ref_blocking_84 : decode prog_7_method_19_code 84 = .ok (.lload_n 2, 1) := by decide +kernel
theorem nd_Ref_blocking_85 : decode prog_7_method_19_code 85 = .ok (.lstore_n 2, 1) := by decide +kernel
theorem nd_Ref_blocking_86 : decode prog_7_method_19_code 86 = .ok (.iinc 5 1, 3) := by decide +kernel
theorem nd_Ref_blocking_89 : decode prog_7_method_19_code 89 = .ok (.goto (-60), 3) := by decide +kernel
theorem nd_Ref_blocking_92 : decode prog_7_method_19_code 92 = .ok (.iinc 4 1, 3) := by decide +kernel
theorem nd_Ref_blocking_95 : decode prog_7_method_19_code 95 = .ok (.goto (-78), 3) := by decide +kernel
theorem nd_Ref_blocking_98 : decode prog_7_method_19_code 98 = .ok (.lload_n 2, 1) := by decide +kernel
theorem nd_Ref_blocking_99 : decode prog_7_method_19_code 99 = .ok (.lreturn, 1) := by decide +kernel
abbrev pq_Ref_blocking (dC : Nat → ClassId) (dI : Nat → Nat → Nat) (cI cZ cJ : ClassId) (arf : Nat → Nat) (rf : cr_S) (lat : Int64) (ln : (Nat → Int64)) (x1 : Int32) (A : Nat → Prop) : Array Value → State → Outcome → State → Prop :=
  va_Ql (fun (r : Int64) (_ : Unit) => r = md_Ref_blocking rf lat ln x1) (fun (_ : Unit) t => va_P (dC, dI) vwCl (cw_Ref cI cZ cJ arf rf lat ln) t.heap ∧ va_K (dC, dI) vwCl [(cI, .int), (cZ, .boolean), (cJ, .long)] t ∧ va_D A (cw_Ref cI cZ cJ arf rf lat ln)) A
set_option maxHeartbeats 4000000 in
set_option maxRecDepth 100000 in
theorem ct_Ref_blocking (l : Launch) (dC : Nat → ClassId) (dI : Nat → Nat → Nat) (cI cZ cJ : ClassId) (arf : Nat → Nat) (sz : Nat) (rf : cr_S) (lat : Int64) (ln : (Nat → Int64)) (x1 : Int32) (hR_rf : cr_RRef rf) : Met l ny_Ref_blocking nw_Ref_blocking ({ frames := 2, cells := 0, slots := 0, locals := 46 } : Room) (va_Pc [.ref (arf 0), .int x1] (fun U => U.heap.size = sz ∧ va_P (dC, dI) vwCl (cw_Ref cI cZ cJ arf rf lat ln) U.heap ∧ va_K (dC, dI) vwCl [(cI, .int), (cZ, .boolean), (cJ, .long)] U ∧ va_D (fun _ => True) (cw_Ref cI cZ cJ arf rf lat ln))) (pq_Ref_blocking dC dI cI cZ cJ arf rf lat ln x1 (va_A (cw_Ref cI cZ cJ arf rf lat ln) sz)) 0 0 (va_A (cw_Ref cI cZ cJ arf rf lat ln) sz) := by
  refine Met.ofW (cc := prog_7_method_19_code) (maxL := 6) (ret := (some .long)) (by decide) rfl ?_
  intro p e s m args below meth c s₁ B hml hv
  obtain ⟨rfl, hsz, hP, hK, hD0⟩ := hv
  have hx := B.exec
  have hb := B.bytes
  have hr := B.returns
  have hts0 := atoms_spec (ws := nw_Ref_blocking) B.pre
  have hts : ∀ w ∈ ng_tbl, w.before ([.ref (arf 0), .int x1] : List Value).toArray s = true := fun w h => hts0 w (List.mem_cons_of_mem _ h)
  have hown : s.vm.findClass "CeilingRowsModel" = some m.cls := findClass_of_methodNamed B.named
  have hlocks := B.notSynchronized
  subst hsz
  have hD := hD0.self (sz := s.heap.size)
  generalize hAe : va_A (cw_Ref cI cZ cJ arf rf lat ln) s.heap.size = A at hD ⊢
  have hA : ∀ q : Nat, s.heap.size ≤ q → A q := fun q h => by rw [← hAe]; exact Or.inr h
  have hS : va_S A s.heap s.heap [] := va_S.rf
  have hP : va_P (dC, dI) vwCl (cw_Ref cI cZ cJ arf rf lat ln) s.heap := hP
  have hl := lv_entry ([.ref (arf 0), .int x1]) (n := 6) (Nat.le_of_ble_eq_true rfl)
  rw [lg_entry_eq]
  generalize (lg_sl ([.ref (arf 0), .int x1]) ++ List.replicate (6 - (lg_sl ([.ref (arf 0), .int x1])).length) Slot.unset).toArray = ls at hl ⊢
  have hl : lv_has ls 6 [(0, .ref (arf 0)), (1, .int x1)] := hl
  have f0_rf_0 := cr_rfo hR_rf.1
  have f0_rf_1 := cr_rfo hR_rf.2.1
  have k_0 : (0 : Int32).toInt = 0 := by decide
  have k_1 : (1 : Int32).toInt = 1 := by decide
  have k_9 : (9 : Int32).toInt = 9 := by decide
  obtain ⟨tgt, hT⟩ : ∃ z, md_Ref_blocking rf lat ln x1 = z := ⟨_, rfl⟩
  have hM := hT
  unfold md_Ref_blocking at hM
  refine lv_aload_n hx hb nd_Ref_blocking_0 rfl (lv_at hl 0 rfl) ?_
  refine lv_iload_n hx hb nd_Ref_blocking_1 rfl (lv_at hl 1 rfl) ?_
  have hPc := hP
  have hDc := hD
  have hFc := va_free (wc := cw_Ref cI cZ cJ arf rf lat ln) hD hS hA [0, 1, 2, 3, 4, 5, 6, 7, 8, 9, 10, 11, 12, 13, 14, 15, 16, 17] rfl
  refine va_calli (va_runV (As := [.int x1]) (rest := []) ⟨hx, hb, hml, hown, hts⟩ (ct_Ref_isTask l dC dI cI cZ cJ arf s.heap.size rf lat ln x1 hR_rf) (cwV 1 hts (ng_V tw_493 tw_495 tp_18 tw_6 tw_496) rfl rfl rfl (by decide +kernel) ⟨Nat.le_of_ble_eq_true rfl, Nat.le_of_ble_eq_true rfl⟩) ⟨fun a U g mk q => by obtain ⟨q0, q1, qP, qK, qD⟩ := q; exact ⟨q0, q1, qP, va_K.moved (u := U) (U := U.calling g mk a) (Vm.Alike.refl U.vm) qK, qD⟩, va_recv hK hPc (ci := 5) (q0 := 0) rfl rfl, fun U hU hW => ⟨rfl, by rw [hU], by rw [hU]; exact hPc, va_K.moved hW.alike hK, hDc.weaken (fun _ _ _ _ => trivial)⟩⟩ rfl rfl hl.1 rfl (lv_room (Nat.le_of_ble_eq_true rfl)) nd_Ref_blocking_2 ⟨Nat.zero_le _, Nat.zero_le _⟩) hS (fun q _ h => hFc q h) hFc (fun r_1 u t H1 locs ht hvm hw hB hz1 hk1 hS => ?_)
  obtain ⟨hP1, hK1, hD1⟩ := hB
  rw [ht] at hP1
  obtain ⟨w_2, f_3⟩ := hw
  try rw [← w_2] at hM
  have hP := hP1
  have hD := cr_Dw hD1 hFc
  generalize H1 = H at hP hS ⊢
  refine lv_if_ne (tgt := 12) hx hb nd_Ref_blocking_5 (by decide) (fun c_4 => ?_) (fun c_4 => ?_)
  · have c_4t := cr_ne c_4
    rw [if_neg c_4] at hM
    refine lv_lconst (v := 0) hx hb nd_Ref_blocking_12 (by decide) ?_
    refine lv_lstore_n (lv' := [(2, .long (0 : Int64)), (0, .ref (arf 0)), (1, .int x1)]) hx hb nd_Ref_blocking_13 rfl hl (by decide) rfl (fun ls hl => ?_)
    refine lv_iconst (v := 1) hx hb nd_Ref_blocking_14 (by decide) ?_
    refine lv_istore (lv' := [(4, .int (1 : Int32)), (2, .long (0 : Int64)), (0, .ref (arf 0)), (1, .int x1)]) hx hb nd_Ref_blocking_15 hl (by decide) rfl (fun ls hl => ?_)
    have hl := lv_sub hl [2, 3, 1, 0] rfl
    have lp_17 : ∀ (n_17 : Nat) (v2_17 : Int64) (v4_17 : Int32), (1 ≤ v4_17.toInt ∧ v4_17.toInt ≤ 11) → (11 < v4_17.toInt + (n_17 : Int)) → lo_Ref_blocking_17 rf lat ln x1 n_17 v2_17 v4_17 = tgt → ∀ (H : Heap) (locs : List Loc), va_P (dC, dI) vwCl (cw_Ref cI cZ cJ arf rf lat ln) H → va_D A (cw_Ref cI cZ cJ arf rf lat ln) → va_S A s.heap H locs → ∀ ls : Array Slot, lv_has ls 6 [(0, .ref (arf 0)), (1, .int x1), (2, .long v2_17), (4, .int v4_17)] → W p l e (headSpec nw_Ref_blocking ({ frames := 2, cells := 0, slots := 0, locals := 46 } : Room)).room s m ([.ref (arf 0), .int x1] : List Value).toArray below meth c H locs 0 0 (MQ below (pq_Ref_blocking dC dI cI cZ cJ arf rf lat ln x1 A) ([.ref (arf 0), .int x1] : List Value).toArray s 0 0 A) (F0 m 17 ls []) := by
      intro n_17
      induction n_17 with
      | zero =>
        intro v2_17 v4_17 hv4_17 hn_17
        exfalso; omega
      | succ n_17 ih_17 =>
        intro v2_17 v4_17 hv4_17 hn_17 hM H locs hP hD hS ls hl
        have hn_17 : 11 < v4_17.toInt + ((n_17 : Int) + 1) := by omega
        rw [lo_Ref_blocking_17] at hM
        refine lv_iload hx hb nd_Ref_blocking_17 (lv_at hl 3 rfl) ?_
        refine lv_aload_n hx hb nd_Ref_blocking_19 rfl (lv_at hl 0 rfl) ?_
        refine va_get (D := (dC, dI)) (ci := 5) (v := .int (rf 0 0)) (C := "CeilingRowsModel") (T := nf_Ref) (N := 22) hx hb hts nin_Ref hown hK hP 0 rfl rfl 0 (by decide) (hts _ tw_413) (fun _ h9 => h9) rfl nd_Ref_blocking_20 ?_
        have f_5 := cr_rfo hR_rf.1
        refine lv_icmp_gt (tgt := 98) hx hb nd_Ref_blocking_23 (by decide) (fun c_6 => ?_) (fun c_6 => ?_)
        · have c_6t := cr_lt c_6
          rw [if_pos c_6] at hM
          refine lv_lload_n hx hb nd_Ref_blocking_98 rfl (lv_at hl 2 rfl) ?_
          exact W.lret (v := v2_17) hx hb hr (fun t ht hW => ⟨⟨v2_17, (), rfl, by rw [hT, ← hM], by rw [ht]; exact hP, va_K.moved hW.alike hK, hD⟩, hS.F ht⟩) hS.2.2 nd_Ref_blocking_99
        · have c_6t := cr_nlt c_6
          rw [if_neg c_6] at hM
          refine lv_iconst (v := 1) hx hb nd_Ref_blocking_26 (by decide) ?_
          refine lv_istore (lv' := [(5, .int (1 : Int32)), (0, .ref (arf 0)), (1, .int x1), (2, .long v2_17), (4, .int v4_17)]) hx hb nd_Ref_blocking_27 hl (by decide) rfl (fun ls hl => ?_)
          have hl := lv_sub hl [1, 2, 3, 4, 0] rfl
          obtain ⟨ti_29, hti_29⟩ : ∃ z, lo_Ref_blocking_29 rf lat ln x1 v4_17 9 v2_17 (1 : Int32) = z := ⟨_, rfl⟩
          try rw [hti_29] at hM
          have hex_29 : ∀ (H : Heap) (locs : List Loc), va_P (dC, dI) vwCl (cw_Ref cI cZ cJ arf rf lat ln) H → va_D A (cw_Ref cI cZ cJ arf rf lat ln) → va_S A s.heap H locs → ∀ ls : Array Slot, lv_has ls 6 [(0, .ref (arf 0)), (1, .int x1), (2, .long ti_29), (4, .int v4_17)] → W p l e (headSpec nw_Ref_blocking ({ frames := 2, cells := 0, slots := 0, locals := 46 } : Room)).room s m ([.ref (arf 0), .int x1] : List Value).toArray below meth c H locs 0 0 (MQ below (pq_Ref_blocking dC dI cI cZ cJ arf rf lat ln x1 A) ([.ref (arf 0), .int x1] : List Value).toArray s 0 0 A) (F0 m 92 ls []) := by
            intro  H locs hP hD hS ls hl
            have e_7 : (v4_17 + (1 : Int32)).toInt = v4_17.toInt + (1 : Int32).toInt := cr_add (by omega)
            refine lv_iinc (v := (v4_17 + (1 : Int32))) (lv' := [(4, .int (v4_17 + (1 : Int32))), (0, .ref (arf 0)), (1, .int x1), (2, .long ti_29)]) hx hb nd_Ref_blocking_92 hl (k := 3) rfl (by rfl) (by decide) rfl (fun ls hl => ?_)
            refine lv_goto (tgt := 17) hx hb nd_Ref_blocking_95 (by decide) ?_
            exact ih_17 ti_29 (v4_17 + (1 : Int32)) (by omega) (by omega) hM _ _ hP hD hS _ (lv_sub hl [1, 2, 3, 0] rfl)
          have lp_29 : ∀ (n_29 : Nat) (v2_29 : Int64) (v5_29 : Int32), (1 ≤ v5_29.toInt ∧ v5_29.toInt ≤ 9) → (9 < v5_29.toInt + (n_29 : Int)) → lo_Ref_blocking_29 rf lat ln x1 v4_17 n_29 v2_29 v5_29 = ti_29 → ∀ (H : Heap) (locs : List Loc), va_P (dC, dI) vwCl (cw_Ref cI cZ cJ arf rf lat ln) H → va_D A (cw_Ref cI cZ cJ arf rf lat ln) → va_S A s.heap H locs → ∀ ls : Array Slot, lv_has ls 6 [(0, .ref (arf 0)), (1, .int x1), (2, .long v2_29), (4, .int v4_17), (5, .int v5_29)] → W p l e (headSpec nw_Ref_blocking ({ frames := 2, cells := 0, slots := 0, locals := 46 } : Room)).room s m ([.ref (arf 0), .int x1] : List Value).toArray below meth c H locs 0 0 (MQ below (pq_Ref_blocking dC dI cI cZ cJ arf rf lat ln x1 A) ([.ref (arf 0), .int x1] : List Value).toArray s 0 0 A) (F0 m 29 ls []) := by
            try clear hM
            intro n_29
            induction n_29 with
            | zero =>
              intro v2_29 v5_29 hv5_29 hn_29
              exfalso; omega
            | succ n_29 ih_29 =>
              intro v2_29 v5_29 hv5_29 hn_29 hM H locs hP hD hS ls hl
              have hn_29 : 9 < v5_29.toInt + ((n_29 : Int) + 1) := by omega
              rw [lo_Ref_blocking_29] at hM
              refine lv_iload hx hb nd_Ref_blocking_29 (lv_at hl 4 rfl) ?_
              refine lv_aload_n hx hb nd_Ref_blocking_31 rfl (lv_at hl 0 rfl) ?_
              refine va_get (D := (dC, dI)) (ci := 5) (v := .int (rf 0 2)) (C := "CeilingRowsModel") (T := nf_Ref) (N := 22) hx hb hts nin_Ref hown hK hP 0 rfl rfl 7 (by decide) (hts _ tw_420) (fun _ h9 => h9) rfl nd_Ref_blocking_32 ?_
              have f_8 := cr_rfo hR_rf.2.1
              refine lv_icmp_gt (tgt := 92) hx hb nd_Ref_blocking_35 (by decide) (fun c_9 => ?_) (fun c_9 => ?_)
              · have c_9t := cr_lt c_9
                rw [if_pos c_9] at hM
                subst hM
                exact hex_29  _ _ hP hD hS _ (lv_sub hl [0, 1, 2, 3] rfl)
              · have c_9t := cr_nlt c_9
                rw [if_neg c_9] at hM
                refine lv_aload_n hx hb nd_Ref_blocking_38 rfl (lv_at hl 0 rfl) ?_
                refine lv_iload hx hb nd_Ref_blocking_39 (lv_at hl 3 rfl) ?_
                refine lv_iload_n hx hb nd_Ref_blocking_41 rfl (lv_at hl 1 rfl) ?_
                refine lv_iload hx hb nd_Ref_blocking_42 (lv_at hl 4 rfl) ?_
                have hPc := hP
                have hDc := hD
                have hFc := va_free (wc := cw_Ref cI cZ cJ arf rf lat ln) hD hS hA [0, 1, 2, 3, 4, 5, 6, 7, 8, 9, 10, 11, 12, 13, 14, 15, 16, 17] rfl
                refine va_calli (va_runV (As := [.int v4_17, .int x1, .int v5_29]) (rest := []) ⟨hx, hb, hml, hown, hts⟩ (ct_Ref_mayKeep l dC dI cI cZ cJ arf H.size rf lat ln v4_17 x1 v5_29 hR_rf (by omega) (by omega) (by omega)) (cwV 3 hts (ng_V tw_552 tw_554 tp_27 tw_6 tw_555) rfl rfl rfl (by decide +kernel) ⟨Nat.le_of_ble_eq_true rfl, Nat.le_of_ble_eq_true rfl⟩) ⟨fun a U g mk q => by obtain ⟨q0, q1, qP, qK, qD⟩ := q; exact ⟨q0, q1, qP, va_K.moved (u := U) (U := U.calling g mk a) (Vm.Alike.refl U.vm) qK, qD⟩, va_recv hK hPc (ci := 5) (q0 := 0) rfl rfl, fun U hU hW => ⟨rfl, by rw [hU], by rw [hU]; exact hPc, va_K.moved hW.alike hK, hDc.weaken (fun _ _ _ _ => trivial)⟩⟩ rfl rfl hl.1 rfl (lv_room (Nat.le_of_ble_eq_true rfl)) nd_Ref_blocking_44 ⟨Nat.zero_le _, Nat.zero_le _⟩) hS (fun q _ h => hFc q h) hFc (fun r_10 u t H1 locs ht hvm hw hB hz1 hk1 hS => ?_)
                obtain ⟨hP1, hK1, hD1⟩ := hB
                rw [ht] at hP1
                have w_11 := hw
                try rw [← w_11] at hM
                have hP := hP1
                have hD := cr_Dw hD1 hFc
                generalize H1 = H at hP hS ⊢
                refine lv_if_eq (tgt := 84) hx hb nd_Ref_blocking_47 (by decide) (fun c_12 => ?_) (fun c_12 => ?_)
                · have c_12t := cr_eq c_12
                  rw [if_pos c_12] at hM
                  refine lv_lload_n hx hb nd_Ref_blocking_84 rfl (lv_at hl 2 rfl) ?_
                  refine lv_lstore_n (lv' := [(2, .long v2_29), (0, .ref (arf 0)), (1, .int x1), (4, .int v4_17), (5, .int v5_29)]) hx hb nd_Ref_blocking_85 rfl hl (by decide) rfl (fun ls hl => ?_)
                  have e_13 : (v5_29 + (1 : Int32)).toInt = v5_29.toInt + (1 : Int32).toInt := cr_add (by omega)
                  refine lv_iinc (v := (v5_29 + (1 : Int32))) (lv' := [(5, .int (v5_29 + (1 : Int32))), (2, .long v2_29), (0, .ref (arf 0)), (1, .int x1), (4, .int v4_17)]) hx hb nd_Ref_blocking_86 hl (k := 4) rfl (by rfl) (by decide) rfl (fun ls hl => ?_)
                  refine lv_goto (tgt := 29) hx hb nd_Ref_blocking_89 (by decide) ?_
                  exact ih_29 v2_29 (v5_29 + (1 : Int32)) (by omega) (by omega) hM _ _ hP hD hS _ (lv_sub hl [2, 3, 1, 4, 0] rfl)
                · have c_12t := cr_ne c_12
                  rw [if_neg c_12] at hM
                  refine lv_aload_n hx hb nd_Ref_blocking_50 rfl (lv_at hl 0 rfl) ?_
                  refine va_get (D := (dC, dI)) (ci := 5) (v := .ref (arf 6)) (C := "CeilingRowsModel") (T := nf_Ref) (N := 22) hx hb hts nin_Ref hown hK hP 0 rfl rfl 8 (by decide) (hts _ tw_421) (fun _ h9 => h9) rfl nd_Ref_blocking_51 ?_
                  refine lv_bipush (v := 9) hx hb nd_Ref_blocking_54 (by decide) ?_
                  refine lv_iload hx hb nd_Ref_blocking_56 (lv_at hl 3 rfl) ?_
                  refine lv_imul hx hb nd_Ref_blocking_58 ?_
                  have e_14 : ((9 : Int32) * v4_17).toInt = 9 * v4_17.toInt := cr_mulL 9 k_9 (by omega)
                  refine lv_iload hx hb nd_Ref_blocking_59 (lv_at hl 4 rfl) ?_
                  refine lv_iadd hx hb nd_Ref_blocking_61 ?_
                  have e_15 : (((9 : Int32) * v4_17) + v5_29).toInt = ((9 : Int32) * v4_17).toInt + v5_29.toInt := cr_add (by omega)
                  have b_16 : vp_in (((9 : Int32) * v4_17) + v5_29) 99 := vp_in_iff.mpr (by omega)
                  refine va_lald hx hb hK hP 6 2 rfl rfl b_16 nd_Ref_blocking_62 ?_
                  refine lv_lload_n hx hb nd_Ref_blocking_63 rfl (lv_at hl 2 rfl) ?_
                  refine W.lcmp hx hb nd_Ref_blocking_64 ?_
                  refine lv_if_le (tgt := 84) hx hb nd_Ref_blocking_65 (by decide) (fun c_17 => ?_) (fun c_17 => ?_)
                  · have c_17t := cr_le c_17
                    rw [if_pos c_17] at hM
                    refine lv_lload_n hx hb nd_Ref_blocking_84 rfl (lv_at hl 2 rfl) ?_
                    refine lv_lstore_n (lv' := [(2, .long v2_29), (0, .ref (arf 0)), (1, .int x1), (4, .int v4_17), (5, .int v5_29)]) hx hb nd_Ref_blocking_85 rfl hl (by decide) rfl (fun ls hl => ?_)
                    have e_18 : (v5_29 + (1 : Int32)).toInt = v5_29.toInt + (1 : Int32).toInt := cr_add (by omega)
                    refine lv_iinc (v := (v5_29 + (1 : Int32))) (lv' := [(5, .int (v5_29 + (1 : Int32))), (2, .long v2_29), (0, .ref (arf 0)), (1, .int x1), (4, .int v4_17)]) hx hb nd_Ref_blocking_86 hl (k := 4) rfl (by rfl) (by decide) rfl (fun ls hl => ?_)
                    refine lv_goto (tgt := 29) hx hb nd_Ref_blocking_89 (by decide) ?_
                    exact ih_29 v2_29 (v5_29 + (1 : Int32)) (by omega) (by omega) hM _ _ hP hD hS _ (lv_sub hl [2, 3, 1, 4, 0] rfl)
                  · have c_17t := cr_nle c_17
                    rw [if_neg c_17] at hM
                    refine lv_aload_n hx hb nd_Ref_blocking_68 rfl (lv_at hl 0 rfl) ?_
                    refine va_get (D := (dC, dI)) (ci := 5) (v := .ref (arf 6)) (C := "CeilingRowsModel") (T := nf_Ref) (N := 22) hx hb hts nin_Ref hown hK hP 0 rfl rfl 8 (by decide) (hts _ tw_421) (fun _ h9 => h9) rfl nd_Ref_blocking_69 ?_
                    refine lv_bipush (v := 9) hx hb nd_Ref_blocking_72 (by decide) ?_
                    refine lv_iload hx hb nd_Ref_blocking_74 (lv_at hl 3 rfl) ?_
                    refine lv_imul hx hb nd_Ref_blocking_76 ?_
                    have e_19 : ((9 : Int32) * v4_17).toInt = 9 * v4_17.toInt := cr_mulL 9 k_9 (by omega)
                    refine lv_iload hx hb nd_Ref_blocking_77 (lv_at hl 4 rfl) ?_
                    refine lv_iadd hx hb nd_Ref_blocking_79 ?_
                    have e_20 : (((9 : Int32) * v4_17) + v5_29).toInt = ((9 : Int32) * v4_17).toInt + v5_29.toInt := cr_add (by omega)
                    have b_21 : vp_in (((9 : Int32) * v4_17) + v5_29) 99 := vp_in_iff.mpr (by omega)
                    refine va_lald hx hb hK hP 6 2 rfl rfl b_21 nd_Ref_blocking_80 ?_
                    refine lv_goto (tgt := 85) hx hb nd_Ref_blocking_81 (by decide) ?_
                    refine lv_lstore_n (lv' := [(2, .long (ln (((9 : Int32) * v4_17) + v5_29).toNatClampNeg)), (0, .ref (arf 0)), (1, .int x1), (4, .int v4_17), (5, .int v5_29)]) hx hb nd_Ref_blocking_85 rfl hl (by decide) rfl (fun ls hl => ?_)
                    have e_22 : (v5_29 + (1 : Int32)).toInt = v5_29.toInt + (1 : Int32).toInt := cr_add (by omega)
                    refine lv_iinc (v := (v5_29 + (1 : Int32))) (lv' := [(5, .int (v5_29 + (1 : Int32))), (2, .long (ln (((9 : Int32) * v4_17) + v5_29).toNatClampNeg)), (0, .ref (arf 0)), (1, .int x1), (4, .int v4_17)]) hx hb nd_Ref_blocking_86 hl (k := 4) rfl (by rfl) (by decide) rfl (fun ls hl => ?_)
                    refine lv_goto (tgt := 29) hx hb nd_Ref_blocking_89 (by decide) ?_
                    exact ih_29 (ln (((9 : Int32) * v4_17) + v5_29).toNatClampNeg) (v5_29 + (1 : Int32)) (by omega) (by omega) hM _ _ hP hD hS _ (lv_sub hl [2, 3, 1, 4, 0] rfl)
          exact lp_29 9 v2_17 (1 : Int32) (by omega) (by omega) hti_29 _ _ hP hD hS _ hl
    exact lp_17 11 (0 : Int64) (1 : Int32) (by omega) (by omega) hM _ _ hP hD hS _ hl
  · have c_4t := cr_eq c_4
    rw [if_pos c_4] at hM
    refine lv_ldc2 (v := -1) hx hb hown (hts _ tw_551) nd_Ref_blocking_8 ?_
    exact W.lret (v := (-1 : Int64)) hx hb hr (fun t ht hW => ⟨⟨(-1 : Int64), (), rfl, by rw [hT, ← hM], by rw [ht]; exact hP, va_K.moved hW.alike hK, hD⟩, hS.F ht⟩) hS.2.2 nd_Ref_blocking_11

theorem nd_Ref_lower_0 : decode prog_7_method_20_code 0 = .ok (.aload_n 0, 1) := by decide +kernel
theorem nd_Ref_lower_1 : decode prog_7_method_20_code 1 = .ok (.iload_n 1, 1) := by decide +kernel
theorem nd_Ref_lower_2 : decode prog_7_method_20_code 2 = .ok (.invokevirtual 70, 3) := by decide +kernel
theorem nd_Ref_lower_5 : decode prog_7_method_20_code 5 = .ok (.ifCond .ne (5), 3) := by decide +kernel
theorem nd_Ref_lower_8 : decode prog_7_method_20_code 8 = .ok (.iconst (-1), 1) := by decide +kernel
theorem nd_Ref_lower_9 : decode prog_7_method_20_code 9 = .ok (.ireturn, 1) := by decide +kernel
theorem nd_Ref_lower_10 : decode prog_7_method_20_code 10 = .ok (.iload_n 2, 1) := by decide +kernel
theorem nd_Ref_lower_11 : decode prog_7_method_20_code 11 = .ok (.istore_n 3, 1) := by decide +kernel
theorem nd_Ref_lower_12 : decode prog_7_method_20_code 12 = .ok (.iconst 1, 1) := by decide +kernel
theorem nd_Ref_lower_13 : decode prog_7_method_20_code 13 = .ok (.istore 4, 2) := by decide +kernel
theorem nd_Ref_lower_15 : decode prog_7_method_20_code 15 = .ok (.iload 4, 2) := by decide +kernel
theorem nd_Ref_lower_17 : decode prog_7_method_20_code 17 = .ok (.aload_n 0, 1) := by decide +kernel
theorem nd_Ref_lower_18 : decode prog_7_method_20_code 18 = .ok (.getfield 63, 3) := by decide +kernel
theorem nd_Ref_lower_21 : decode prog_7_method_20_code 21 = .ok (.if_icmp .gt (76), 3) := by decide +kernel
theorem nd_Ref_lower_24 : decode prog_7_method_20_code 24 = .ok (.iload_n 2, 1) := by decide +kernel
theorem nd_Ref_lower_25 : decode prog_7_method_20_code 25 = .ok (.ifCond .lt (72), 3) := by decide +kernel
theorem nd_Ref_lower_28 : decode prog_7_method_20_code 28 = .ok (.iconst 0, 1) := by decide +kernel
theorem nd_Ref_lower_29 : decode prog_7_method_20_code 29 = .ok (.istore 5, 2) := by decide +kernel
theorem nd_Ref_lower_31 : decode prog_7_method_20_code 31 = .ok (.iconst 1, 1) := by decide +kernel
theorem nd_Ref_lower_32 : decode prog_7_method_20_code 32 = .ok (.istore 6, 2) := by decide +kernel
theorem nd_Ref_lower_34 : decode prog_7_method_20_code 34 = .ok (.iload 6, 2) := by decide +kernel
theorem nd_Ref_lower_36 : decode prog_7_method_20_code 36 = .ok (.aload_n 0, 1) := by decide +kernel
theorem nd_Ref_lower_37 : decode prog_7_method_20_code 37 = .ok (.getfield 67, 3) := by decide +kernel
theorem nd_Ref_lower_40 : decode prog_7_method_20_code 40 = .ok (.if_icmp .gt (33), 3) := by decide +kernel
theorem nd_Ref_lower_43 : decode prog_7_method_20_code 43 = .ok (.iload 5, 2) := by decide +kernel
theorem nd_Ref_lower_45 : decode prog_7_method_20_code 45 = .ok (.ifCond .ne (15), 3) := by decide +kernel
theorem nd_Ref_lower_48 : decode prog_7_method_20_code 48 = .ok (.aload_n 0, 1) := by decide +kernel
theorem nd_Ref_lower_49 : decode prog_7_method_20_code 49 = .ok (.iload 4, 2) := by decide +kernel
theorem nd_Ref_lower_51 : decode prog_7_method_20_code 51 = .ok (.iload_n 1, 1) := by decide +kernel
theorem nd_Ref_lower_52 : decode prog_7_method_20_code 52 = .ok (.iload 6, 2) := by decide +kernel
theorem nd_Ref_lower_54 : decode prog_7_method_20_code 54 = .ok (.invokevirtual 114, 3) := by decide +kernel
theorem nd_Ref_lower_57 : decode prog_7_method_20_code 57 = .ok (.ifCond .eq (7), 3) := by decide +kernel
theorem nd_Ref_lower_60 : decode prog_7_method_20_code 60 = .ok (.iconst 1, 1) := by decide +kernel
theorem nd_Ref_lower_61 : decode prog_7_method_20_code 61 = .ok (.goto (4), 3) := by decide +kernel
theorem nd_Ref_lower_64 : decode prog_7_method_20_code 64 = .ok (.iconst 0, 1) := by decide +kernel
theorem nd_Ref_lower_65 : decode prog_7_method_20_code 65 = .ok (.istore 5, 2) := by decide +kernel
theorem nd_Ref_lower_67 : decode prog_7_method_20_code 67 = .ok (.iinc 6 1, 3) := by decide +kernel
theorem nd_Ref_lower_70 : decode prog_7_method_20_code 70 = .ok (.goto (-36), 3) := by decide +kernel
theorem nd_Ref_lower_73 : decode prog_7_method_20_code 73 = .ok (.iload 5, 2) := by decide +kernel
theorem nd_Ref_lower_75 : decode prog_7_method_20_code 75 = .ok (.ifCond .ne (6), 3) := by decide +kernel
theorem nd_Ref_lower_78 : decode prog_7_method_20_code 78 = .ok (.goto (13), 3) := by decide +kernel
theorem nd_Ref_lower_81 : decode prog_7_method_20_code 81 = .ok (.iload_n 3, 1) := by decide +kernel
theorem nd_Ref_lower_82 : decode prog_7_method_20_code 82 = .ok (.ifCond .ne (6), 3) := by decide +kernel
theorem nd_Ref_lower_85 : decode prog_7_method_20_code 85 = .ok (.iload 4, 2) := by decide +kernel
theorem nd_Ref_lower_87 : decode prog_7_method_20_code 87 = .ok (.ireturn, 1) := by decide +kernel
theorem nd_Ref_lower_88 : decode prog_7_method_20_code 88 = .ok (.iinc 3 (-1), 3) := by decide +kernel
theorem nd_Ref_lower_91 : decode prog_7_method_20_code 91 = .ok (.iinc 4 1, 3) := by decide +kernel
theorem nd_Ref_lower_94 : decode prog_7_method_20_code 94 = .ok (.goto (-79), 3) := by decide +kernel
theorem nd_Ref_lower_97 : decode prog_7_method_20_code 97 = .ok (.iconst 0, 1) := by decide +kernel
theorem nd_Ref_lower_98 : decode prog_7_method_20_code 98 = .ok (.ireturn, 1) := by decide +kernel
abbrev pq_Ref_lower (dC : Nat → ClassId) (dI : Nat → Nat → Nat) (cI cZ cJ : ClassId) (arf : Nat → Nat) (rf : cr_S) (lat : Int64) (ln : (Nat → Int64)) (x1 : Int32) (x2 : Int32) (A : Nat → Prop) : Array Value → State → Outcome → State → Prop :=
  va_Qi (fun (r : Int32) (_ : Unit) => r = md_Ref_lower rf lat ln x1 x2) (fun (_ : Unit) t => va_P (dC, dI) vwCl (cw_Ref cI cZ cJ arf rf lat ln) t.heap ∧ va_K (dC, dI) vwCl [(cI, .int), (cZ, .boolean), (cJ, .long)] t ∧ va_D A (cw_Ref cI cZ cJ arf rf lat ln)) A
set_option maxHeartbeats 4000000 in
set_option maxRecDepth 100000 in
theorem ct_Ref_lower (l : Launch) (dC : Nat → ClassId) (dI : Nat → Nat → Nat) (cI cZ cJ : ClassId) (arf : Nat → Nat) (sz : Nat) (rf : cr_S) (lat : Int64) (ln : (Nat → Int64)) (x1 : Int32) (x2 : Int32) (hR_rf : cr_RRef rf) : Met l ny_Ref_lower nw_Ref_lower ({ frames := 2, cells := 0, slots := 0, locals := 46 } : Room) (va_Pc [.ref (arf 0), .int x1, .int x2] (fun U => U.heap.size = sz ∧ va_P (dC, dI) vwCl (cw_Ref cI cZ cJ arf rf lat ln) U.heap ∧ va_K (dC, dI) vwCl [(cI, .int), (cZ, .boolean), (cJ, .long)] U ∧ va_D (fun _ => True) (cw_Ref cI cZ cJ arf rf lat ln))) (pq_Ref_lower dC dI cI cZ cJ arf rf lat ln x1 x2 (va_A (cw_Ref cI cZ cJ arf rf lat ln) sz)) 0 0 (va_A (cw_Ref cI cZ cJ arf rf lat ln) sz) := by
  refine Met.ofW (cc := prog_7_method_20_code) (maxL := 7) (ret := (some .int)) (by decide) rfl ?_
  intro p e s m args below meth c s₁ B hml hv
  obtain ⟨rfl, hsz, hP, hK, hD0⟩ := hv
  have hx := B.exec
  have hb := B.bytes
  have hr := B.returns
  have hts0 := atoms_spec (ws := nw_Ref_lower) B.pre
  have hts : ∀ w ∈ ng_tbl, w.before ([.ref (arf 0), .int x1, .int x2] : List Value).toArray s = true := fun w h => hts0 w (List.mem_cons_of_mem _ h)
  have hown : s.vm.findClass "CeilingRowsModel" = some m.cls := findClass_of_methodNamed B.named
  have hlocks := B.notSynchronized
  subst hsz
  have hD := hD0.self (sz := s.heap.size)
  generalize hAe : va_A (cw_Ref cI cZ cJ arf rf lat ln) s.heap.size = A at hD ⊢
  have hA : ∀ q : Nat, s.heap.size ≤ q → A q := fun q h => by rw [← hAe]; exact Or.inr h
  have hS : va_S A s.heap s.heap [] := va_S.rf
  have hP : va_P (dC, dI) vwCl (cw_Ref cI cZ cJ arf rf lat ln) s.heap := hP
  have hl := lv_entry ([.ref (arf 0), .int x1, .int x2]) (n := 7) (Nat.le_of_ble_eq_true rfl)
  rw [lg_entry_eq]
  generalize (lg_sl ([.ref (arf 0), .int x1, .int x2]) ++ List.replicate (7 - (lg_sl ([.ref (arf 0), .int x1, .int x2])).length) Slot.unset).toArray = ls at hl ⊢
  have hl : lv_has ls 7 [(0, .ref (arf 0)), (1, .int x1), (2, .int x2)] := hl
  have f0_rf_0 := cr_rfo hR_rf.1
  have f0_rf_1 := cr_rfo hR_rf.2.1
  have k_m1 : (-1 : Int32).toInt = -1 := by decide
  have k_0 : (0 : Int32).toInt = 0 := by decide
  have k_1 : (1 : Int32).toInt = 1 := by decide
  obtain ⟨tgt, hT⟩ : ∃ z, md_Ref_lower rf lat ln x1 x2 = z := ⟨_, rfl⟩
  have hM := hT
  unfold md_Ref_lower at hM
  refine lv_aload_n hx hb nd_Ref_lower_0 rfl (lv_at hl 0 rfl) ?_
  refine lv_iload_n hx hb nd_Ref_lower_1 rfl (lv_at hl 1 rfl) ?_
  have hPc := hP
  have hDc := hD
  have hFc := va_free (wc := cw_Ref cI cZ cJ arf rf lat ln) hD hS hA [0, 1, 2, 3, 4, 5, 6, 7, 8, 9, 10, 11, 12, 13, 14, 15, 16, 17] rfl
  refine va_calli (va_runV (As := [.int x1]) (rest := []) ⟨hx, hb, hml, hown, hts⟩ (ct_Ref_isTask l dC dI cI cZ cJ arf s.heap.size rf lat ln x1 hR_rf) (cwV 1 hts (ng_V tw_493 tw_495 tp_18 tw_6 tw_496) rfl rfl rfl (by decide +kernel) ⟨Nat.le_of_ble_eq_true rfl, Nat.le_of_ble_eq_true rfl⟩) ⟨fun a U g mk q => by obtain ⟨q0, q1, qP, qK, qD⟩ := q; exact ⟨q0, q1, qP, va_K.moved (u := U) (U := U.calling g mk a) (Vm.Alike.refl U.vm) qK, qD⟩, va_recv hK hPc (ci := 5) (q0 := 0) rfl rfl, fun U hU hW => ⟨rfl, by rw [hU], by rw [hU]; exact hPc, va_K.moved hW.alike hK, hDc.weaken (fun _ _ _ _ => trivial)⟩⟩ rfl rfl hl.1 rfl (lv_room (Nat.le_of_ble_eq_true rfl)) nd_Ref_lower_2 ⟨Nat.zero_le _, Nat.zero_le _⟩) hS (fun q _ h => hFc q h) hFc (fun r_1 u t H1 locs ht hvm hw hB hz1 hk1 hS => ?_)
  obtain ⟨hP1, hK1, hD1⟩ := hB
  rw [ht] at hP1
  obtain ⟨w_2, f_3⟩ := hw
  try rw [← w_2] at hM
  have hP := hP1
  have hD := cr_Dw hD1 hFc
  generalize H1 = H at hP hS ⊢
  refine lv_if_ne (tgt := 10) hx hb nd_Ref_lower_5 (by decide) (fun c_4 => ?_) (fun c_4 => ?_)
  · have c_4t := cr_ne c_4
    rw [if_neg c_4] at hM
    refine lv_iload_n hx hb nd_Ref_lower_10 rfl (lv_at hl 2 rfl) ?_
    refine lv_istore_n (lv' := [(3, .int x2), (0, .ref (arf 0)), (1, .int x1), (2, .int x2)]) hx hb nd_Ref_lower_11 rfl hl (by decide) rfl (fun ls hl => ?_)
    refine lv_iconst (v := 1) hx hb nd_Ref_lower_12 (by decide) ?_
    refine lv_istore (lv' := [(4, .int (1 : Int32)), (3, .int x2), (0, .ref (arf 0)), (1, .int x1), (2, .int x2)]) hx hb nd_Ref_lower_13 hl (by decide) rfl (fun ls hl => ?_)
    have hl := lv_sub hl [2, 3, 4, 1, 0] rfl
    have lp_15 : ∀ (n_15 : Nat) (v3_15 : Int32) (v4_15 : Int32), (1 ≤ v4_15.toInt ∧ v4_15.toInt ≤ 11) → (11 < v4_15.toInt + (n_15 : Int)) → lo_Ref_lower_15 rf lat ln x1 x2 n_15 v3_15 v4_15 = tgt → ∀ (H : Heap) (locs : List Loc), va_P (dC, dI) vwCl (cw_Ref cI cZ cJ arf rf lat ln) H → va_D A (cw_Ref cI cZ cJ arf rf lat ln) → va_S A s.heap H locs → ∀ ls : Array Slot, lv_has ls 7 [(0, .ref (arf 0)), (1, .int x1), (2, .int x2), (3, .int v3_15), (4, .int v4_15)] → W p l e (headSpec nw_Ref_lower ({ frames := 2, cells := 0, slots := 0, locals := 46 } : Room)).room s m ([.ref (arf 0), .int x1, .int x2] : List Value).toArray below meth c H locs 0 0 (MQ below (pq_Ref_lower dC dI cI cZ cJ arf rf lat ln x1 x2 A) ([.ref (arf 0), .int x1, .int x2] : List Value).toArray s 0 0 A) (F0 m 15 ls []) := by
      intro n_15
      induction n_15 with
      | zero =>
        intro v3_15 v4_15 hv4_15 hn_15
        exfalso; omega
      | succ n_15 ih_15 =>
        intro v3_15 v4_15 hv4_15 hn_15 hM H locs hP hD hS ls hl
        have hn_15 : 11 < v4_15.toInt + ((n_15 : Int) + 1) := by omega
        rw [lo_Ref_lower_15] at hM
        refine lv_iload hx hb nd_Ref_lower_15 (lv_at hl 4 rfl) ?_
        refine lv_aload_n hx hb nd_Ref_lower_17 rfl (lv_at hl 0 rfl) ?_
        refine va_get (D := (dC, dI)) (ci := 5) (v := .int (rf 0 0)) (C := "CeilingRowsModel") (T := nf_Ref) (N := 22) hx hb hts nin_Ref hown hK hP 0 rfl rfl 0 (by decide) (hts _ tw_413) (fun _ h9 => h9) rfl nd_Ref_lower_18 ?_
        have f_5 := cr_rfo hR_rf.1
        refine lv_icmp_gt (tgt := 97) hx hb nd_Ref_lower_21 (by decide) (fun c_6 => ?_) (fun c_6 => ?_)
        · have c_6t := cr_lt c_6
          rw [if_pos c_6] at hM
          refine lv_iconst (v := 0) hx hb nd_Ref_lower_97 (by decide) ?_
          exact W.iret (v := (0 : Int32)) hx hb hr (fun t ht hW => ⟨⟨(0 : Int32), (), rfl, by rw [hT, ← hM], by rw [ht]; exact hP, va_K.moved hW.alike hK, hD⟩, hS.F ht⟩) hS.2.2 nd_Ref_lower_98
        · have c_6t := cr_nlt c_6
          rw [if_neg c_6] at hM
          refine lv_iload_n hx hb nd_Ref_lower_24 rfl (lv_at hl 2 rfl) ?_
          refine lv_if_lt (tgt := 97) hx hb nd_Ref_lower_25 (by decide) (fun c_7 => ?_) (fun c_7 => ?_)
          · have c_7t := cr_lt c_7
            rw [if_pos c_7] at hM
            refine lv_iconst (v := 0) hx hb nd_Ref_lower_97 (by decide) ?_
            exact W.iret (v := (0 : Int32)) hx hb hr (fun t ht hW => ⟨⟨(0 : Int32), (), rfl, by rw [hT, ← hM], by rw [ht]; exact hP, va_K.moved hW.alike hK, hD⟩, hS.F ht⟩) hS.2.2 nd_Ref_lower_98
          · have c_7t := cr_nlt c_7
            rw [if_neg c_7] at hM
            refine lv_iconst (v := 0) hx hb nd_Ref_lower_28 (by decide) ?_
            refine lv_istore (lv' := [(5, .int (0 : Int32)), (0, .ref (arf 0)), (1, .int x1), (2, .int x2), (3, .int v3_15), (4, .int v4_15)]) hx hb nd_Ref_lower_29 hl (by decide) rfl (fun ls hl => ?_)
            refine lv_iconst (v := 1) hx hb nd_Ref_lower_31 (by decide) ?_
            refine lv_istore (lv' := [(6, .int (1 : Int32)), (5, .int (0 : Int32)), (0, .ref (arf 0)), (1, .int x1), (2, .int x2), (3, .int v3_15), (4, .int v4_15)]) hx hb nd_Ref_lower_32 hl (by decide) rfl (fun ls hl => ?_)
            have hl := lv_sub hl [2, 3, 4, 5, 6, 1, 0] rfl
            obtain ⟨ti_34, hti_34⟩ : ∃ z, lo_Ref_lower_34 rf lat ln x1 x2 v3_15 v4_15 9 (0 : Int32) (1 : Int32) = z := ⟨_, rfl⟩
            try rw [hti_34] at hM
            have hex_34 : ∀ (H : Heap) (locs : List Loc), va_P (dC, dI) vwCl (cw_Ref cI cZ cJ arf rf lat ln) H → va_D A (cw_Ref cI cZ cJ arf rf lat ln) → va_S A s.heap H locs → ∀ ls : Array Slot, lv_has ls 7 [(0, .ref (arf 0)), (1, .int x1), (2, .int x2), (3, .int v3_15), (4, .int v4_15), (5, .int ti_34)] → W p l e (headSpec nw_Ref_lower ({ frames := 2, cells := 0, slots := 0, locals := 46 } : Room)).room s m ([.ref (arf 0), .int x1, .int x2] : List Value).toArray below meth c H locs 0 0 (MQ below (pq_Ref_lower dC dI cI cZ cJ arf rf lat ln x1 x2 A) ([.ref (arf 0), .int x1, .int x2] : List Value).toArray s 0 0 A) (F0 m 73 ls []) := by
              intro  H locs hP hD hS ls hl
              refine lv_iload hx hb nd_Ref_lower_73 (lv_at hl 5 rfl) ?_
              refine lv_if_ne (tgt := 81) hx hb nd_Ref_lower_75 (by decide) (fun c_8 => ?_) (fun c_8 => ?_)
              · have c_8t := cr_ne c_8
                rw [if_neg c_8] at hM
                refine lv_iload_n hx hb nd_Ref_lower_81 rfl (lv_at hl 3 rfl) ?_
                refine lv_if_ne (tgt := 88) hx hb nd_Ref_lower_82 (by decide) (fun c_9 => ?_) (fun c_9 => ?_)
                · have c_9t := cr_ne c_9
                  rw [if_neg c_9] at hM
                  refine lv_iinc (v := (v3_15 + (-1 : Int32))) (lv' := [(3, .int (v3_15 + (-1 : Int32))), (0, .ref (arf 0)), (1, .int x1), (2, .int x2), (4, .int v4_15), (5, .int ti_34)]) hx hb nd_Ref_lower_88 hl (k := 3) rfl (by rfl) (by decide) rfl (fun ls hl => ?_)
                  have e_10 : (v4_15 + (1 : Int32)).toInt = v4_15.toInt + (1 : Int32).toInt := cr_add (by omega)
                  refine lv_iinc (v := (v4_15 + (1 : Int32))) (lv' := [(4, .int (v4_15 + (1 : Int32))), (3, .int (v3_15 + (-1 : Int32))), (0, .ref (arf 0)), (1, .int x1), (2, .int x2), (5, .int ti_34)]) hx hb nd_Ref_lower_91 hl (k := 4) rfl (by rfl) (by decide) rfl (fun ls hl => ?_)
                  refine lv_goto (tgt := 15) hx hb nd_Ref_lower_94 (by decide) ?_
                  exact ih_15 (v3_15 + (-1 : Int32)) (v4_15 + (1 : Int32)) (by omega) (by omega) hM _ _ hP hD hS _ (lv_sub hl [2, 3, 4, 1, 0] rfl)
                · have c_9t := cr_eq c_9
                  rw [if_pos c_9] at hM
                  refine lv_iload hx hb nd_Ref_lower_85 (lv_at hl 4 rfl) ?_
                  exact W.iret (v := v4_15) hx hb hr (fun t ht hW => ⟨⟨v4_15, (), rfl, by rw [hT, ← hM], by rw [ht]; exact hP, va_K.moved hW.alike hK, hD⟩, hS.F ht⟩) hS.2.2 nd_Ref_lower_87
              · have c_8t := cr_eq c_8
                rw [if_pos c_8] at hM
                refine lv_goto (tgt := 91) hx hb nd_Ref_lower_78 (by decide) ?_
                have e_11 : (v4_15 + (1 : Int32)).toInt = v4_15.toInt + (1 : Int32).toInt := cr_add (by omega)
                refine lv_iinc (v := (v4_15 + (1 : Int32))) (lv' := [(4, .int (v4_15 + (1 : Int32))), (0, .ref (arf 0)), (1, .int x1), (2, .int x2), (3, .int v3_15), (5, .int ti_34)]) hx hb nd_Ref_lower_91 hl (k := 4) rfl (by rfl) (by decide) rfl (fun ls hl => ?_)
                refine lv_goto (tgt := 15) hx hb nd_Ref_lower_94 (by decide) ?_
                exact ih_15 v3_15 (v4_15 + (1 : Int32)) (by omega) (by omega) hM _ _ hP hD hS _ (lv_sub hl [1, 2, 3, 4, 0] rfl)
            have lp_34 : ∀ (n_34 : Nat) (v5_34 : Int32) (v6_34 : Int32), (1 ≤ v6_34.toInt ∧ v6_34.toInt ≤ 9) → (9 < v6_34.toInt + (n_34 : Int)) → lo_Ref_lower_34 rf lat ln x1 x2 v3_15 v4_15 n_34 v5_34 v6_34 = ti_34 → ∀ (H : Heap) (locs : List Loc), va_P (dC, dI) vwCl (cw_Ref cI cZ cJ arf rf lat ln) H → va_D A (cw_Ref cI cZ cJ arf rf lat ln) → va_S A s.heap H locs → ∀ ls : Array Slot, lv_has ls 7 [(0, .ref (arf 0)), (1, .int x1), (2, .int x2), (3, .int v3_15), (4, .int v4_15), (5, .int v5_34), (6, .int v6_34)] → W p l e (headSpec nw_Ref_lower ({ frames := 2, cells := 0, slots := 0, locals := 46 } : Room)).room s m ([.ref (arf 0), .int x1, .int x2] : List Value).toArray below meth c H locs 0 0 (MQ below (pq_Ref_lower dC dI cI cZ cJ arf rf lat ln x1 x2 A) ([.ref (arf 0), .int x1, .int x2] : List Value).toArray s 0 0 A) (F0 m 34 ls []) := by
              try clear hM
              intro n_34
              induction n_34 with
              | zero =>
                intro v5_34 v6_34 hv6_34 hn_34
                exfalso; omega
              | succ n_34 ih_34 =>
                intro v5_34 v6_34 hv6_34 hn_34 hM H locs hP hD hS ls hl
                have hn_34 : 9 < v6_34.toInt + ((n_34 : Int) + 1) := by omega
                rw [lo_Ref_lower_34] at hM
                refine lv_iload hx hb nd_Ref_lower_34 (lv_at hl 6 rfl) ?_
                refine lv_aload_n hx hb nd_Ref_lower_36 rfl (lv_at hl 0 rfl) ?_
                refine va_get (D := (dC, dI)) (ci := 5) (v := .int (rf 0 2)) (C := "CeilingRowsModel") (T := nf_Ref) (N := 22) hx hb hts nin_Ref hown hK hP 0 rfl rfl 7 (by decide) (hts _ tw_420) (fun _ h9 => h9) rfl nd_Ref_lower_37 ?_
                have f_12 := cr_rfo hR_rf.2.1
                refine lv_icmp_gt (tgt := 73) hx hb nd_Ref_lower_40 (by decide) (fun c_13 => ?_) (fun c_13 => ?_)
                · have c_13t := cr_lt c_13
                  rw [if_pos c_13] at hM
                  subst hM
                  exact hex_34  _ _ hP hD hS _ (lv_sub hl [0, 1, 2, 3, 4, 5] rfl)
                · have c_13t := cr_nlt c_13
                  rw [if_neg c_13] at hM
                  refine lv_iload hx hb nd_Ref_lower_43 (lv_at hl 5 rfl) ?_
                  refine lv_if_ne (tgt := 60) hx hb nd_Ref_lower_45 (by decide) (fun c_14 => ?_) (fun c_14 => ?_)
                  · have c_14t := cr_ne c_14
                    rw [if_neg c_14] at hM
                    refine lv_iconst (v := 1) hx hb nd_Ref_lower_60 (by decide) ?_
                    refine lv_goto (tgt := 65) hx hb nd_Ref_lower_61 (by decide) ?_
                    refine lv_istore (lv' := [(5, .int (1 : Int32)), (0, .ref (arf 0)), (1, .int x1), (2, .int x2), (3, .int v3_15), (4, .int v4_15), (6, .int v6_34)]) hx hb nd_Ref_lower_65 hl (by decide) rfl (fun ls hl => ?_)
                    have e_15 : (v6_34 + (1 : Int32)).toInt = v6_34.toInt + (1 : Int32).toInt := cr_add (by omega)
                    refine lv_iinc (v := (v6_34 + (1 : Int32))) (lv' := [(6, .int (v6_34 + (1 : Int32))), (5, .int (1 : Int32)), (0, .ref (arf 0)), (1, .int x1), (2, .int x2), (3, .int v3_15), (4, .int v4_15)]) hx hb nd_Ref_lower_67 hl (k := 6) rfl (by rfl) (by decide) rfl (fun ls hl => ?_)
                    refine lv_goto (tgt := 34) hx hb nd_Ref_lower_70 (by decide) ?_
                    exact ih_34 (1 : Int32) (v6_34 + (1 : Int32)) (by omega) (by omega) hM _ _ hP hD hS _ (lv_sub hl [2, 3, 4, 5, 6, 1, 0] rfl)
                  · have c_14t := cr_eq c_14
                    rw [if_pos c_14] at hM
                    refine lv_aload_n hx hb nd_Ref_lower_48 rfl (lv_at hl 0 rfl) ?_
                    refine lv_iload hx hb nd_Ref_lower_49 (lv_at hl 4 rfl) ?_
                    refine lv_iload_n hx hb nd_Ref_lower_51 rfl (lv_at hl 1 rfl) ?_
                    refine lv_iload hx hb nd_Ref_lower_52 (lv_at hl 6 rfl) ?_
                    have hPc := hP
                    have hDc := hD
                    have hFc := va_free (wc := cw_Ref cI cZ cJ arf rf lat ln) hD hS hA [0, 1, 2, 3, 4, 5, 6, 7, 8, 9, 10, 11, 12, 13, 14, 15, 16, 17] rfl
                    refine va_calli (va_runV (As := [.int v4_15, .int x1, .int v6_34]) (rest := []) ⟨hx, hb, hml, hown, hts⟩ (ct_Ref_mayKeep l dC dI cI cZ cJ arf H.size rf lat ln v4_15 x1 v6_34 hR_rf (by omega) (by omega) (by omega)) (cwV 3 hts (ng_V tw_552 tw_554 tp_27 tw_6 tw_555) rfl rfl rfl (by decide +kernel) ⟨Nat.le_of_ble_eq_true rfl, Nat.le_of_ble_eq_true rfl⟩) ⟨fun a U g mk q => by obtain ⟨q0, q1, qP, qK, qD⟩ := q; exact ⟨q0, q1, qP, va_K.moved (u := U) (U := U.calling g mk a) (Vm.Alike.refl U.vm) qK, qD⟩, va_recv hK hPc (ci := 5) (q0 := 0) rfl rfl, fun U hU hW => ⟨rfl, by rw [hU], by rw [hU]; exact hPc, va_K.moved hW.alike hK, hDc.weaken (fun _ _ _ _ => trivial)⟩⟩ rfl rfl hl.1 rfl (lv_room (Nat.le_of_ble_eq_true rfl)) nd_Ref_lower_54 ⟨Nat.zero_le _, Nat.zero_le _⟩) hS (fun q _ h => hFc q h) hFc (fun r_16 u t H1 locs ht hvm hw hB hz1 hk1 hS => ?_)
                    obtain ⟨hP1, hK1, hD1⟩ := hB
                    rw [ht] at hP1
                    have w_17 := hw
                    try rw [← w_17] at hM
                    have hP := hP1
                    have hD := cr_Dw hD1 hFc
                    generalize H1 = H at hP hS ⊢
                    refine lv_if_eq (tgt := 64) hx hb nd_Ref_lower_57 (by decide) (fun c_18 => ?_) (fun c_18 => ?_)
                    · have c_18t := cr_eq c_18
                      rw [if_pos c_18] at hM
                      refine lv_iconst (v := 0) hx hb nd_Ref_lower_64 (by decide) ?_
                      refine lv_istore (lv' := [(5, .int (0 : Int32)), (0, .ref (arf 0)), (1, .int x1), (2, .int x2), (3, .int v3_15), (4, .int v4_15), (6, .int v6_34)]) hx hb nd_Ref_lower_65 hl (by decide) rfl (fun ls hl => ?_)
                      have e_19 : (v6_34 + (1 : Int32)).toInt = v6_34.toInt + (1 : Int32).toInt := cr_add (by omega)
                      refine lv_iinc (v := (v6_34 + (1 : Int32))) (lv' := [(6, .int (v6_34 + (1 : Int32))), (5, .int (0 : Int32)), (0, .ref (arf 0)), (1, .int x1), (2, .int x2), (3, .int v3_15), (4, .int v4_15)]) hx hb nd_Ref_lower_67 hl (k := 6) rfl (by rfl) (by decide) rfl (fun ls hl => ?_)
                      refine lv_goto (tgt := 34) hx hb nd_Ref_lower_70 (by decide) ?_
                      exact ih_34 (0 : Int32) (v6_34 + (1 : Int32)) (by omega) (by omega) hM _ _ hP hD hS _ (lv_sub hl [2, 3, 4, 5, 6, 1, 0] rfl)
                    · have c_18t := cr_ne c_18
                      rw [if_neg c_18] at hM
                      refine lv_iconst (v := 1) hx hb nd_Ref_lower_60 (by decide) ?_
                      refine lv_goto (tgt := 65) hx hb nd_Ref_lower_61 (by decide) ?_
                      refine lv_istore (lv' := [(5, .int (1 : Int32)), (0, .ref (arf 0)), (1, .int x1), (2, .int x2), (3, .int v3_15), (4, .int v4_15), (6, .int v6_34)]) hx hb nd_Ref_lower_65 hl (by decide) rfl (fun ls hl => ?_)
                      have e_20 : (v6_34 + (1 : Int32)).toInt = v6_34.toInt + (1 : Int32).toInt := cr_add (by omega)
                      refine lv_iinc (v := (v6_34 + (1 : Int32))) (lv' := [(6, .int (v6_34 + (1 : Int32))), (5, .int (1 : Int32)), (0, .ref (arf 0)), (1, .int x1), (2, .int x2), (3, .int v3_15), (4, .int v4_15)]) hx hb nd_Ref_lower_67 hl (k := 6) rfl (by rfl) (by decide) rfl (fun ls hl => ?_)
                      refine lv_goto (tgt := 34) hx hb nd_Ref_lower_70 (by decide) ?_
                      exact ih_34 (1 : Int32) (v6_34 + (1 : Int32)) (by omega) (by omega) hM _ _ hP hD hS _ (lv_sub hl [2, 3, 4, 5, 6, 1, 0] rfl)
            exact lp_34 9 (0 : Int32) (1 : Int32) (by omega) (by omega) hti_34 _ _ hP hD hS _ hl
    exact lp_15 11 x2 (1 : Int32) (by omega) (by omega) hM _ _ hP hD hS _ hl
  · have c_4t := cr_eq c_4
    rw [if_pos c_4] at hM
    refine lv_iconst (v := -1) hx hb nd_Ref_lower_8 (by decide) ?_
    exact W.iret (v := (-1 : Int32)) hx hb hr (fun t ht hW => ⟨⟨(-1 : Int32), (), rfl, by rw [hT, ← hM], by rw [ht]; exact hP, va_K.moved hW.alike hK, hD⟩, hS.F ht⟩) hS.2.2 nd_Ref_lower_9

theorem nd_Ref_lastLock_0 : decode prog_7_method_21_code 0 = .ok (.iconst 0, 1) := by decide +kernel
theorem nd_Ref_lastLock_1 : decode prog_7_method_21_code 1 = .ok (.istore_n 2, 1) := by decide +kernel
theorem nd_Ref_lastLock_2 : decode prog_7_method_21_code 2 = .ok (.iconst 1, 1) := by decide +kernel
theorem nd_Ref_lastLock_3 : decode prog_7_method_21_code 3 = .ok (.istore_n 3, 1) := by decide +kernel
theorem nd_Ref_lastLock_4 : decode prog_7_method_21_code 4 = .ok (.iload_n 3, 1) := by decide +kernel
theorem nd_Ref_lastLock_5 : decode prog_7_method_21_code 5 = .ok (.bipush 9, 2) := by decide +kernel
theorem nd_Ref_lastLock_7 : decode prog_7_method_21_code 7 = .ok (.if_icmp .ge (40), 3) := by decide +kernel
theorem nd_Ref_lastLock_10 : decode prog_7_method_21_code 10 = .ok (.aload_n 0, 1) := by decide +kernel
theorem nd_Ref_lastLock_11 : decode prog_7_method_21_code 11 = .ok (.getfield 36, 3) := by decide +kernel
theorem nd_Ref_lastLock_14 : decode prog_7_method_21_code 14 = .ok (.iload_n 3, 1) := by decide +kernel
theorem nd_Ref_lastLock_15 : decode prog_7_method_21_code 15 = .ok (.iaload, 1) := by decide +kernel
theorem nd_Ref_lastLock_16 : decode prog_7_method_21_code 16 = .ok (.iload_n 1, 1) := by decide +kernel
theorem nd_Ref_lastLock_17 : decode prog_7_method_21_code 17 = .ok (.if_icmp .ne (24), 3) := by decide +kernel
theorem nd_Ref_lastLock_20 : decode prog_7_method_21_code 20 = .ok (.iload_n 2, 1) := by decide +kernel
theorem nd_Ref_lastLock_21 : decode prog_7_method_21_code 21 = .ok (.ifCond .eq (18), 3) := by decide +kernel
theorem nd_Ref_lastLock_24 : decode prog_7_method_21_code 24 = .ok (.aload_n 0, 1) := by decide +kernel
theorem nd_Ref_lastLock_25 : decode prog_7_method_21_code 25 = .ok (.getfield 39, 3) := by decide +kernel
theorem nd_Ref_lastLock_28 : decode prog_7_method_21_code 28 = .ok (.iload_n 3, 1) := by decide +kernel
theorem nd_Ref_lastLock_29 : decode prog_7_method_21_code 29 = .ok (.iaload, 1) := by decide +kernel
theorem nd_Ref_lastLock_30 : decode prog_7_method_21_code 30 = .ok (.aload_n 0, 1) := by decide +kernel
theorem nd_Ref_lastLock_31 : decode prog_7_method_21_code 31 = .ok (.getfield 39, 3) := by decide +kernel
theorem nd_Ref_lastLock_34 : decode prog_7_method_21_code 34 = .ok (.iload_n 2, 1) := by decide +kernel
theorem nd_Ref_lastLock_35 : decode prog_7_method_21_code 35 = .ok (.iaload, 1) := by decide +kernel
theorem nd_Ref_lastLock_36 : decode prog_7_method_21_code 36 = .ok (.if_icmp .le (5), 3) := by decide +kernel
theorem nd_Ref_lastLock_39 : decode prog_7_method_21_code 39 = .ok (.iload_n 3, 1) := by decide +kernel
theorem nd_Ref_lastLock_40 : decode prog_7_method_21_code 40 = .ok (.istore_n 2, 1) := by decide +kernel
theorem nd_Ref_lastLock_41 : decode prog_7_method_21_code 41 = .ok (.iinc 3 1, 3) := by decide +kernel
theorem nd_Ref_lastLock_44 : decode prog_7_method_21_code 44 = .ok (.goto (-40), 3) := by decide +kernel
theorem nd_Ref_lastLock_47 : decode prog_7_method_21_code 47 = .ok (.iload_n 2, 1) := by decide +kernel
theorem nd_Ref_lastLock_48 : decode prog_7_method_21_code 48 = .ok (.ireturn, 1) := by decide +kernel
abbrev pq_Ref_lastLock (dC : Nat → ClassId) (dI : Nat → Nat → Nat) (cI cZ cJ : ClassId) (arf : Nat → Nat) (rf : cr_S) (lat : Int64) (ln : (Nat → Int64)) (x1 : Int32) (A : Nat → Prop) : Array Value → State → Outcome → State → Prop :=
  va_Qi (fun (r : Int32) (_ : Unit) => r = md_Ref_lastLock rf lat ln x1 ∧ (0 ≤ r.toInt ∧ r.toInt ≤ 8)) (fun (_ : Unit) t => va_P (dC, dI) vwCl (cw_Ref cI cZ cJ arf rf lat ln) t.heap ∧ va_K (dC, dI) vwCl [(cI, .int), (cZ, .boolean), (cJ, .long)] t ∧ va_D A (cw_Ref cI cZ cJ arf rf lat ln)) A
set_option maxHeartbeats 4000000 in
set_option maxRecDepth 100000 in
theorem ct_Ref_lastLock (l : Launch) (dC : Nat → ClassId) (dI : Nat → Nat → Nat) (cI cZ cJ : ClassId) (arf : Nat → Nat) (sz : Nat) (rf : cr_S) (lat : Int64) (ln : (Nat → Int64)) (x1 : Int32) (hR_rf : cr_RRef rf) : Met l ny_Ref_lastLock nw_Ref_lastLock ({ frames := 0, cells := 0, slots := 0, locals := 0 } : Room) (va_Pc [.ref (arf 0), .int x1] (fun U => U.heap.size = sz ∧ va_P (dC, dI) vwCl (cw_Ref cI cZ cJ arf rf lat ln) U.heap ∧ va_K (dC, dI) vwCl [(cI, .int), (cZ, .boolean), (cJ, .long)] U ∧ va_D (fun _ => True) (cw_Ref cI cZ cJ arf rf lat ln))) (pq_Ref_lastLock dC dI cI cZ cJ arf rf lat ln x1 (va_A (cw_Ref cI cZ cJ arf rf lat ln) sz)) 0 0 (va_A (cw_Ref cI cZ cJ arf rf lat ln) sz) := by
  refine Met.ofW (cc := prog_7_method_21_code) (maxL := 4) (ret := (some .int)) (by decide) rfl ?_
  intro p e s m args below meth c s₁ B hml hv
  obtain ⟨rfl, hsz, hP, hK, hD0⟩ := hv
  have hx := B.exec
  have hb := B.bytes
  have hr := B.returns
  have hts0 := atoms_spec (ws := nw_Ref_lastLock) B.pre
  have hts : ∀ w ∈ ng_tbl, w.before ([.ref (arf 0), .int x1] : List Value).toArray s = true := fun w h => hts0 w (List.mem_cons_of_mem _ h)
  have hown : s.vm.findClass "CeilingRowsModel" = some m.cls := findClass_of_methodNamed B.named
  have hlocks := B.notSynchronized
  subst hsz
  have hD := hD0.self (sz := s.heap.size)
  generalize hAe : va_A (cw_Ref cI cZ cJ arf rf lat ln) s.heap.size = A at hD ⊢
  have hA : ∀ q : Nat, s.heap.size ≤ q → A q := fun q h => by rw [← hAe]; exact Or.inr h
  have hS : va_S A s.heap s.heap [] := va_S.rf
  have hP : va_P (dC, dI) vwCl (cw_Ref cI cZ cJ arf rf lat ln) s.heap := hP
  have hl := lv_entry ([.ref (arf 0), .int x1]) (n := 4) (Nat.le_of_ble_eq_true rfl)
  rw [lg_entry_eq]
  generalize (lg_sl ([.ref (arf 0), .int x1]) ++ List.replicate (4 - (lg_sl ([.ref (arf 0), .int x1])).length) Slot.unset).toArray = ls at hl ⊢
  have hl : lv_has ls 4 [(0, .ref (arf 0)), (1, .int x1)] := hl
  have f0_rf_0 := cr_rfo hR_rf.1
  have f0_rf_1 := cr_rfo hR_rf.2.1
  have k_0 : (0 : Int32).toInt = 0 := by decide
  have k_1 : (1 : Int32).toInt = 1 := by decide
  have k_9 : (9 : Int32).toInt = 9 := by decide
  obtain ⟨tgt, hT⟩ : ∃ z, md_Ref_lastLock rf lat ln x1 = z := ⟨_, rfl⟩
  have hM := hT
  unfold md_Ref_lastLock at hM
  refine lv_iconst (v := 0) hx hb nd_Ref_lastLock_0 (by decide) ?_
  refine lv_istore_n (lv' := [(2, .int (0 : Int32)), (0, .ref (arf 0)), (1, .int x1)]) hx hb nd_Ref_lastLock_1 rfl hl (by decide) rfl (fun ls hl => ?_)
  refine lv_iconst (v := 1) hx hb nd_Ref_lastLock_2 (by decide) ?_
  refine lv_istore_n (lv' := [(3, .int (1 : Int32)), (2, .int (0 : Int32)), (0, .ref (arf 0)), (1, .int x1)]) hx hb nd_Ref_lastLock_3 rfl hl (by decide) rfl (fun ls hl => ?_)
  have hl := lv_sub hl [2, 3, 1, 0] rfl
  have lp_4 : ∀ (n_4 : Nat) (v2_4 : Int32) (v3_4 : Int32), (1 ≤ v3_4.toInt ∧ v3_4.toInt ≤ 9) → (0 ≤ v2_4.toInt ∧ v2_4.toInt ≤ 8) → (9 < v3_4.toInt + (n_4 : Int)) → lo_Ref_lastLock_4 rf lat ln x1 n_4 v2_4 v3_4 = tgt → ∀ (H : Heap) (locs : List Loc), va_P (dC, dI) vwCl (cw_Ref cI cZ cJ arf rf lat ln) H → va_D A (cw_Ref cI cZ cJ arf rf lat ln) → va_S A s.heap H locs → ∀ ls : Array Slot, lv_has ls 4 [(0, .ref (arf 0)), (1, .int x1), (2, .int v2_4), (3, .int v3_4)] → W p l e (headSpec nw_Ref_lastLock ({ frames := 0, cells := 0, slots := 0, locals := 0 } : Room)).room s m ([.ref (arf 0), .int x1] : List Value).toArray below meth c H locs 0 0 (MQ below (pq_Ref_lastLock dC dI cI cZ cJ arf rf lat ln x1 A) ([.ref (arf 0), .int x1] : List Value).toArray s 0 0 A) (F0 m 4 ls []) := by
    intro n_4
    induction n_4 with
    | zero =>
      intro v2_4 v3_4 hv3_4 hv2_4 hn_4
      exfalso; omega
    | succ n_4 ih_4 =>
      intro v2_4 v3_4 hv3_4 hv2_4 hn_4 hM H locs hP hD hS ls hl
      have hn_4 : 9 < v3_4.toInt + ((n_4 : Int) + 1) := by omega
      rw [lo_Ref_lastLock_4] at hM
      refine lv_iload_n hx hb nd_Ref_lastLock_4 rfl (lv_at hl 3 rfl) ?_
      refine lv_bipush (v := 9) hx hb nd_Ref_lastLock_5 (by decide) ?_
      refine lv_icmp_ge (tgt := 47) hx hb nd_Ref_lastLock_7 (by decide) (fun c_1 => ?_) (fun c_1 => ?_)
      · have c_1t := cr_le c_1
        rw [if_pos c_1] at hM
        refine lv_iload_n hx hb nd_Ref_lastLock_47 rfl (lv_at hl 2 rfl) ?_
        exact W.iret (v := v2_4) hx hb hr (fun t ht hW => ⟨⟨v2_4, (), rfl, ⟨by rw [hT, ← hM], by omega⟩, by rw [ht]; exact hP, va_K.moved hW.alike hK, hD⟩, hS.F ht⟩) hS.2.2 nd_Ref_lastLock_48
      · have c_1t := cr_nle c_1
        rw [if_neg c_1] at hM
        refine lv_aload_n hx hb nd_Ref_lastLock_10 rfl (lv_at hl 0 rfl) ?_
        refine va_get (D := (dC, dI)) (ci := 5) (v := .ref (arf 9)) (C := "CeilingRowsModel") (T := nf_Ref) (N := 22) hx hb hts nin_Ref hown hK hP 0 rfl rfl 12 (by decide) (hts _ tw_425) (fun _ h9 => h9) rfl nd_Ref_lastLock_11 ?_
        refine lv_iload_n hx hb nd_Ref_lastLock_14 rfl (lv_at hl 3 rfl) ?_
        have b_2 : vp_in v3_4 9 := vp_in_iff.mpr (by omega)
        refine va_iald hx hb hK hP 9 0 rfl rfl b_2 nd_Ref_lastLock_15 ?_
        have f_3 := cr_rgo hR_rf.2.2.2.1 (v3_4.toNatClampNeg)
        refine lv_iload_n hx hb nd_Ref_lastLock_16 rfl (lv_at hl 1 rfl) ?_
        refine lv_icmp_ne (tgt := 41) hx hb nd_Ref_lastLock_17 (by decide) (fun c_4 => ?_) (fun c_4 => ?_)
        · have c_4t := cr_ne c_4
          rw [if_neg c_4] at hM
          have e_5 : (v3_4 + (1 : Int32)).toInt = v3_4.toInt + (1 : Int32).toInt := cr_add (by omega)
          refine lv_iinc (v := (v3_4 + (1 : Int32))) (lv' := [(3, .int (v3_4 + (1 : Int32))), (0, .ref (arf 0)), (1, .int x1), (2, .int v2_4)]) hx hb nd_Ref_lastLock_41 hl (k := 3) rfl (by rfl) (by decide) rfl (fun ls hl => ?_)
          refine lv_goto (tgt := 4) hx hb nd_Ref_lastLock_44 (by decide) ?_
          exact ih_4 v2_4 (v3_4 + (1 : Int32)) (by omega) (by omega) (by omega) hM _ _ hP hD hS _ (lv_sub hl [1, 2, 3, 0] rfl)
        · have c_4t := cr_eq c_4
          rw [if_pos c_4] at hM
          refine lv_iload_n hx hb nd_Ref_lastLock_20 rfl (lv_at hl 2 rfl) ?_
          refine lv_if_eq (tgt := 39) hx hb nd_Ref_lastLock_21 (by decide) (fun c_6 => ?_) (fun c_6 => ?_)
          · have c_6t := cr_eq c_6
            rw [if_pos c_6] at hM
            refine lv_iload_n hx hb nd_Ref_lastLock_39 rfl (lv_at hl 3 rfl) ?_
            refine lv_istore_n (lv' := [(2, .int v3_4), (0, .ref (arf 0)), (1, .int x1), (3, .int v3_4)]) hx hb nd_Ref_lastLock_40 rfl hl (by decide) rfl (fun ls hl => ?_)
            have e_7 : (v3_4 + (1 : Int32)).toInt = v3_4.toInt + (1 : Int32).toInt := cr_add (by omega)
            refine lv_iinc (v := (v3_4 + (1 : Int32))) (lv' := [(3, .int (v3_4 + (1 : Int32))), (2, .int v3_4), (0, .ref (arf 0)), (1, .int x1)]) hx hb nd_Ref_lastLock_41 hl (k := 3) rfl (by rfl) (by decide) rfl (fun ls hl => ?_)
            refine lv_goto (tgt := 4) hx hb nd_Ref_lastLock_44 (by decide) ?_
            exact ih_4 v3_4 (v3_4 + (1 : Int32)) (by omega) (by omega) (by omega) hM _ _ hP hD hS _ (lv_sub hl [2, 3, 1, 0] rfl)
          · have c_6t := cr_ne c_6
            rw [if_neg c_6] at hM
            refine lv_aload_n hx hb nd_Ref_lastLock_24 rfl (lv_at hl 0 rfl) ?_
            refine va_get (D := (dC, dI)) (ci := 5) (v := .ref (arf 10)) (C := "CeilingRowsModel") (T := nf_Ref) (N := 22) hx hb hts nin_Ref hown hK hP 0 rfl rfl 13 (by decide) (hts _ tw_426) (fun _ h9 => h9) rfl nd_Ref_lastLock_25 ?_
            refine lv_iload_n hx hb nd_Ref_lastLock_28 rfl (lv_at hl 3 rfl) ?_
            have b_8 : vp_in v3_4 9 := vp_in_iff.mpr (by omega)
            refine va_iald hx hb hK hP 10 0 rfl rfl b_8 nd_Ref_lastLock_29 ?_
            refine lv_aload_n hx hb nd_Ref_lastLock_30 rfl (lv_at hl 0 rfl) ?_
            refine va_get (D := (dC, dI)) (ci := 5) (v := .ref (arf 10)) (C := "CeilingRowsModel") (T := nf_Ref) (N := 22) hx hb hts nin_Ref hown hK hP 0 rfl rfl 13 (by decide) (hts _ tw_426) (fun _ h9 => h9) rfl nd_Ref_lastLock_31 ?_
            refine lv_iload_n hx hb nd_Ref_lastLock_34 rfl (lv_at hl 2 rfl) ?_
            have b_9 : vp_in v2_4 9 := vp_in_iff.mpr (by omega)
            refine va_iald hx hb hK hP 10 0 rfl rfl b_9 nd_Ref_lastLock_35 ?_
            refine lv_icmp_le (tgt := 41) hx hb nd_Ref_lastLock_36 (by decide) (fun c_10 => ?_) (fun c_10 => ?_)
            · have c_10t := cr_le c_10
              rw [if_pos c_10] at hM
              have e_11 : (v3_4 + (1 : Int32)).toInt = v3_4.toInt + (1 : Int32).toInt := cr_add (by omega)
              refine lv_iinc (v := (v3_4 + (1 : Int32))) (lv' := [(3, .int (v3_4 + (1 : Int32))), (0, .ref (arf 0)), (1, .int x1), (2, .int v2_4)]) hx hb nd_Ref_lastLock_41 hl (k := 3) rfl (by rfl) (by decide) rfl (fun ls hl => ?_)
              refine lv_goto (tgt := 4) hx hb nd_Ref_lastLock_44 (by decide) ?_
              exact ih_4 v2_4 (v3_4 + (1 : Int32)) (by omega) (by omega) (by omega) hM _ _ hP hD hS _ (lv_sub hl [1, 2, 3, 0] rfl)
            · have c_10t := cr_nle c_10
              rw [if_neg c_10] at hM
              refine lv_iload_n hx hb nd_Ref_lastLock_39 rfl (lv_at hl 3 rfl) ?_
              refine lv_istore_n (lv' := [(2, .int v3_4), (0, .ref (arf 0)), (1, .int x1), (3, .int v3_4)]) hx hb nd_Ref_lastLock_40 rfl hl (by decide) rfl (fun ls hl => ?_)
              have e_12 : (v3_4 + (1 : Int32)).toInt = v3_4.toInt + (1 : Int32).toInt := cr_add (by omega)
              refine lv_iinc (v := (v3_4 + (1 : Int32))) (lv' := [(3, .int (v3_4 + (1 : Int32))), (2, .int v3_4), (0, .ref (arf 0)), (1, .int x1)]) hx hb nd_Ref_lastLock_41 hl (k := 3) rfl (by rfl) (by decide) rfl (fun ls hl => ?_)
              refine lv_goto (tgt := 4) hx hb nd_Ref_lastLock_44 (by decide) ?_
              exact ih_4 v3_4 (v3_4 + (1 : Int32)) (by omega) (by omega) (by omega) hM _ _ hP hD hS _ (lv_sub hl [2, 3, 1, 0] rfl)
  exact lp_4 9 (0 : Int32) (1 : Int32) (by omega) (by omega) (by omega) hM _ _ hP hD hS _ hl

theorem nd_Ref_have_0 : decode prog_7_method_22_code 0 = .ok (.aload_n 0, 1) := by decide +kernel
theorem nd_Ref_have_1 : decode prog_7_method_22_code 1 = .ok (.dup, 1) := by decide +kernel
theorem nd_Ref_have_2 : decode prog_7_method_22_code 2 = .ok (.getfield 118, 3) := by decide +kernel
theorem nd_Ref_have_5 : decode prog_7_method_22_code 5 = .ok (.iconst 1, 1) := by decide +kernel
theorem nd_Ref_have_6 : decode prog_7_method_22_code 6 = .ok (.iadd, 1) := by decide +kernel
theorem nd_Ref_have_7 : decode prog_7_method_22_code 7 = .ok (.putfield 118, 3) := by decide +kernel
theorem nd_Ref_have_10 : decode prog_7_method_22_code 10 = .ok (.aload_n 0, 1) := by decide +kernel
theorem nd_Ref_have_11 : decode prog_7_method_22_code 11 = .ok (.getfield 36, 3) := by decide +kernel
theorem nd_Ref_have_14 : decode prog_7_method_22_code 14 = .ok (.iload_n 2, 1) := by decide +kernel
theorem nd_Ref_have_15 : decode prog_7_method_22_code 15 = .ok (.iload_n 1, 1) := by decide +kernel
theorem nd_Ref_have_16 : decode prog_7_method_22_code 16 = .ok (.iastore, 1) := by decide +kernel
theorem nd_Ref_have_17 : decode prog_7_method_22_code 17 = .ok (.aload_n 0, 1) := by decide +kernel
theorem nd_Ref_have_18 : decode prog_7_method_22_code 18 = .ok (.getfield 39, 3) := by decide +kernel
theorem nd_Ref_have_21 : decode prog_7_method_22_code 21 = .ok (.iload_n 2, 1) := by decide +kernel
theorem nd_Ref_have_22 : decode prog_7_method_22_code 22 = .ok (.aload_n 0, 1) := by decide +kernel
theorem nd_Ref_have_23 : decode prog_7_method_22_code 23 = .ok (.getfield 118, 3) := by decide +kernel
theorem nd_Ref_have_26 : decode prog_7_method_22_code 26 = .ok (.iastore, 1) := by decide +kernel
theorem nd_Ref_have_27 : decode prog_7_method_22_code 27 = .ok (.return_, 1) := by decide +kernel
abbrev pq_Ref_have (dC : Nat → ClassId) (dI : Nat → Nat → Nat) (cI cZ cJ : ClassId) (arf : Nat → Nat) (rf : cr_S) (lat : Int64) (ln : (Nat → Int64)) (x1 : Int32) (x2 : Int32) (A : Nat → Prop) : Array Value → State → Outcome → State → Prop :=
  va_Qv (fun (rf' : cr_S) => rf' = md_Ref_have rf lat ln x1 x2 ∧ cr_RRef rf') (fun (rf' : cr_S) t => va_P (dC, dI) vwCl (cw_Ref cI cZ cJ arf rf' lat ln) t.heap ∧ va_K (dC, dI) vwCl [(cI, .int), (cZ, .boolean), (cJ, .long)] t ∧ va_D A (cw_Ref cI cZ cJ arf rf' lat ln)) A
set_option maxHeartbeats 4000000 in
set_option maxRecDepth 100000 in
theorem ct_Ref_have (l : Launch) (dC : Nat → ClassId) (dI : Nat → Nat → Nat) (cI cZ cJ : ClassId) (arf : Nat → Nat) (sz : Nat) (rf : cr_S) (lat : Int64) (ln : (Nat → Int64)) (x1 : Int32) (x2 : Int32) (hR_rf : cr_RRef rf) (hx1 : 0 ≤ x1.toInt ∧ x1.toInt ≤ 3) (hx2 : 0 ≤ x2.toInt ∧ x2.toInt ≤ 8) : Met l ny_Ref_have nw_Ref_have ({ frames := 0, cells := 0, slots := 0, locals := 0 } : Room) (va_Pc [.ref (arf 0), .int x1, .int x2] (fun U => U.heap.size = sz ∧ va_P (dC, dI) vwCl (cw_Ref cI cZ cJ arf rf lat ln) U.heap ∧ va_K (dC, dI) vwCl [(cI, .int), (cZ, .boolean), (cJ, .long)] U ∧ va_D (fun _ => True) (cw_Ref cI cZ cJ arf rf lat ln))) (pq_Ref_have dC dI cI cZ cJ arf rf lat ln x1 x2 (va_A (cw_Ref cI cZ cJ arf rf lat ln) sz)) 0 0 (va_A (cw_Ref cI cZ cJ arf rf lat ln) sz) := by
  refine Met.ofW (cc := prog_7_method_22_code) (maxL := 3) (ret := none) (by decide) rfl ?_
  intro p e s m args below meth c s₁ B hml hv
  obtain ⟨rfl, hsz, hP, hK, hD0⟩ := hv
  have hx := B.exec
  have hb := B.bytes
  have hr := B.returns
  have hts0 := atoms_spec (ws := nw_Ref_have) B.pre
  have hts : ∀ w ∈ ng_tbl, w.before ([.ref (arf 0), .int x1, .int x2] : List Value).toArray s = true := fun w h => hts0 w (List.mem_cons_of_mem _ h)
  have hown : s.vm.findClass "CeilingRowsModel" = some m.cls := findClass_of_methodNamed B.named
  have hlocks := B.notSynchronized
  subst hsz
  have hD := hD0.self (sz := s.heap.size)
  generalize hAe : va_A (cw_Ref cI cZ cJ arf rf lat ln) s.heap.size = A at hD ⊢
  have hA : ∀ q : Nat, s.heap.size ≤ q → A q := fun q h => by rw [← hAe]; exact Or.inr h
  have hS : va_S A s.heap s.heap [] := va_S.rf
  have hP : va_P (dC, dI) vwCl (cw_Ref cI cZ cJ arf rf lat ln) s.heap := hP
  have hl := lv_entry ([.ref (arf 0), .int x1, .int x2]) (n := 3) (Nat.le_of_ble_eq_true rfl)
  rw [lg_entry_eq]
  generalize (lg_sl ([.ref (arf 0), .int x1, .int x2]) ++ List.replicate (3 - (lg_sl ([.ref (arf 0), .int x1, .int x2])).length) Slot.unset).toArray = ls at hl ⊢
  have hl : lv_has ls 3 [(0, .ref (arf 0)), (1, .int x1), (2, .int x2)] := hl
  have f0_rf_0 := cr_rfo hR_rf.1
  have f0_rf_1 := cr_rfo hR_rf.2.1
  have k_1 : (1 : Int32).toInt = 1 := by decide
  obtain ⟨tgt, hT⟩ : ∃ z, md_Ref_have rf lat ln x1 x2 = z := ⟨_, rfl⟩
  have hM := hT
  unfold md_Ref_have at hM
  refine lv_aload_n hx hb nd_Ref_have_0 rfl (lv_at hl 0 rfl) ?_
  refine lv_dup hx hb nd_Ref_have_1 rfl ?_
  refine va_get (D := (dC, dI)) (ci := 5) (v := .int (rf 0 3)) (C := "CeilingRowsModel") (T := nf_Ref) (N := 22) hx hb hts nin_Ref hown hK hP 0 rfl rfl 16 (by decide) (hts _ tw_429) (fun _ h9 => h9) rfl nd_Ref_have_2 ?_
  refine lv_iconst (v := 1) hx hb nd_Ref_have_5 (by decide) ?_
  refine lv_iadd hx hb nd_Ref_have_6 ?_
  refine va_put (D := (dC, dI)) (ci := 5) (v := .int ((rf 0 3) + (1 : Int32))) (ty := .int) (C := "CeilingRowsModel") (T := nf_Ref) (N := 22) hx hb hts nin_Ref nt_Ref nto_Ref nno_Ref hown hK hP hD hS 0 rfl rfl 16 (by decide) (hts _ tw_429) (fun _ h9 => h9) rfl (by decide +kernel) rfl rfl (Nat.le_of_ble_eq_true rfl) nd_Ref_have_7 (fun H locs hP hD hS => ?_)
  have hP : va_P (dC, dI) vwCl (cw_Ref cI cZ cJ arf (cr_up rf 0 3 ((rf 0 3) + (1 : Int32))) lat ln) H := hP
  have hD : va_D A (cw_Ref cI cZ cJ arf (cr_up rf 0 3 ((rf 0 3) + (1 : Int32))) lat ln) := hD
  have hR_1 : cr_RRef (cr_up rf 0 3 ((rf 0 3) + (1 : Int32))) := ⟨cr_rf_up hR_rf.1 (fun _ e => absurd e (by decide)), cr_rf_up hR_rf.2.1 (fun _ e => absurd e (by decide)), cr_rg_up hR_rf.2.2.1 (fun e => absurd e (by decide)), cr_rg_up hR_rf.2.2.2.1 (fun e => absurd e (by decide)), cr_rg_up hR_rf.2.2.2.2.1 (fun e => absurd e (by decide)), cr_rh_up hR_rf.2.2.2.2.2 (fun e => absurd e (by decide))⟩
  obtain ⟨rfq_2, hrfq_2⟩ : ∃ z, (cr_up rf 0 3 ((rf 0 3) + (1 : Int32))) = z := ⟨_, rfl⟩
  rw [hrfq_2] at hP hD hR_1
  try rw [hrfq_2] at hM
  refine lv_aload_n hx hb nd_Ref_have_10 rfl (lv_at hl 0 rfl) ?_
  refine va_get (D := (dC, dI)) (ci := 5) (v := .ref (arf 9)) (C := "CeilingRowsModel") (T := nf_Ref) (N := 22) hx hb hts nin_Ref hown hK hP 0 rfl rfl 12 (by decide) (hts _ tw_425) (fun _ h9 => h9) rfl nd_Ref_have_11 ?_
  refine lv_iload_n hx hb nd_Ref_have_14 rfl (lv_at hl 2 rfl) ?_
  refine lv_iload_n hx hb nd_Ref_have_15 rfl (lv_at hl 1 rfl) ?_
  have b_3 : vp_in x2 9 := vp_in_iff.mpr (by omega)
  refine va_iast hx hb hK hP hD hS 9 0 rfl rfl b_3 nd_Ref_have_16 (fun H locs hP hD hS => ?_)
  have hP : va_P (dC, dI) vwCl (cw_Ref cI cZ cJ arf (cr_up rfq_2 9 x2.toNatClampNeg x1) lat ln) H := hP
  have hD : va_D A (cw_Ref cI cZ cJ arf (cr_up rfq_2 9 x2.toNatClampNeg x1) lat ln) := hD
  have hR_4 : cr_RRef (cr_up rfq_2 9 x2.toNatClampNeg x1) := ⟨cr_rf_up hR_1.1 (fun e _ => absurd e (by decide)), cr_rf_up hR_1.2.1 (fun e _ => absurd e (by decide)), cr_rg_up hR_1.2.2.1 (fun e => absurd e (by decide)), cr_rg_up hR_1.2.2.2.1 (fun _ => by omega), cr_rg_up hR_1.2.2.2.2.1 (fun e => absurd e (by decide)), cr_rh_up hR_1.2.2.2.2.2 (fun e => absurd e (by decide))⟩
  obtain ⟨rfq_5, hrfq_5⟩ : ∃ z, (cr_up rfq_2 9 x2.toNatClampNeg x1) = z := ⟨_, rfl⟩
  rw [hrfq_5] at hP hD hR_4
  try rw [hrfq_5] at hM
  refine lv_aload_n hx hb nd_Ref_have_17 rfl (lv_at hl 0 rfl) ?_
  refine va_get (D := (dC, dI)) (ci := 5) (v := .ref (arf 10)) (C := "CeilingRowsModel") (T := nf_Ref) (N := 22) hx hb hts nin_Ref hown hK hP 0 rfl rfl 13 (by decide) (hts _ tw_426) (fun _ h9 => h9) rfl nd_Ref_have_18 ?_
  refine lv_iload_n hx hb nd_Ref_have_21 rfl (lv_at hl 2 rfl) ?_
  refine lv_aload_n hx hb nd_Ref_have_22 rfl (lv_at hl 0 rfl) ?_
  refine va_get (D := (dC, dI)) (ci := 5) (v := .int (rfq_5 0 3)) (C := "CeilingRowsModel") (T := nf_Ref) (N := 22) hx hb hts nin_Ref hown hK hP 0 rfl rfl 16 (by decide) (hts _ tw_429) (fun _ h9 => h9) rfl nd_Ref_have_23 ?_
  have b_6 : vp_in x2 9 := vp_in_iff.mpr (by omega)
  refine va_iast hx hb hK hP hD hS 10 0 rfl rfl b_6 nd_Ref_have_26 (fun H locs hP hD hS => ?_)
  have hP : va_P (dC, dI) vwCl (cw_Ref cI cZ cJ arf (cr_up rfq_5 10 x2.toNatClampNeg (rfq_5 0 3)) lat ln) H := hP
  have hD : va_D A (cw_Ref cI cZ cJ arf (cr_up rfq_5 10 x2.toNatClampNeg (rfq_5 0 3)) lat ln) := hD
  have hR_7 : cr_RRef (cr_up rfq_5 10 x2.toNatClampNeg (rfq_5 0 3)) := ⟨cr_rf_up hR_4.1 (fun e _ => absurd e (by decide)), cr_rf_up hR_4.2.1 (fun e _ => absurd e (by decide)), cr_rg_up hR_4.2.2.1 (fun e => absurd e (by decide)), cr_rg_up hR_4.2.2.2.1 (fun e => absurd e (by decide)), cr_rg_up hR_4.2.2.2.2.1 (fun e => absurd e (by decide)), cr_rh_up hR_4.2.2.2.2.2 (fun e => absurd e (by decide))⟩
  obtain ⟨rfq_8, hrfq_8⟩ : ∃ z, (cr_up rfq_5 10 x2.toNatClampNeg (rfq_5 0 3)) = z := ⟨_, rfl⟩
  rw [hrfq_8] at hP hD hR_7
  try rw [hrfq_8] at hM
  exact W.vret hx hb hr (fun t ht hW => ⟨⟨rfq_8, rfl, ⟨by rw [hT, ← hM], hR_7⟩, by rw [ht]; exact hP, va_K.moved hW.alike hK, hD⟩, hS.F ht⟩) hS.2.2 nd_Ref_have_27

theorem nd_Ref_ring_0 : decode prog_7_method_24_code 0 = .ok (.iconst 0, 1) := by decide +kernel
theorem nd_Ref_ring_1 : decode prog_7_method_24_code 1 = .ok (.istore_n 1, 1) := by decide +kernel
theorem nd_Ref_ring_2 : decode prog_7_method_24_code 2 = .ok (.iconst 1, 1) := by decide +kernel
theorem nd_Ref_ring_3 : decode prog_7_method_24_code 3 = .ok (.istore_n 2, 1) := by decide +kernel
theorem nd_Ref_ring_4 : decode prog_7_method_24_code 4 = .ok (.iload_n 2, 1) := by decide +kernel
theorem nd_Ref_ring_5 : decode prog_7_method_24_code 5 = .ok (.iconst 4, 1) := by decide +kernel
theorem nd_Ref_ring_6 : decode prog_7_method_24_code 6 = .ok (.if_icmp .ge (66), 3) := by decide +kernel
theorem nd_Ref_ring_9 : decode prog_7_method_24_code 9 = .ok (.iload_n 2, 1) := by decide +kernel
theorem nd_Ref_ring_10 : decode prog_7_method_24_code 10 = .ok (.istore_n 3, 1) := by decide +kernel
theorem nd_Ref_ring_11 : decode prog_7_method_24_code 11 = .ok (.iconst 0, 1) := by decide +kernel
theorem nd_Ref_ring_12 : decode prog_7_method_24_code 12 = .ok (.istore 4, 2) := by decide +kernel
theorem nd_Ref_ring_14 : decode prog_7_method_24_code 14 = .ok (.iload 4, 2) := by decide +kernel
theorem nd_Ref_ring_16 : decode prog_7_method_24_code 16 = .ok (.iconst 3, 1) := by decide +kernel
theorem nd_Ref_ring_17 : decode prog_7_method_24_code 17 = .ok (.if_icmp .ge (49), 3) := by decide +kernel
theorem nd_Ref_ring_20 : decode prog_7_method_24_code 20 = .ok (.aload_n 0, 1) := by decide +kernel
theorem nd_Ref_ring_21 : decode prog_7_method_24_code 21 = .ok (.getfield 42, 3) := by decide +kernel
theorem nd_Ref_ring_24 : decode prog_7_method_24_code 24 = .ok (.iload_n 3, 1) := by decide +kernel
theorem nd_Ref_ring_25 : decode prog_7_method_24_code 25 = .ok (.iaload, 1) := by decide +kernel
theorem nd_Ref_ring_26 : decode prog_7_method_24_code 26 = .ok (.ifCond .le (17), 3) := by decide +kernel
theorem nd_Ref_ring_29 : decode prog_7_method_24_code 29 = .ok (.aload_n 0, 1) := by decide +kernel
theorem nd_Ref_ring_30 : decode prog_7_method_24_code 30 = .ok (.getfield 36, 3) := by decide +kernel
theorem nd_Ref_ring_33 : decode prog_7_method_24_code 33 = .ok (.aload_n 0, 1) := by decide +kernel
theorem nd_Ref_ring_34 : decode prog_7_method_24_code 34 = .ok (.getfield 42, 3) := by decide +kernel
theorem nd_Ref_ring_37 : decode prog_7_method_24_code 37 = .ok (.iload_n 3, 1) := by decide +kernel
theorem nd_Ref_ring_38 : decode prog_7_method_24_code 38 = .ok (.iaload, 1) := by decide +kernel
theorem nd_Ref_ring_39 : decode prog_7_method_24_code 39 = .ok (.iaload, 1) := by decide +kernel
theorem nd_Ref_ring_40 : decode prog_7_method_24_code 40 = .ok (.goto (4), 3) := by decide +kernel
theorem nd_Ref_ring_43 : decode prog_7_method_24_code 43 = .ok (.iconst 0, 1) := by decide +kernel
theorem nd_Ref_ring_44 : decode prog_7_method_24_code 44 = .ok (.istore_n 3, 1) := by decide +kernel
theorem nd_Ref_ring_45 : decode prog_7_method_24_code 45 = .ok (.iload_n 1, 1) := by decide +kernel
theorem nd_Ref_ring_46 : decode prog_7_method_24_code 46 = .ok (.ifCond .ne (8), 3) := by decide +kernel
theorem nd_Ref_ring_49 : decode prog_7_method_24_code 49 = .ok (.iload_n 3, 1) := by decide +kernel
theorem nd_Ref_ring_50 : decode prog_7_method_24_code 50 = .ok (.iload_n 2, 1) := by decide +kernel
theorem nd_Ref_ring_51 : decode prog_7_method_24_code 51 = .ok (.if_icmp .ne (7), 3) := by decide +kernel
theorem nd_Ref_ring_54 : decode prog_7_method_24_code 54 = .ok (.iconst 1, 1) := by decide +kernel
theorem nd_Ref_ring_55 : decode prog_7_method_24_code 55 = .ok (.goto (4), 3) := by decide +kernel
theorem nd_Ref_ring_58 : decode prog_7_method_24_code 58 = .ok (.iconst 0, 1) := by decide +kernel
theorem nd_Ref_ring_59 : decode prog_7_method_24_code 59 = .ok (.istore_n 1, 1) := by decide +kernel
theorem nd_Ref_ring_60 : decode prog_7_method_24_code 60 = .ok (.iinc 4 1, 3) := by decide +kernel
theorem nd_Ref_ring_63 : decode prog_7_method_24_code 63 = .ok (.goto (-49), 3) := by decide +kernel
theorem nd_Ref_ring_66 : decode prog_7_method_24_code 66 = .ok (.iinc 2 1, 3) := by decide +kernel
theorem nd_Ref_ring_69 : decode prog_7_method_24_code 69 = .ok (.goto (-65), 3) := by decide +kernel
theorem nd_Ref_ring_72 : decode prog_7_method_24_code 72 = .ok (.iload_n 1, 1) := by decide +kernel
theorem nd_Ref_ring_73 : decode prog_7_method_24_code 73 = .ok (.ireturn, 1) := by decide +kernel
abbrev pq_Ref_ring (dC : Nat → ClassId) (dI : Nat → Nat → Nat) (cI cZ cJ : ClassId) (arf : Nat → Nat) (rf : cr_S) (lat : Int64) (ln : (Nat → Int64))  (A : Nat → Prop) : Array Value → State → Outcome → State → Prop :=
  va_Qi (fun (r : Int32) (_ : Unit) => r = md_Ref_ring rf lat ln) (fun (_ : Unit) t => va_P (dC, dI) vwCl (cw_Ref cI cZ cJ arf rf lat ln) t.heap ∧ va_K (dC, dI) vwCl [(cI, .int), (cZ, .boolean), (cJ, .long)] t ∧ va_D A (cw_Ref cI cZ cJ arf rf lat ln)) A
set_option maxHeartbeats 4000000 in
set_option maxRecDepth 100000 in
theorem ct_Ref_ring (l : Launch) (dC : Nat → ClassId) (dI : Nat → Nat → Nat) (cI cZ cJ : ClassId) (arf : Nat → Nat) (sz : Nat) (rf : cr_S) (lat : Int64) (ln : (Nat → Int64))  (hR_rf : cr_RRef rf) : Met l ny_Ref_ring nw_Ref_ring ({ frames := 0, cells := 0, slots := 0, locals := 0 } : Room) (va_Pc [.ref (arf 0)] (fun U => U.heap.size = sz ∧ va_P (dC, dI) vwCl (cw_Ref cI cZ cJ arf rf lat ln) U.heap ∧ va_K (dC, dI) vwCl [(cI, .int), (cZ, .boolean), (cJ, .long)] U ∧ va_D (fun _ => True) (cw_Ref cI cZ cJ arf rf lat ln))) (pq_Ref_ring dC dI cI cZ cJ arf rf lat ln  (va_A (cw_Ref cI cZ cJ arf rf lat ln) sz)) 0 0 (va_A (cw_Ref cI cZ cJ arf rf lat ln) sz) := by
  refine Met.ofW (cc := prog_7_method_24_code) (maxL := 5) (ret := (some .boolean)) (by decide) rfl ?_
  intro p e s m args below meth c s₁ B hml hv
  obtain ⟨rfl, hsz, hP, hK, hD0⟩ := hv
  have hx := B.exec
  have hb := B.bytes
  have hr := B.returns
  have hts0 := atoms_spec (ws := nw_Ref_ring) B.pre
  have hts : ∀ w ∈ ng_tbl, w.before ([.ref (arf 0)] : List Value).toArray s = true := fun w h => hts0 w (List.mem_cons_of_mem _ h)
  have hown : s.vm.findClass "CeilingRowsModel" = some m.cls := findClass_of_methodNamed B.named
  have hlocks := B.notSynchronized
  subst hsz
  have hD := hD0.self (sz := s.heap.size)
  generalize hAe : va_A (cw_Ref cI cZ cJ arf rf lat ln) s.heap.size = A at hD ⊢
  have hA : ∀ q : Nat, s.heap.size ≤ q → A q := fun q h => by rw [← hAe]; exact Or.inr h
  have hS : va_S A s.heap s.heap [] := va_S.rf
  have hP : va_P (dC, dI) vwCl (cw_Ref cI cZ cJ arf rf lat ln) s.heap := hP
  have hl := lv_entry ([.ref (arf 0)]) (n := 5) (Nat.le_of_ble_eq_true rfl)
  rw [lg_entry_eq]
  generalize (lg_sl ([.ref (arf 0)]) ++ List.replicate (5 - (lg_sl ([.ref (arf 0)])).length) Slot.unset).toArray = ls at hl ⊢
  have hl : lv_has ls 5 [(0, .ref (arf 0))] := hl
  have f0_rf_0 := cr_rfo hR_rf.1
  have f0_rf_1 := cr_rfo hR_rf.2.1
  have k_0 : (0 : Int32).toInt = 0 := by decide
  have k_1 : (1 : Int32).toInt = 1 := by decide
  have k_3 : (3 : Int32).toInt = 3 := by decide
  have k_4 : (4 : Int32).toInt = 4 := by decide
  obtain ⟨tgt, hT⟩ : ∃ z, md_Ref_ring rf lat ln = z := ⟨_, rfl⟩
  have hM := hT
  unfold md_Ref_ring at hM
  refine lv_iconst (v := 0) hx hb nd_Ref_ring_0 (by decide) ?_
  refine lv_istore_n (lv' := [(1, .int (0 : Int32)), (0, .ref (arf 0))]) hx hb nd_Ref_ring_1 rfl hl (by decide) rfl (fun ls hl => ?_)
  refine lv_iconst (v := 1) hx hb nd_Ref_ring_2 (by decide) ?_
  refine lv_istore_n (lv' := [(2, .int (1 : Int32)), (1, .int (0 : Int32)), (0, .ref (arf 0))]) hx hb nd_Ref_ring_3 rfl hl (by decide) rfl (fun ls hl => ?_)
  have hl := lv_sub hl [2, 1, 0] rfl
  have lp_4 : ∀ (n_4 : Nat) (v1_4 : Int32) (v2_4 : Int32), (1 ≤ v2_4.toInt ∧ v2_4.toInt ≤ 4) → (0 ≤ v1_4.toInt ∧ v1_4.toInt ≤ 1) → (4 < v2_4.toInt + (n_4 : Int)) → lo_Ref_ring_4 rf lat ln n_4 v1_4 v2_4 = tgt → ∀ (H : Heap) (locs : List Loc), va_P (dC, dI) vwCl (cw_Ref cI cZ cJ arf rf lat ln) H → va_D A (cw_Ref cI cZ cJ arf rf lat ln) → va_S A s.heap H locs → ∀ ls : Array Slot, lv_has ls 5 [(0, .ref (arf 0)), (1, .int v1_4), (2, .int v2_4)] → W p l e (headSpec nw_Ref_ring ({ frames := 0, cells := 0, slots := 0, locals := 0 } : Room)).room s m ([.ref (arf 0)] : List Value).toArray below meth c H locs 0 0 (MQ below (pq_Ref_ring dC dI cI cZ cJ arf rf lat ln  A) ([.ref (arf 0)] : List Value).toArray s 0 0 A) (F0 m 4 ls []) := by
    intro n_4
    induction n_4 with
    | zero =>
      intro v1_4 v2_4 hv2_4 hv1_4 hn_4
      exfalso; omega
    | succ n_4 ih_4 =>
      intro v1_4 v2_4 hv2_4 hv1_4 hn_4 hM H locs hP hD hS ls hl
      have hn_4 : 4 < v2_4.toInt + ((n_4 : Int) + 1) := by omega
      rw [lo_Ref_ring_4] at hM
      refine lv_iload_n hx hb nd_Ref_ring_4 rfl (lv_at hl 2 rfl) ?_
      refine lv_iconst (v := 4) hx hb nd_Ref_ring_5 (by decide) ?_
      refine lv_icmp_ge (tgt := 72) hx hb nd_Ref_ring_6 (by decide) (fun c_1 => ?_) (fun c_1 => ?_)
      · have c_1t := cr_le c_1
        rw [if_pos c_1] at hM
        refine lv_iload_n hx hb nd_Ref_ring_72 rfl (lv_at hl 1 rfl) ?_
        exact W.zret (v := v1_4) (ty := .boolean) hx hb hr (cr_bool (by omega)) (fun t ht hW => ⟨⟨v1_4, (), rfl, by rw [hT, ← hM], by rw [ht]; exact hP, va_K.moved hW.alike hK, hD⟩, hS.F ht⟩) hS.2.2 nd_Ref_ring_73
      · have c_1t := cr_nle c_1
        rw [if_neg c_1] at hM
        refine lv_iload_n hx hb nd_Ref_ring_9 rfl (lv_at hl 2 rfl) ?_
        refine lv_istore_n (lv' := [(3, .int v2_4), (0, .ref (arf 0)), (1, .int v1_4), (2, .int v2_4)]) hx hb nd_Ref_ring_10 rfl hl (by decide) rfl (fun ls hl => ?_)
        refine lv_iconst (v := 0) hx hb nd_Ref_ring_11 (by decide) ?_
        refine lv_istore (lv' := [(4, .int (0 : Int32)), (3, .int v2_4), (0, .ref (arf 0)), (1, .int v1_4), (2, .int v2_4)]) hx hb nd_Ref_ring_12 hl (by decide) rfl (fun ls hl => ?_)
        have hl := lv_sub hl [2, 3, 4, 1, 0] rfl
        obtain ⟨ti_14, hti_14⟩ : ∃ z, lo_Ref_ring_14 rf lat ln v2_4 4 v1_4 v2_4 (0 : Int32) = z := ⟨_, rfl⟩
        try rw [hti_14] at hM
        have hex_14 : (0 ≤ ti_14.toInt ∧ ti_14.toInt ≤ 1) → ∀ (H : Heap) (locs : List Loc), va_P (dC, dI) vwCl (cw_Ref cI cZ cJ arf rf lat ln) H → va_D A (cw_Ref cI cZ cJ arf rf lat ln) → va_S A s.heap H locs → ∀ ls : Array Slot, lv_has ls 5 [(0, .ref (arf 0)), (1, .int ti_14), (2, .int v2_4)] → W p l e (headSpec nw_Ref_ring ({ frames := 0, cells := 0, slots := 0, locals := 0 } : Room)).room s m ([.ref (arf 0)] : List Value).toArray below meth c H locs 0 0 (MQ below (pq_Ref_ring dC dI cI cZ cJ arf rf lat ln  A) ([.ref (arf 0)] : List Value).toArray s 0 0 A) (F0 m 66 ls []) := by
          intro hvx1_14 H locs hP hD hS ls hl
          have e_2 : (v2_4 + (1 : Int32)).toInt = v2_4.toInt + (1 : Int32).toInt := cr_add (by omega)
          refine lv_iinc (v := (v2_4 + (1 : Int32))) (lv' := [(2, .int (v2_4 + (1 : Int32))), (0, .ref (arf 0)), (1, .int ti_14)]) hx hb nd_Ref_ring_66 hl (k := 2) rfl (by rfl) (by decide) rfl (fun ls hl => ?_)
          refine lv_goto (tgt := 4) hx hb nd_Ref_ring_69 (by decide) ?_
          exact ih_4 ti_14 (v2_4 + (1 : Int32)) (by omega) (by omega) (by omega) hM _ _ hP hD hS _ (lv_sub hl [1, 2, 0] rfl)
        have lp_14 : ∀ (n_14 : Nat) (v1_14 : Int32) (v3_14 : Int32) (v4_14 : Int32), (0 ≤ v4_14.toInt ∧ v4_14.toInt ≤ 3) → (0 ≤ v3_14.toInt ∧ v3_14.toInt ≤ 3) → (0 ≤ v1_14.toInt ∧ v1_14.toInt ≤ 1) → (3 < v4_14.toInt + (n_14 : Int)) → lo_Ref_ring_14 rf lat ln v2_4 n_14 v1_14 v3_14 v4_14 = ti_14 → ∀ (H : Heap) (locs : List Loc), va_P (dC, dI) vwCl (cw_Ref cI cZ cJ arf rf lat ln) H → va_D A (cw_Ref cI cZ cJ arf rf lat ln) → va_S A s.heap H locs → ∀ ls : Array Slot, lv_has ls 5 [(0, .ref (arf 0)), (1, .int v1_14), (2, .int v2_4), (3, .int v3_14), (4, .int v4_14)] → W p l e (headSpec nw_Ref_ring ({ frames := 0, cells := 0, slots := 0, locals := 0 } : Room)).room s m ([.ref (arf 0)] : List Value).toArray below meth c H locs 0 0 (MQ below (pq_Ref_ring dC dI cI cZ cJ arf rf lat ln  A) ([.ref (arf 0)] : List Value).toArray s 0 0 A) (F0 m 14 ls []) := by
          try clear hM
          intro n_14
          induction n_14 with
          | zero =>
            intro v1_14 v3_14 v4_14 hv4_14 hv3_14 hv1_14 hn_14
            exfalso; omega
          | succ n_14 ih_14 =>
            intro v1_14 v3_14 v4_14 hv4_14 hv3_14 hv1_14 hn_14 hM H locs hP hD hS ls hl
            have hn_14 : 3 < v4_14.toInt + ((n_14 : Int) + 1) := by omega
            rw [lo_Ref_ring_14] at hM
            refine lv_iload hx hb nd_Ref_ring_14 (lv_at hl 4 rfl) ?_
            refine lv_iconst (v := 3) hx hb nd_Ref_ring_16 (by decide) ?_
            refine lv_icmp_ge (tgt := 66) hx hb nd_Ref_ring_17 (by decide) (fun c_3 => ?_) (fun c_3 => ?_)
            · have c_3t := cr_le c_3
              rw [if_pos c_3] at hM
              subst hM
              exact hex_14 (by omega) _ _ hP hD hS _ (lv_sub hl [0, 1, 2] rfl)
            · have c_3t := cr_nle c_3
              rw [if_neg c_3] at hM
              refine lv_aload_n hx hb nd_Ref_ring_20 rfl (lv_at hl 0 rfl) ?_
              refine va_get (D := (dC, dI)) (ci := 5) (v := .ref (arf 11)) (C := "CeilingRowsModel") (T := nf_Ref) (N := 22) hx hb hts nin_Ref hown hK hP 0 rfl rfl 14 (by decide) (hts _ tw_427) (fun _ h9 => h9) rfl nd_Ref_ring_21 ?_
              refine lv_iload_n hx hb nd_Ref_ring_24 rfl (lv_at hl 3 rfl) ?_
              have b_4 : vp_in v3_14 4 := vp_in_iff.mpr (by omega)
              refine va_iald hx hb hK hP 11 0 rfl rfl b_4 nd_Ref_ring_25 ?_
              have f_5 := cr_rgo hR_rf.2.2.2.2.1 (v3_14.toNatClampNeg)
              refine lv_if_le (tgt := 43) hx hb nd_Ref_ring_26 (by decide) (fun c_6 => ?_) (fun c_6 => ?_)
              · have c_6t := cr_le c_6
                rw [if_pos c_6] at hM
                refine lv_iconst (v := 0) hx hb nd_Ref_ring_43 (by decide) ?_
                refine lv_istore_n (lv' := [(3, .int (0 : Int32)), (0, .ref (arf 0)), (1, .int v1_14), (2, .int v2_4), (4, .int v4_14)]) hx hb nd_Ref_ring_44 rfl hl (by decide) rfl (fun ls hl => ?_)
                refine lv_iload_n hx hb nd_Ref_ring_45 rfl (lv_at hl 2 rfl) ?_
                refine lv_if_ne (tgt := 54) hx hb nd_Ref_ring_46 (by decide) (fun c_7 => ?_) (fun c_7 => ?_)
                · have c_7t := cr_ne c_7
                  rw [if_neg c_7] at hM
                  refine lv_iconst (v := 1) hx hb nd_Ref_ring_54 (by decide) ?_
                  refine lv_goto (tgt := 59) hx hb nd_Ref_ring_55 (by decide) ?_
                  refine lv_istore_n (lv' := [(1, .int (1 : Int32)), (3, .int (0 : Int32)), (0, .ref (arf 0)), (2, .int v2_4), (4, .int v4_14)]) hx hb nd_Ref_ring_59 rfl hl (by decide) rfl (fun ls hl => ?_)
                  have e_8 : (v4_14 + (1 : Int32)).toInt = v4_14.toInt + (1 : Int32).toInt := cr_add (by omega)
                  refine lv_iinc (v := (v4_14 + (1 : Int32))) (lv' := [(4, .int (v4_14 + (1 : Int32))), (1, .int (1 : Int32)), (3, .int (0 : Int32)), (0, .ref (arf 0)), (2, .int v2_4)]) hx hb nd_Ref_ring_60 hl (k := 4) rfl (by rfl) (by decide) rfl (fun ls hl => ?_)
                  refine lv_goto (tgt := 14) hx hb nd_Ref_ring_63 (by decide) ?_
                  exact ih_14 (1 : Int32) (0 : Int32) (v4_14 + (1 : Int32)) (by omega) (by omega) (by omega) (by omega) hM _ _ hP hD hS _ (lv_sub hl [3, 1, 4, 2, 0] rfl)
                · have c_7t := cr_eq c_7
                  rw [if_pos c_7] at hM
                  refine lv_iload_n hx hb nd_Ref_ring_49 rfl (lv_at hl 0 rfl) ?_
                  refine lv_iload_n hx hb nd_Ref_ring_50 rfl (lv_at hl 3 rfl) ?_
                  refine lv_icmp_ne (tgt := 58) hx hb nd_Ref_ring_51 (by decide) (fun c_9 => ?_) (fun c_9 => ?_)
                  · have c_9t := cr_ne c_9
                    rw [if_neg c_9] at hM
                    refine lv_iconst (v := 0) hx hb nd_Ref_ring_58 (by decide) ?_
                    refine lv_istore_n (lv' := [(1, .int (0 : Int32)), (3, .int (0 : Int32)), (0, .ref (arf 0)), (2, .int v2_4), (4, .int v4_14)]) hx hb nd_Ref_ring_59 rfl hl (by decide) rfl (fun ls hl => ?_)
                    have e_10 : (v4_14 + (1 : Int32)).toInt = v4_14.toInt + (1 : Int32).toInt := cr_add (by omega)
                    refine lv_iinc (v := (v4_14 + (1 : Int32))) (lv' := [(4, .int (v4_14 + (1 : Int32))), (1, .int (0 : Int32)), (3, .int (0 : Int32)), (0, .ref (arf 0)), (2, .int v2_4)]) hx hb nd_Ref_ring_60 hl (k := 4) rfl (by rfl) (by decide) rfl (fun ls hl => ?_)
                    refine lv_goto (tgt := 14) hx hb nd_Ref_ring_63 (by decide) ?_
                    exact ih_14 (0 : Int32) (0 : Int32) (v4_14 + (1 : Int32)) (by omega) (by omega) (by omega) (by omega) hM _ _ hP hD hS _ (lv_sub hl [3, 1, 4, 2, 0] rfl)
                  · have c_9t := cr_eq c_9
                    rw [if_pos c_9] at hM
                    refine lv_iconst (v := 1) hx hb nd_Ref_ring_54 (by decide) ?_
                    refine lv_goto (tgt := 59) hx hb nd_Ref_ring_55 (by decide) ?_
                    refine lv_istore_n (lv' := [(1, .int (1 : Int32)), (3, .int (0 : Int32)), (0, .ref (arf 0)), (2, .int v2_4), (4, .int v4_14)]) hx hb nd_Ref_ring_59 rfl hl (by decide) rfl (fun ls hl => ?_)
                    have e_11 : (v4_14 + (1 : Int32)).toInt = v4_14.toInt + (1 : Int32).toInt := cr_add (by omega)
                    refine lv_iinc (v := (v4_14 + (1 : Int32))) (lv' := [(4, .int (v4_14 + (1 : Int32))), (1, .int (1 : Int32)), (3, .int (0 : Int32)), (0, .ref (arf 0)), (2, .int v2_4)]) hx hb nd_Ref_ring_60 hl (k := 4) rfl (by rfl) (by decide) rfl (fun ls hl => ?_)
                    refine lv_goto (tgt := 14) hx hb nd_Ref_ring_63 (by decide) ?_
                    exact ih_14 (1 : Int32) (0 : Int32) (v4_14 + (1 : Int32)) (by omega) (by omega) (by omega) (by omega) hM _ _ hP hD hS _ (lv_sub hl [3, 1, 4, 2, 0] rfl)
              · have c_6t := cr_nle c_6
                rw [if_neg c_6] at hM
                refine lv_aload_n hx hb nd_Ref_ring_29 rfl (lv_at hl 0 rfl) ?_
                refine va_get (D := (dC, dI)) (ci := 5) (v := .ref (arf 9)) (C := "CeilingRowsModel") (T := nf_Ref) (N := 22) hx hb hts nin_Ref hown hK hP 0 rfl rfl 12 (by decide) (hts _ tw_425) (fun _ h9 => h9) rfl nd_Ref_ring_30 ?_
                refine lv_aload_n hx hb nd_Ref_ring_33 rfl (lv_at hl 0 rfl) ?_
                refine va_get (D := (dC, dI)) (ci := 5) (v := .ref (arf 11)) (C := "CeilingRowsModel") (T := nf_Ref) (N := 22) hx hb hts nin_Ref hown hK hP 0 rfl rfl 14 (by decide) (hts _ tw_427) (fun _ h9 => h9) rfl nd_Ref_ring_34 ?_
                refine lv_iload_n hx hb nd_Ref_ring_37 rfl (lv_at hl 3 rfl) ?_
                have b_12 : vp_in v3_14 4 := vp_in_iff.mpr (by omega)
                refine va_iald hx hb hK hP 11 0 rfl rfl b_12 nd_Ref_ring_38 ?_
                have f_13 := cr_rgo hR_rf.2.2.2.2.1 (v3_14.toNatClampNeg)
                have b_14 : vp_in (rf 11 v3_14.toNatClampNeg) 9 := vp_in_iff.mpr (by omega)
                refine va_iald hx hb hK hP 9 0 rfl rfl b_14 nd_Ref_ring_39 ?_
                have f_15 := cr_rgo hR_rf.2.2.2.1 ((rf 11 v3_14.toNatClampNeg).toNatClampNeg)
                refine lv_goto (tgt := 44) hx hb nd_Ref_ring_40 (by decide) ?_
                refine lv_istore_n (lv' := [(3, .int (rf 9 (rf 11 v3_14.toNatClampNeg).toNatClampNeg)), (0, .ref (arf 0)), (1, .int v1_14), (2, .int v2_4), (4, .int v4_14)]) hx hb nd_Ref_ring_44 rfl hl (by decide) rfl (fun ls hl => ?_)
                refine lv_iload_n hx hb nd_Ref_ring_45 rfl (lv_at hl 2 rfl) ?_
                refine lv_if_ne (tgt := 54) hx hb nd_Ref_ring_46 (by decide) (fun c_16 => ?_) (fun c_16 => ?_)
                · have c_16t := cr_ne c_16
                  rw [if_neg c_16] at hM
                  refine lv_iconst (v := 1) hx hb nd_Ref_ring_54 (by decide) ?_
                  refine lv_goto (tgt := 59) hx hb nd_Ref_ring_55 (by decide) ?_
                  refine lv_istore_n (lv' := [(1, .int (1 : Int32)), (3, .int (rf 9 (rf 11 v3_14.toNatClampNeg).toNatClampNeg)), (0, .ref (arf 0)), (2, .int v2_4), (4, .int v4_14)]) hx hb nd_Ref_ring_59 rfl hl (by decide) rfl (fun ls hl => ?_)
                  have e_17 : (v4_14 + (1 : Int32)).toInt = v4_14.toInt + (1 : Int32).toInt := cr_add (by omega)
                  refine lv_iinc (v := (v4_14 + (1 : Int32))) (lv' := [(4, .int (v4_14 + (1 : Int32))), (1, .int (1 : Int32)), (3, .int (rf 9 (rf 11 v3_14.toNatClampNeg).toNatClampNeg)), (0, .ref (arf 0)), (2, .int v2_4)]) hx hb nd_Ref_ring_60 hl (k := 4) rfl (by rfl) (by decide) rfl (fun ls hl => ?_)
                  refine lv_goto (tgt := 14) hx hb nd_Ref_ring_63 (by decide) ?_
                  exact ih_14 (1 : Int32) (rf 9 (rf 11 v3_14.toNatClampNeg).toNatClampNeg) (v4_14 + (1 : Int32)) (by omega) (by omega) (by omega) (by omega) hM _ _ hP hD hS _ (lv_sub hl [3, 1, 4, 2, 0] rfl)
                · have c_16t := cr_eq c_16
                  rw [if_pos c_16] at hM
                  refine lv_iload_n hx hb nd_Ref_ring_49 rfl (lv_at hl 0 rfl) ?_
                  refine lv_iload_n hx hb nd_Ref_ring_50 rfl (lv_at hl 3 rfl) ?_
                  refine lv_icmp_ne (tgt := 58) hx hb nd_Ref_ring_51 (by decide) (fun c_18 => ?_) (fun c_18 => ?_)
                  · have c_18t := cr_ne c_18
                    rw [if_neg c_18] at hM
                    refine lv_iconst (v := 0) hx hb nd_Ref_ring_58 (by decide) ?_
                    refine lv_istore_n (lv' := [(1, .int (0 : Int32)), (3, .int (rf 9 (rf 11 v3_14.toNatClampNeg).toNatClampNeg)), (0, .ref (arf 0)), (2, .int v2_4), (4, .int v4_14)]) hx hb nd_Ref_ring_59 rfl hl (by decide) rfl (fun ls hl => ?_)
                    have e_19 : (v4_14 + (1 : Int32)).toInt = v4_14.toInt + (1 : Int32).toInt := cr_add (by omega)
                    refine lv_iinc (v := (v4_14 + (1 : Int32))) (lv' := [(4, .int (v4_14 + (1 : Int32))), (1, .int (0 : Int32)), (3, .int (rf 9 (rf 11 v3_14.toNatClampNeg).toNatClampNeg)), (0, .ref (arf 0)), (2, .int v2_4)]) hx hb nd_Ref_ring_60 hl (k := 4) rfl (by rfl) (by decide) rfl (fun ls hl => ?_)
                    refine lv_goto (tgt := 14) hx hb nd_Ref_ring_63 (by decide) ?_
                    exact ih_14 (0 : Int32) (rf 9 (rf 11 v3_14.toNatClampNeg).toNatClampNeg) (v4_14 + (1 : Int32)) (by omega) (by omega) (by omega) (by omega) hM _ _ hP hD hS _ (lv_sub hl [3, 1, 4, 2, 0] rfl)
                  · have c_18t := cr_eq c_18
                    rw [if_pos c_18] at hM
                    refine lv_iconst (v := 1) hx hb nd_Ref_ring_54 (by decide) ?_
                    refine lv_goto (tgt := 59) hx hb nd_Ref_ring_55 (by decide) ?_
                    refine lv_istore_n (lv' := [(1, .int (1 : Int32)), (3, .int (rf 9 (rf 11 v3_14.toNatClampNeg).toNatClampNeg)), (0, .ref (arf 0)), (2, .int v2_4), (4, .int v4_14)]) hx hb nd_Ref_ring_59 rfl hl (by decide) rfl (fun ls hl => ?_)
                    have e_20 : (v4_14 + (1 : Int32)).toInt = v4_14.toInt + (1 : Int32).toInt := cr_add (by omega)
                    refine lv_iinc (v := (v4_14 + (1 : Int32))) (lv' := [(4, .int (v4_14 + (1 : Int32))), (1, .int (1 : Int32)), (3, .int (rf 9 (rf 11 v3_14.toNatClampNeg).toNatClampNeg)), (0, .ref (arf 0)), (2, .int v2_4)]) hx hb nd_Ref_ring_60 hl (k := 4) rfl (by rfl) (by decide) rfl (fun ls hl => ?_)
                    refine lv_goto (tgt := 14) hx hb nd_Ref_ring_63 (by decide) ?_
                    exact ih_14 (1 : Int32) (rf 9 (rf 11 v3_14.toNatClampNeg).toNatClampNeg) (v4_14 + (1 : Int32)) (by omega) (by omega) (by omega) (by omega) hM _ _ hP hD hS _ (lv_sub hl [3, 1, 4, 2, 0] rfl)
        exact lp_14 4 v1_4 v2_4 (0 : Int32) (by omega) (by omega) (by omega) (by omega) hti_14 _ _ hP hD hS _ hl
  exact lp_4 4 (0 : Int32) (1 : Int32) (by omega) (by omega) (by omega) hM _ _ hP hD hS _ hl
