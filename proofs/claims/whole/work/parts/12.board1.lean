theorem nd_Board_clear_0 : decode prog_2_method_2_code 0 = .ok (.aload_n 0, 1) := by decide +kernel
theorem nd_Board_clear_1 : decode prog_2_method_2_code 1 = .ok (.getfield 9, 3) := by decide +kernel
theorem nd_Board_clear_4 : decode prog_2_method_2_code 4 = .ok (.iconst 0, 1) := by decide +kernel
theorem nd_Board_clear_5 : decode prog_2_method_2_code 5 = .ok (.invokestatic 31, 3) := by decide +kernel
theorem nd_Board_clear_8 : decode prog_2_method_2_code 8 = .ok (.aload_n 0, 1) := by decide +kernel
theorem nd_Board_clear_9 : decode prog_2_method_2_code 9 = .ok (.getfield 15, 3) := by decide +kernel
theorem nd_Board_clear_12 : decode prog_2_method_2_code 12 = .ok (.iconst 0, 1) := by decide +kernel
theorem nd_Board_clear_13 : decode prog_2_method_2_code 13 = .ok (.invokestatic 31, 3) := by decide +kernel
theorem nd_Board_clear_16 : decode prog_2_method_2_code 16 = .ok (.aload_n 0, 1) := by decide +kernel
theorem nd_Board_clear_17 : decode prog_2_method_2_code 17 = .ok (.iconst 0, 1) := by decide +kernel
theorem nd_Board_clear_18 : decode prog_2_method_2_code 18 = .ok (.putfield 37, 3) := by decide +kernel
theorem nd_Board_clear_21 : decode prog_2_method_2_code 21 = .ok (.aload_n 0, 1) := by decide +kernel
theorem nd_Board_clear_22 : decode prog_2_method_2_code 22 = .ok (.getfield 18, 3) := by decide +kernel
theorem nd_Board_clear_25 : decode prog_2_method_2_code 25 = .ok (.iconst 0, 1) := by decide +kernel
theorem nd_Board_clear_26 : decode prog_2_method_2_code 26 = .ok (.invokestatic 31, 3) := by decide +kernel
theorem nd_Board_clear_29 : decode prog_2_method_2_code 29 = .ok (.aload_n 0, 1) := by decide +kernel
theorem nd_Board_clear_30 : decode prog_2_method_2_code 30 = .ok (.getfield 21, 3) := by decide +kernel
theorem nd_Board_clear_33 : decode prog_2_method_2_code 33 = .ok (.iconst 0, 1) := by decide +kernel
theorem nd_Board_clear_34 : decode prog_2_method_2_code 34 = .ok (.invokestatic 31, 3) := by decide +kernel
theorem nd_Board_clear_37 : decode prog_2_method_2_code 37 = .ok (.aload_n 0, 1) := by decide +kernel
theorem nd_Board_clear_38 : decode prog_2_method_2_code 38 = .ok (.getfield 24, 3) := by decide +kernel
theorem nd_Board_clear_41 : decode prog_2_method_2_code 41 = .ok (.iconst 0, 1) := by decide +kernel
theorem nd_Board_clear_42 : decode prog_2_method_2_code 42 = .ok (.invokestatic 31, 3) := by decide +kernel
theorem nd_Board_clear_45 : decode prog_2_method_2_code 45 = .ok (.return_, 1) := by decide +kernel
abbrev pq_Board_clear (dC : Nat → ClassId) (dI : Nat → Nat → Nat) (cI cZ cO : ClassId) (apl abd : Nat → Nat) (pl : cr_S) (bd : cr_S)  (A : Nat → Prop) : Array Value → State → Outcome → State → Prop :=
  va_Qv (fun (bd' : cr_S) => bd' = md_Board_clear pl bd ∧ cr_RBoard bd') (fun (bd' : cr_S) t => va_P (dC, dI) vwCl (cw_Plan cI cZ cO apl pl ++ cw_Board cI cZ cO abd apl bd') t.heap ∧ va_K (dC, dI) vwCl [(cI, .int), (cZ, .boolean), (cO, .array .int)] t ∧ va_D A (cw_Plan cI cZ cO apl pl ++ cw_Board cI cZ cO abd apl bd')) A
set_option maxHeartbeats 4000000 in
set_option maxRecDepth 100000 in
theorem ct_Board_clear (l : Launch) (dC : Nat → ClassId) (dI : Nat → Nat → Nat) (cI cZ cO : ClassId) (apl abd : Nat → Nat) (sz : Nat) (pl : cr_S) (bd : cr_S)  (hR_bd : cr_RBoard bd) (hR_pl : cr_RPlan pl) : Met l ny_Board_clear nw_Board_clear ({ frames := 1, cells := 0, slots := 0, locals := 23 } : Room) (va_Pc [.ref (abd 0)] (fun U => U.heap.size = sz ∧ va_P (dC, dI) vwCl (cw_Plan cI cZ cO apl pl ++ cw_Board cI cZ cO abd apl bd) U.heap ∧ va_K (dC, dI) vwCl [(cI, .int), (cZ, .boolean), (cO, .array .int)] U ∧ va_D (fun _ => True) (cw_Plan cI cZ cO apl pl ++ cw_Board cI cZ cO abd apl bd))) (pq_Board_clear dC dI cI cZ cO apl abd pl bd  (va_A (cw_Plan cI cZ cO apl pl ++ cw_Board cI cZ cO abd apl bd) sz)) 0 0 (va_A (cw_Plan cI cZ cO apl pl ++ cw_Board cI cZ cO abd apl bd) sz) := by
  refine Met.ofW (cc := prog_2_method_2_code) (maxL := 1) (ret := none) (by decide) rfl ?_
  intro p e s m args below meth c s₁ B hml hv
  obtain ⟨rfl, hsz, hP, hK, hD0⟩ := hv
  have hx := B.exec
  have hb := B.bytes
  have hr := B.returns
  have hts0 := atoms_spec (ws := nw_Board_clear) B.pre
  have hts : ∀ w ∈ ng_tbl, w.before ([.ref (abd 0)] : List Value).toArray s = true := fun w h => hts0 w (List.mem_cons_of_mem _ h)
  have hown : s.vm.findClass "CeilingRows$Board" = some m.cls := findClass_of_methodNamed B.named
  have hlocks := B.notSynchronized
  subst hsz
  have hD := hD0.self (sz := s.heap.size)
  generalize hAe : va_A (cw_Plan cI cZ cO apl pl ++ cw_Board cI cZ cO abd apl bd) s.heap.size = A at hD ⊢
  have hA : ∀ q : Nat, s.heap.size ≤ q → A q := fun q h => by rw [← hAe]; exact Or.inr h
  have hS : va_S A s.heap s.heap [] := va_S.rf
  have hP : va_P (dC, dI) vwCl (cw_Plan cI cZ cO apl pl ++ cw_Board cI cZ cO abd apl bd) s.heap := hP
  have hl := lv_entry ([.ref (abd 0)]) (n := 1) (Nat.le_of_ble_eq_true rfl)
  rw [lg_entry_eq]
  generalize (lg_sl ([.ref (abd 0)]) ++ List.replicate (1 - (lg_sl ([.ref (abd 0)])).length) Slot.unset).toArray = ls at hl ⊢
  have hl : lv_has ls 1 [(0, .ref (abd 0))] := hl
  have k_0 : (0 : Int32).toInt = 0 := by decide
  obtain ⟨tgt, hT⟩ : ∃ z, md_Board_clear pl bd = z := ⟨_, rfl⟩
  have hM := hT
  unfold md_Board_clear at hM
  refine lv_aload_n hx hb nd_Board_clear_0 rfl (lv_at hl 0 rfl) ?_
  refine va_get (D := (dC, dI)) (ci := 1) (v := .ref (abd 1)) (C := "CeilingRows$Board") (T := nf_Board) (N := 7) hx hb hts nin_Board hown hK hP 17 rfl rfl 1 (by decide) (hts _ tw_68) (fun _ h9 => h9) rfl nd_Board_clear_1 ?_
  refine lv_iconst (v := 0) hx hb nd_Board_clear_4 (by decide) ?_
  have h_1 : (cw_Plan cI cZ cO apl pl ++ cw_Board cI cZ cO abd apl bd)[18]? = some (abd 1, (.inl (cI, 11, .inl (bd 1)) : va_E)) := rfl
  have hPc := cr_P1 hP h_1
  have hFc := cr_F1 hD hS hA h_1
  refine va_callv (va_runS (As := [.ref (abd 1), .int (0 : Int32)]) (rest := []) ⟨hx, hb, hml, hown, hts⟩ (ct_fill l dC dI cI cZ cO (abd 1) s.heap.size 11 (bd 1) (0 : Int32) (by decide)) (va_cwS 2 hts (ng_S tw_357 tw_358 tw_8 tw_359) rfl rfl rfl (by decide +kernel) ⟨Nat.le_of_ble_eq_true rfl, Nat.le_of_ble_eq_true rfl⟩) ⟨fun a U g mk q => by obtain ⟨q0, q1, qP, qK, qD⟩ := q; exact ⟨q0, q1, qP, va_K.moved (u := U) (U := U.calling g mk a) (Vm.Alike.refl U.vm) qK, qD⟩, fun U hU hW => ⟨rfl, by rw [hU], by rw [hU]; exact hPc, va_K.moved hW.alike hK, cr_D1⟩⟩ rfl rfl hl.1 rfl (lv_room (Nat.le_of_ble_eq_true rfl)) nd_Board_clear_5 ⟨Nat.zero_le _, Nat.zero_le _⟩) hS (fun q _ h => hFc q h) hFc (fun u t H1 locs ht hvm hw hB hz1 hk1 hS => ?_)
  obtain ⟨hP1, hK1, hD1⟩ := hB
  rw [ht] at hP1
  subst hw
  obtain ⟨hP, hD⟩ := cr_join1 hP hD h_1 hk1 hP1
  generalize H1 = H at hP hS ⊢
  have hP : va_P (dC, dI) vwCl (cw_Plan cI cZ cO apl pl ++ cw_Board cI cZ cO abd apl (cr_fill bd 1 11 (0 : Int32))) H := hP
  have hD : va_D A (cw_Plan cI cZ cO apl pl ++ cw_Board cI cZ cO abd apl (cr_fill bd 1 11 (0 : Int32))) := hD
  have hR_2 : cr_RBoard (cr_fill bd 1 11 (0 : Int32)) := ⟨cr_rg_fill hR_bd.1 (fun e => absurd e (by decide)), cr_rg_fill hR_bd.2 (fun e => absurd e (by decide))⟩
  obtain ⟨bdq_3, hbdq_3⟩ : ∃ z, (cr_fill bd 1 11 (0 : Int32)) = z := ⟨_, rfl⟩
  rw [hbdq_3] at hP hD hR_2
  try rw [hbdq_3] at hM
  refine lv_aload_n hx hb nd_Board_clear_8 rfl (lv_at hl 0 rfl) ?_
  refine va_get (D := (dC, dI)) (ci := 1) (v := .ref (abd 2)) (C := "CeilingRows$Board") (T := nf_Board) (N := 7) hx hb hts nin_Board hown hK hP 17 rfl rfl 2 (by decide) (hts _ tw_71) (fun _ h9 => h9) rfl nd_Board_clear_9 ?_
  refine lv_iconst (v := 0) hx hb nd_Board_clear_12 (by decide) ?_
  have h_4 : (cw_Plan cI cZ cO apl pl ++ cw_Board cI cZ cO abd apl bdq_3)[19]? = some (abd 2, (.inl (cI, 11, .inl (bdq_3 2)) : va_E)) := rfl
  have hPc := cr_P1 hP h_4
  have hFc := cr_F1 hD hS hA h_4
  refine va_callv (va_runS (As := [.ref (abd 2), .int (0 : Int32)]) (rest := []) ⟨hx, hb, hml, hown, hts⟩ (ct_fill l dC dI cI cZ cO (abd 2) H.size 11 (bdq_3 2) (0 : Int32) (by decide)) (va_cwS 2 hts (ng_S tw_357 tw_358 tw_8 tw_359) rfl rfl rfl (by decide +kernel) ⟨Nat.le_of_ble_eq_true rfl, Nat.le_of_ble_eq_true rfl⟩) ⟨fun a U g mk q => by obtain ⟨q0, q1, qP, qK, qD⟩ := q; exact ⟨q0, q1, qP, va_K.moved (u := U) (U := U.calling g mk a) (Vm.Alike.refl U.vm) qK, qD⟩, fun U hU hW => ⟨rfl, by rw [hU], by rw [hU]; exact hPc, va_K.moved hW.alike hK, cr_D1⟩⟩ rfl rfl hl.1 rfl (lv_room (Nat.le_of_ble_eq_true rfl)) nd_Board_clear_13 ⟨Nat.zero_le _, Nat.zero_le _⟩) hS (fun q _ h => hFc q h) hFc (fun u t H1 locs ht hvm hw hB hz1 hk1 hS => ?_)
  obtain ⟨hP1, hK1, hD1⟩ := hB
  rw [ht] at hP1
  subst hw
  obtain ⟨hP, hD⟩ := cr_join1 hP hD h_4 hk1 hP1
  generalize H1 = H at hP hS ⊢
  have hP : va_P (dC, dI) vwCl (cw_Plan cI cZ cO apl pl ++ cw_Board cI cZ cO abd apl (cr_fill bdq_3 2 11 (0 : Int32))) H := hP
  have hD : va_D A (cw_Plan cI cZ cO apl pl ++ cw_Board cI cZ cO abd apl (cr_fill bdq_3 2 11 (0 : Int32))) := hD
  have hR_5 : cr_RBoard (cr_fill bdq_3 2 11 (0 : Int32)) := ⟨cr_rg_fill hR_2.1 (fun e => absurd e (by decide)), cr_rg_fill hR_2.2 (fun e => absurd e (by decide))⟩
  obtain ⟨bdq_6, hbdq_6⟩ : ∃ z, (cr_fill bdq_3 2 11 (0 : Int32)) = z := ⟨_, rfl⟩
  rw [hbdq_6] at hP hD hR_5
  try rw [hbdq_6] at hM
  refine lv_aload_n hx hb nd_Board_clear_16 rfl (lv_at hl 0 rfl) ?_
  refine lv_iconst (v := 0) hx hb nd_Board_clear_17 (by decide) ?_
  refine va_put (D := (dC, dI)) (ci := 1) (v := .int (0 : Int32)) (ty := .int) (C := "CeilingRows$Board") (T := nf_Board) (N := 7) hx hb hts nin_Board nt_Board nto_Board nno_Board hown hK hP hD hS 17 rfl rfl 3 (by decide) (hts _ tw_72) (fun _ h9 => h9) rfl (by decide +kernel) rfl rfl (Nat.le_of_ble_eq_true rfl) nd_Board_clear_18 (fun H locs hP hD hS => ?_)
  have hP : va_P (dC, dI) vwCl (cw_Plan cI cZ cO apl pl ++ cw_Board cI cZ cO abd apl (cr_up bdq_6 0 0 (0 : Int32))) H := hP
  have hD : va_D A (cw_Plan cI cZ cO apl pl ++ cw_Board cI cZ cO abd apl (cr_up bdq_6 0 0 (0 : Int32))) := hD
  have hR_7 : cr_RBoard (cr_up bdq_6 0 0 (0 : Int32)) := ⟨cr_rg_up hR_5.1 (fun e => absurd e (by decide)), cr_rg_up hR_5.2 (fun e => absurd e (by decide))⟩
  obtain ⟨bdq_8, hbdq_8⟩ : ∃ z, (cr_up bdq_6 0 0 (0 : Int32)) = z := ⟨_, rfl⟩
  rw [hbdq_8] at hP hD hR_7
  try rw [hbdq_8] at hM
  refine lv_aload_n hx hb nd_Board_clear_21 rfl (lv_at hl 0 rfl) ?_
  refine va_get (D := (dC, dI)) (ci := 1) (v := .ref (abd 3)) (C := "CeilingRows$Board") (T := nf_Board) (N := 7) hx hb hts nin_Board hown hK hP 17 rfl rfl 4 (by decide) (hts _ tw_73) (fun _ h9 => h9) rfl nd_Board_clear_22 ?_
  refine lv_iconst (v := 0) hx hb nd_Board_clear_25 (by decide) ?_
  have h_9 : (cw_Plan cI cZ cO apl pl ++ cw_Board cI cZ cO abd apl bdq_8)[20]? = some (abd 3, (.inl (cI, 11, .inl (bdq_8 3)) : va_E)) := rfl
  have hPc := cr_P1 hP h_9
  have hFc := cr_F1 hD hS hA h_9
  refine va_callv (va_runS (As := [.ref (abd 3), .int (0 : Int32)]) (rest := []) ⟨hx, hb, hml, hown, hts⟩ (ct_fill l dC dI cI cZ cO (abd 3) H.size 11 (bdq_8 3) (0 : Int32) (by decide)) (va_cwS 2 hts (ng_S tw_357 tw_358 tw_8 tw_359) rfl rfl rfl (by decide +kernel) ⟨Nat.le_of_ble_eq_true rfl, Nat.le_of_ble_eq_true rfl⟩) ⟨fun a U g mk q => by obtain ⟨q0, q1, qP, qK, qD⟩ := q; exact ⟨q0, q1, qP, va_K.moved (u := U) (U := U.calling g mk a) (Vm.Alike.refl U.vm) qK, qD⟩, fun U hU hW => ⟨rfl, by rw [hU], by rw [hU]; exact hPc, va_K.moved hW.alike hK, cr_D1⟩⟩ rfl rfl hl.1 rfl (lv_room (Nat.le_of_ble_eq_true rfl)) nd_Board_clear_26 ⟨Nat.zero_le _, Nat.zero_le _⟩) hS (fun q _ h => hFc q h) hFc (fun u t H1 locs ht hvm hw hB hz1 hk1 hS => ?_)
  obtain ⟨hP1, hK1, hD1⟩ := hB
  rw [ht] at hP1
  subst hw
  obtain ⟨hP, hD⟩ := cr_join1 hP hD h_9 hk1 hP1
  generalize H1 = H at hP hS ⊢
  have hP : va_P (dC, dI) vwCl (cw_Plan cI cZ cO apl pl ++ cw_Board cI cZ cO abd apl (cr_fill bdq_8 3 11 (0 : Int32))) H := hP
  have hD : va_D A (cw_Plan cI cZ cO apl pl ++ cw_Board cI cZ cO abd apl (cr_fill bdq_8 3 11 (0 : Int32))) := hD
  have hR_10 : cr_RBoard (cr_fill bdq_8 3 11 (0 : Int32)) := ⟨cr_rg_fill hR_7.1 (fun _ => by omega), cr_rg_fill hR_7.2 (fun e => absurd e (by decide))⟩
  obtain ⟨bdq_11, hbdq_11⟩ : ∃ z, (cr_fill bdq_8 3 11 (0 : Int32)) = z := ⟨_, rfl⟩
  rw [hbdq_11] at hP hD hR_10
  try rw [hbdq_11] at hM
  refine lv_aload_n hx hb nd_Board_clear_29 rfl (lv_at hl 0 rfl) ?_
  refine va_get (D := (dC, dI)) (ci := 1) (v := .ref (abd 4)) (C := "CeilingRows$Board") (T := nf_Board) (N := 7) hx hb hts nin_Board hown hK hP 17 rfl rfl 5 (by decide) (hts _ tw_75) (fun _ h9 => h9) rfl nd_Board_clear_30 ?_
  refine lv_iconst (v := 0) hx hb nd_Board_clear_33 (by decide) ?_
  have h_12 : (cw_Plan cI cZ cO apl pl ++ cw_Board cI cZ cO abd apl bdq_11)[21]? = some (abd 4, (.inl (cI, 9, .inl (bdq_11 4)) : va_E)) := rfl
  have hPc := cr_P1 hP h_12
  have hFc := cr_F1 hD hS hA h_12
  refine va_callv (va_runS (As := [.ref (abd 4), .int (0 : Int32)]) (rest := []) ⟨hx, hb, hml, hown, hts⟩ (ct_fill l dC dI cI cZ cO (abd 4) H.size 9 (bdq_11 4) (0 : Int32) (by decide)) (va_cwS 2 hts (ng_S tw_357 tw_358 tw_8 tw_359) rfl rfl rfl (by decide +kernel) ⟨Nat.le_of_ble_eq_true rfl, Nat.le_of_ble_eq_true rfl⟩) ⟨fun a U g mk q => by obtain ⟨q0, q1, qP, qK, qD⟩ := q; exact ⟨q0, q1, qP, va_K.moved (u := U) (U := U.calling g mk a) (Vm.Alike.refl U.vm) qK, qD⟩, fun U hU hW => ⟨rfl, by rw [hU], by rw [hU]; exact hPc, va_K.moved hW.alike hK, cr_D1⟩⟩ rfl rfl hl.1 rfl (lv_room (Nat.le_of_ble_eq_true rfl)) nd_Board_clear_34 ⟨Nat.zero_le _, Nat.zero_le _⟩) hS (fun q _ h => hFc q h) hFc (fun u t H1 locs ht hvm hw hB hz1 hk1 hS => ?_)
  obtain ⟨hP1, hK1, hD1⟩ := hB
  rw [ht] at hP1
  subst hw
  obtain ⟨hP, hD⟩ := cr_join1 hP hD h_12 hk1 hP1
  generalize H1 = H at hP hS ⊢
  have hP : va_P (dC, dI) vwCl (cw_Plan cI cZ cO apl pl ++ cw_Board cI cZ cO abd apl (cr_fill bdq_11 4 9 (0 : Int32))) H := hP
  have hD : va_D A (cw_Plan cI cZ cO apl pl ++ cw_Board cI cZ cO abd apl (cr_fill bdq_11 4 9 (0 : Int32))) := hD
  have hR_13 : cr_RBoard (cr_fill bdq_11 4 9 (0 : Int32)) := ⟨cr_rg_fill hR_10.1 (fun e => absurd e (by decide)), cr_rg_fill hR_10.2 (fun e => absurd e (by decide))⟩
  obtain ⟨bdq_14, hbdq_14⟩ : ∃ z, (cr_fill bdq_11 4 9 (0 : Int32)) = z := ⟨_, rfl⟩
  rw [hbdq_14] at hP hD hR_13
  try rw [hbdq_14] at hM
  refine lv_aload_n hx hb nd_Board_clear_37 rfl (lv_at hl 0 rfl) ?_
  refine va_get (D := (dC, dI)) (ci := 1) (v := .ref (abd 5)) (C := "CeilingRows$Board") (T := nf_Board) (N := 7) hx hb hts nin_Board hown hK hP 17 rfl rfl 6 (by decide) (hts _ tw_78) (fun _ h9 => h9) rfl nd_Board_clear_38 ?_
  refine lv_iconst (v := 0) hx hb nd_Board_clear_41 (by decide) ?_
  have h_15 : (cw_Plan cI cZ cO apl pl ++ cw_Board cI cZ cO abd apl bdq_14)[22]? = some (abd 5, (.inl (cI, 9, .inl (bdq_14 5)) : va_E)) := rfl
  have hPc := cr_P1 hP h_15
  have hFc := cr_F1 hD hS hA h_15
  refine va_callv (va_runS (As := [.ref (abd 5), .int (0 : Int32)]) (rest := []) ⟨hx, hb, hml, hown, hts⟩ (ct_fill l dC dI cI cZ cO (abd 5) H.size 9 (bdq_14 5) (0 : Int32) (by decide)) (va_cwS 2 hts (ng_S tw_357 tw_358 tw_8 tw_359) rfl rfl rfl (by decide +kernel) ⟨Nat.le_of_ble_eq_true rfl, Nat.le_of_ble_eq_true rfl⟩) ⟨fun a U g mk q => by obtain ⟨q0, q1, qP, qK, qD⟩ := q; exact ⟨q0, q1, qP, va_K.moved (u := U) (U := U.calling g mk a) (Vm.Alike.refl U.vm) qK, qD⟩, fun U hU hW => ⟨rfl, by rw [hU], by rw [hU]; exact hPc, va_K.moved hW.alike hK, cr_D1⟩⟩ rfl rfl hl.1 rfl (lv_room (Nat.le_of_ble_eq_true rfl)) nd_Board_clear_42 ⟨Nat.zero_le _, Nat.zero_le _⟩) hS (fun q _ h => hFc q h) hFc (fun u t H1 locs ht hvm hw hB hz1 hk1 hS => ?_)
  obtain ⟨hP1, hK1, hD1⟩ := hB
  rw [ht] at hP1
  subst hw
  obtain ⟨hP, hD⟩ := cr_join1 hP hD h_15 hk1 hP1
  generalize H1 = H at hP hS ⊢
  have hP : va_P (dC, dI) vwCl (cw_Plan cI cZ cO apl pl ++ cw_Board cI cZ cO abd apl (cr_fill bdq_14 5 9 (0 : Int32))) H := hP
  have hD : va_D A (cw_Plan cI cZ cO apl pl ++ cw_Board cI cZ cO abd apl (cr_fill bdq_14 5 9 (0 : Int32))) := hD
  have hR_16 : cr_RBoard (cr_fill bdq_14 5 9 (0 : Int32)) := ⟨cr_rg_fill hR_13.1 (fun e => absurd e (by decide)), cr_rg_fill hR_13.2 (fun _ => by omega)⟩
  obtain ⟨bdq_17, hbdq_17⟩ : ∃ z, (cr_fill bdq_14 5 9 (0 : Int32)) = z := ⟨_, rfl⟩
  rw [hbdq_17] at hP hD hR_16
  try rw [hbdq_17] at hM
  exact W.vret hx hb hr (fun t ht hW => ⟨⟨bdq_17, rfl, ⟨by rw [hT, ← hM], hR_16⟩, by rw [ht]; exact hP, va_K.moved hW.alike hK, hD⟩, hS.F ht⟩) hS.2.2 nd_Board_clear_45

theorem nd_Board_allSleepOn_0 : decode prog_2_method_3_code 0 = .ok (.iconst 1, 1) := by decide +kernel
theorem nd_Board_allSleepOn_1 : decode prog_2_method_3_code 1 = .ok (.istore_n 2, 1) := by decide +kernel
theorem nd_Board_allSleepOn_2 : decode prog_2_method_3_code 2 = .ok (.iload_n 2, 1) := by decide +kernel
theorem nd_Board_allSleepOn_3 : decode prog_2_method_3_code 3 = .ok (.aload_n 0, 1) := by decide +kernel
theorem nd_Board_allSleepOn_4 : decode prog_2_method_3_code 4 = .ok (.getfield 27, 3) := by decide +kernel
theorem nd_Board_allSleepOn_7 : decode prog_2_method_3_code 7 = .ok (.getfield 41, 3) := by decide +kernel
theorem nd_Board_allSleepOn_10 : decode prog_2_method_3_code 10 = .ok (.if_icmp .gt (33), 3) := by decide +kernel
theorem nd_Board_allSleepOn_13 : decode prog_2_method_3_code 13 = .ok (.aload_n 0, 1) := by decide +kernel
theorem nd_Board_allSleepOn_14 : decode prog_2_method_3_code 14 = .ok (.getfield 27, 3) := by decide +kernel
theorem nd_Board_allSleepOn_17 : decode prog_2_method_3_code 17 = .ok (.getfield 46, 3) := by decide +kernel
theorem nd_Board_allSleepOn_20 : decode prog_2_method_3_code 20 = .ok (.iload_n 2, 1) := by decide +kernel
theorem nd_Board_allSleepOn_21 : decode prog_2_method_3_code 21 = .ok (.iaload, 1) := by decide +kernel
theorem nd_Board_allSleepOn_22 : decode prog_2_method_3_code 22 = .ok (.iload_n 1, 1) := by decide +kernel
theorem nd_Board_allSleepOn_23 : decode prog_2_method_3_code 23 = .ok (.if_icmp .ne (14), 3) := by decide +kernel
theorem nd_Board_allSleepOn_26 : decode prog_2_method_3_code 26 = .ok (.aload_n 0, 1) := by decide +kernel
theorem nd_Board_allSleepOn_27 : decode prog_2_method_3_code 27 = .ok (.getfield 9, 3) := by decide +kernel
theorem nd_Board_allSleepOn_30 : decode prog_2_method_3_code 30 = .ok (.iload_n 2, 1) := by decide +kernel
theorem nd_Board_allSleepOn_31 : decode prog_2_method_3_code 31 = .ok (.iaload, 1) := by decide +kernel
theorem nd_Board_allSleepOn_32 : decode prog_2_method_3_code 32 = .ok (.ifCond .eq (5), 3) := by decide +kernel
theorem nd_Board_allSleepOn_35 : decode prog_2_method_3_code 35 = .ok (.iconst 0, 1) := by decide +kernel
theorem nd_Board_allSleepOn_36 : decode prog_2_method_3_code 36 = .ok (.ireturn, 1) := by decide +kernel
theorem nd_Board_allSleepOn_37 : decode prog_2_method_3_code 37 = .ok (.iinc 2 1, 3) := by decide +kernel
theorem nd_Board_allSleepOn_40 : decode prog_2_method_3_code 40 = .ok (.goto (-38), 3) := by decide +kernel
theorem nd_Board_allSleepOn_43 : decode prog_2_method_3_code 43 = .ok (.iconst 1, 1) := by decide +kernel
theorem nd_Board_allSleepOn_44 : decode prog_2_method_3_code 44 = .ok (.ireturn, 1) := by decide +kernel
abbrev pq_Board_allSleepOn (dC : Nat → ClassId) (dI : Nat → Nat → Nat) (cI cZ cO : ClassId) (apl abd : Nat → Nat) (pl : cr_S) (bd : cr_S) (x1 : Int32) (A : Nat → Prop) : Array Value → State → Outcome → State → Prop :=
  va_Qi (fun (r : Int32) (_ : Unit) => r = md_Board_allSleepOn pl bd x1) (fun (_ : Unit) t => va_P (dC, dI) vwCl (cw_Plan cI cZ cO apl pl ++ cw_Board cI cZ cO abd apl bd) t.heap ∧ va_K (dC, dI) vwCl [(cI, .int), (cZ, .boolean), (cO, .array .int)] t ∧ va_D A (cw_Plan cI cZ cO apl pl ++ cw_Board cI cZ cO abd apl bd)) A
set_option maxHeartbeats 4000000 in
set_option maxRecDepth 100000 in
theorem ct_Board_allSleepOn (l : Launch) (dC : Nat → ClassId) (dI : Nat → Nat → Nat) (cI cZ cO : ClassId) (apl abd : Nat → Nat) (sz : Nat) (pl : cr_S) (bd : cr_S) (x1 : Int32) (hR_bd : cr_RBoard bd) (hR_pl : cr_RPlan pl) : Met l ny_Board_allSleepOn nw_Board_allSleepOn ({ frames := 0, cells := 0, slots := 0, locals := 0 } : Room) (va_Pc [.ref (abd 0), .int x1] (fun U => U.heap.size = sz ∧ va_P (dC, dI) vwCl (cw_Plan cI cZ cO apl pl ++ cw_Board cI cZ cO abd apl bd) U.heap ∧ va_K (dC, dI) vwCl [(cI, .int), (cZ, .boolean), (cO, .array .int)] U ∧ va_D (fun _ => True) (cw_Plan cI cZ cO apl pl ++ cw_Board cI cZ cO abd apl bd))) (pq_Board_allSleepOn dC dI cI cZ cO apl abd pl bd x1 (va_A (cw_Plan cI cZ cO apl pl ++ cw_Board cI cZ cO abd apl bd) sz)) 0 0 (va_A (cw_Plan cI cZ cO apl pl ++ cw_Board cI cZ cO abd apl bd) sz) := by
  refine Met.ofW (cc := prog_2_method_3_code) (maxL := 3) (ret := (some .boolean)) (by decide) rfl ?_
  intro p e s m args below meth c s₁ B hml hv
  obtain ⟨rfl, hsz, hP, hK, hD0⟩ := hv
  have hx := B.exec
  have hb := B.bytes
  have hr := B.returns
  have hts0 := atoms_spec (ws := nw_Board_allSleepOn) B.pre
  have hts : ∀ w ∈ ng_tbl, w.before ([.ref (abd 0), .int x1] : List Value).toArray s = true := fun w h => hts0 w (List.mem_cons_of_mem _ h)
  have hown : s.vm.findClass "CeilingRows$Board" = some m.cls := findClass_of_methodNamed B.named
  have hlocks := B.notSynchronized
  subst hsz
  have hD := hD0.self (sz := s.heap.size)
  generalize hAe : va_A (cw_Plan cI cZ cO apl pl ++ cw_Board cI cZ cO abd apl bd) s.heap.size = A at hD ⊢
  have hA : ∀ q : Nat, s.heap.size ≤ q → A q := fun q h => by rw [← hAe]; exact Or.inr h
  have hS : va_S A s.heap s.heap [] := va_S.rf
  have hP : va_P (dC, dI) vwCl (cw_Plan cI cZ cO apl pl ++ cw_Board cI cZ cO abd apl bd) s.heap := hP
  have hl := lv_entry ([.ref (abd 0), .int x1]) (n := 3) (Nat.le_of_ble_eq_true rfl)
  rw [lg_entry_eq]
  generalize (lg_sl ([.ref (abd 0), .int x1]) ++ List.replicate (3 - (lg_sl ([.ref (abd 0), .int x1])).length) Slot.unset).toArray = ls at hl ⊢
  have hl : lv_has ls 3 [(0, .ref (abd 0)), (1, .int x1)] := hl
  have k_0 : (0 : Int32).toInt = 0 := by decide
  have k_1 : (1 : Int32).toInt = 1 := by decide
  obtain ⟨tgt, hT⟩ : ∃ z, md_Board_allSleepOn pl bd x1 = z := ⟨_, rfl⟩
  have hM := hT
  unfold md_Board_allSleepOn at hM
  refine lv_iconst (v := 1) hx hb nd_Board_allSleepOn_0 (by decide) ?_
  refine lv_istore_n (lv' := [(2, .int (1 : Int32)), (0, .ref (abd 0)), (1, .int x1)]) hx hb nd_Board_allSleepOn_1 rfl hl (by decide) rfl (fun ls hl => ?_)
  have hl := lv_sub hl [1, 2, 0] rfl
  have lp_2 : ∀ (n_2 : Nat) (v2_2 : Int32), (1 ≤ v2_2.toInt ∧ v2_2.toInt ≤ 11) → (11 < v2_2.toInt + (n_2 : Int)) → lo_Board_allSleepOn_2 pl bd x1 n_2 v2_2 = tgt → ∀ (H : Heap) (locs : List Loc), va_P (dC, dI) vwCl (cw_Plan cI cZ cO apl pl ++ cw_Board cI cZ cO abd apl bd) H → va_D A (cw_Plan cI cZ cO apl pl ++ cw_Board cI cZ cO abd apl bd) → va_S A s.heap H locs → ∀ ls : Array Slot, lv_has ls 3 [(0, .ref (abd 0)), (1, .int x1), (2, .int v2_2)] → W p l e (headSpec nw_Board_allSleepOn ({ frames := 0, cells := 0, slots := 0, locals := 0 } : Room)).room s m ([.ref (abd 0), .int x1] : List Value).toArray below meth c H locs 0 0 (MQ below (pq_Board_allSleepOn dC dI cI cZ cO apl abd pl bd x1 A) ([.ref (abd 0), .int x1] : List Value).toArray s 0 0 A) (F0 m 2 ls []) := by
    intro n_2
    induction n_2 with
    | zero =>
      intro v2_2 hv2_2 hn_2
      exfalso; omega
    | succ n_2 ih_2 =>
      intro v2_2 hv2_2 hn_2 hM H locs hP hD hS ls hl
      have hn_2 : 11 < v2_2.toInt + ((n_2 : Int) + 1) := by omega
      rw [lo_Board_allSleepOn_2] at hM
      refine lv_iload_n hx hb nd_Board_allSleepOn_2 rfl (lv_at hl 2 rfl) ?_
      refine lv_aload_n hx hb nd_Board_allSleepOn_3 rfl (lv_at hl 0 rfl) ?_
      refine va_get (D := (dC, dI)) (ci := 1) (v := .ref (apl 0)) (C := "CeilingRows$Board") (T := nf_Board) (N := 7) hx hb hts nin_Board hown hK hP 17 rfl rfl 0 (by decide) (hts _ tw_67) (fun _ h9 => h9) rfl nd_Board_allSleepOn_4 ?_
      refine va_get (D := (dC, dI)) (ci := 0) (v := .int (pl 0 0)) (C := "CeilingRows$Plan") (T := nf_Plan) (N := 7) hx hb hts nin_Plan hown hK hP 0 rfl rfl 0 (by decide) (hts _ tw_29) (fun _ h9 => h9) rfl nd_Board_allSleepOn_7 ?_
      have f_1 := cr_rfo hR_pl.1
      refine lv_icmp_gt (tgt := 43) hx hb nd_Board_allSleepOn_10 (by decide) (fun c_2 => ?_) (fun c_2 => ?_)
      · have c_2t := cr_lt c_2
        rw [if_pos c_2] at hM
        refine lv_iconst (v := 1) hx hb nd_Board_allSleepOn_43 (by decide) ?_
        exact W.zret (v := (1 : Int32)) (ty := .boolean) hx hb hr (by decide) (fun t ht hW => ⟨⟨(1 : Int32), (), rfl, by rw [hT, ← hM], by rw [ht]; exact hP, va_K.moved hW.alike hK, hD⟩, hS.F ht⟩) hS.2.2 nd_Board_allSleepOn_44
      · have c_2t := cr_nlt c_2
        rw [if_neg c_2] at hM
        refine lv_aload_n hx hb nd_Board_allSleepOn_13 rfl (lv_at hl 0 rfl) ?_
        refine va_get (D := (dC, dI)) (ci := 1) (v := .ref (apl 0)) (C := "CeilingRows$Board") (T := nf_Board) (N := 7) hx hb hts nin_Board hown hK hP 17 rfl rfl 0 (by decide) (hts _ tw_67) (fun _ h9 => h9) rfl nd_Board_allSleepOn_14 ?_
        refine va_get (D := (dC, dI)) (ci := 0) (v := .ref (apl 2)) (C := "CeilingRows$Plan") (T := nf_Plan) (N := 7) hx hb hts nin_Plan hown hK hP 0 rfl rfl 3 (by decide) (hts _ tw_37) (fun _ h9 => h9) rfl nd_Board_allSleepOn_17 ?_
        refine lv_iload_n hx hb nd_Board_allSleepOn_20 rfl (lv_at hl 2 rfl) ?_
        have b_3 : vp_in v2_2 11 := vp_in_iff.mpr (by omega)
        refine va_iald hx hb hK hP 2 0 rfl rfl b_3 nd_Board_allSleepOn_21 ?_
        have f_4 := cr_rgo hR_pl.2.2 (v2_2.toNatClampNeg)
        refine lv_iload_n hx hb nd_Board_allSleepOn_22 rfl (lv_at hl 1 rfl) ?_
        refine lv_icmp_ne (tgt := 37) hx hb nd_Board_allSleepOn_23 (by decide) (fun c_5 => ?_) (fun c_5 => ?_)
        · have c_5t := cr_ne c_5
          rw [if_neg c_5] at hM
          have e_6 : (v2_2 + (1 : Int32)).toInt = v2_2.toInt + (1 : Int32).toInt := cr_add (by omega)
          refine lv_iinc (v := (v2_2 + (1 : Int32))) (lv' := [(2, .int (v2_2 + (1 : Int32))), (0, .ref (abd 0)), (1, .int x1)]) hx hb nd_Board_allSleepOn_37 hl (k := 2) rfl (by rfl) (by decide) rfl (fun ls hl => ?_)
          refine lv_goto (tgt := 2) hx hb nd_Board_allSleepOn_40 (by decide) ?_
          exact ih_2 (v2_2 + (1 : Int32)) (by omega) (by omega) hM _ _ hP hD hS _ (lv_sub hl [1, 2, 0] rfl)
        · have c_5t := cr_eq c_5
          rw [if_pos c_5] at hM
          refine lv_aload_n hx hb nd_Board_allSleepOn_26 rfl (lv_at hl 0 rfl) ?_
          refine va_get (D := (dC, dI)) (ci := 1) (v := .ref (abd 1)) (C := "CeilingRows$Board") (T := nf_Board) (N := 7) hx hb hts nin_Board hown hK hP 17 rfl rfl 1 (by decide) (hts _ tw_68) (fun _ h9 => h9) rfl nd_Board_allSleepOn_27 ?_
          refine lv_iload_n hx hb nd_Board_allSleepOn_30 rfl (lv_at hl 2 rfl) ?_
          have b_7 : vp_in v2_2 11 := vp_in_iff.mpr (by omega)
          refine va_iald hx hb hK hP 18 0 rfl rfl b_7 nd_Board_allSleepOn_31 ?_
          refine lv_if_eq (tgt := 37) hx hb nd_Board_allSleepOn_32 (by decide) (fun c_8 => ?_) (fun c_8 => ?_)
          · have c_8t := cr_eq c_8
            rw [if_pos c_8] at hM
            have e_9 : (v2_2 + (1 : Int32)).toInt = v2_2.toInt + (1 : Int32).toInt := cr_add (by omega)
            refine lv_iinc (v := (v2_2 + (1 : Int32))) (lv' := [(2, .int (v2_2 + (1 : Int32))), (0, .ref (abd 0)), (1, .int x1)]) hx hb nd_Board_allSleepOn_37 hl (k := 2) rfl (by rfl) (by decide) rfl (fun ls hl => ?_)
            refine lv_goto (tgt := 2) hx hb nd_Board_allSleepOn_40 (by decide) ?_
            exact ih_2 (v2_2 + (1 : Int32)) (by omega) (by omega) hM _ _ hP hD hS _ (lv_sub hl [1, 2, 0] rfl)
          · have c_8t := cr_ne c_8
            rw [if_neg c_8] at hM
            refine lv_iconst (v := 0) hx hb nd_Board_allSleepOn_35 (by decide) ?_
            exact W.zret (v := (0 : Int32)) (ty := .boolean) hx hb hr (by decide) (fun t ht hW => ⟨⟨(0 : Int32), (), rfl, by rw [hT, ← hM], by rw [ht]; exact hP, va_K.moved hW.alike hK, hD⟩, hS.F ht⟩) hS.2.2 nd_Board_allSleepOn_36
  exact lp_2 11 (1 : Int32) (by omega) (by omega) hM _ _ hP hD hS _ hl

theorem nd_Board_makeReady_0 : decode prog_2_method_4_code 0 = .ok (.aload_n 0, 1) := by decide +kernel
theorem nd_Board_makeReady_1 : decode prog_2_method_4_code 1 = .ok (.getfield 9, 3) := by decide +kernel
theorem nd_Board_makeReady_4 : decode prog_2_method_4_code 4 = .ok (.iload_n 1, 1) := by decide +kernel
theorem nd_Board_makeReady_5 : decode prog_2_method_4_code 5 = .ok (.iconst 1, 1) := by decide +kernel
theorem nd_Board_makeReady_6 : decode prog_2_method_4_code 6 = .ok (.iastore, 1) := by decide +kernel
theorem nd_Board_makeReady_7 : decode prog_2_method_4_code 7 = .ok (.aload_n 0, 1) := by decide +kernel
theorem nd_Board_makeReady_8 : decode prog_2_method_4_code 8 = .ok (.dup, 1) := by decide +kernel
theorem nd_Board_makeReady_9 : decode prog_2_method_4_code 9 = .ok (.getfield 37, 3) := by decide +kernel
theorem nd_Board_makeReady_12 : decode prog_2_method_4_code 12 = .ok (.iconst 1, 1) := by decide +kernel
theorem nd_Board_makeReady_13 : decode prog_2_method_4_code 13 = .ok (.iadd, 1) := by decide +kernel
theorem nd_Board_makeReady_14 : decode prog_2_method_4_code 14 = .ok (.putfield 37, 3) := by decide +kernel
theorem nd_Board_makeReady_17 : decode prog_2_method_4_code 17 = .ok (.aload_n 0, 1) := by decide +kernel
theorem nd_Board_makeReady_18 : decode prog_2_method_4_code 18 = .ok (.getfield 15, 3) := by decide +kernel
theorem nd_Board_makeReady_21 : decode prog_2_method_4_code 21 = .ok (.iload_n 1, 1) := by decide +kernel
theorem nd_Board_makeReady_22 : decode prog_2_method_4_code 22 = .ok (.aload_n 0, 1) := by decide +kernel
theorem nd_Board_makeReady_23 : decode prog_2_method_4_code 23 = .ok (.getfield 37, 3) := by decide +kernel
theorem nd_Board_makeReady_26 : decode prog_2_method_4_code 26 = .ok (.iastore, 1) := by decide +kernel
theorem nd_Board_makeReady_27 : decode prog_2_method_4_code 27 = .ok (.return_, 1) := by decide +kernel
abbrev pq_Board_makeReady (dC : Nat → ClassId) (dI : Nat → Nat → Nat) (cI cZ cO : ClassId) (apl abd : Nat → Nat) (pl : cr_S) (bd : cr_S) (x1 : Int32) (A : Nat → Prop) : Array Value → State → Outcome → State → Prop :=
  va_Qv (fun (bd' : cr_S) => bd' = md_Board_makeReady pl bd x1 ∧ cr_RBoard bd') (fun (bd' : cr_S) t => va_P (dC, dI) vwCl (cw_Plan cI cZ cO apl pl ++ cw_Board cI cZ cO abd apl bd') t.heap ∧ va_K (dC, dI) vwCl [(cI, .int), (cZ, .boolean), (cO, .array .int)] t ∧ va_D A (cw_Plan cI cZ cO apl pl ++ cw_Board cI cZ cO abd apl bd')) A
set_option maxHeartbeats 4000000 in
set_option maxRecDepth 100000 in
theorem ct_Board_makeReady (l : Launch) (dC : Nat → ClassId) (dI : Nat → Nat → Nat) (cI cZ cO : ClassId) (apl abd : Nat → Nat) (sz : Nat) (pl : cr_S) (bd : cr_S) (x1 : Int32) (hR_bd : cr_RBoard bd) (hR_pl : cr_RPlan pl) (hx1 : 0 ≤ x1.toInt ∧ x1.toInt ≤ 10) : Met l ny_Board_makeReady nw_Board_makeReady ({ frames := 0, cells := 0, slots := 0, locals := 0 } : Room) (va_Pc [.ref (abd 0), .int x1] (fun U => U.heap.size = sz ∧ va_P (dC, dI) vwCl (cw_Plan cI cZ cO apl pl ++ cw_Board cI cZ cO abd apl bd) U.heap ∧ va_K (dC, dI) vwCl [(cI, .int), (cZ, .boolean), (cO, .array .int)] U ∧ va_D (fun _ => True) (cw_Plan cI cZ cO apl pl ++ cw_Board cI cZ cO abd apl bd))) (pq_Board_makeReady dC dI cI cZ cO apl abd pl bd x1 (va_A (cw_Plan cI cZ cO apl pl ++ cw_Board cI cZ cO abd apl bd) sz)) 0 0 (va_A (cw_Plan cI cZ cO apl pl ++ cw_Board cI cZ cO abd apl bd) sz) := by
  refine Met.ofW (cc := prog_2_method_4_code) (maxL := 2) (ret := none) (by decide) rfl ?_
  intro p e s m args below meth c s₁ B hml hv
  obtain ⟨rfl, hsz, hP, hK, hD0⟩ := hv
  have hx := B.exec
  have hb := B.bytes
  have hr := B.returns
  have hts0 := atoms_spec (ws := nw_Board_makeReady) B.pre
  have hts : ∀ w ∈ ng_tbl, w.before ([.ref (abd 0), .int x1] : List Value).toArray s = true := fun w h => hts0 w (List.mem_cons_of_mem _ h)
  have hown : s.vm.findClass "CeilingRows$Board" = some m.cls := findClass_of_methodNamed B.named
  have hlocks := B.notSynchronized
  subst hsz
  have hD := hD0.self (sz := s.heap.size)
  generalize hAe : va_A (cw_Plan cI cZ cO apl pl ++ cw_Board cI cZ cO abd apl bd) s.heap.size = A at hD ⊢
  have hA : ∀ q : Nat, s.heap.size ≤ q → A q := fun q h => by rw [← hAe]; exact Or.inr h
  have hS : va_S A s.heap s.heap [] := va_S.rf
  have hP : va_P (dC, dI) vwCl (cw_Plan cI cZ cO apl pl ++ cw_Board cI cZ cO abd apl bd) s.heap := hP
  have hl := lv_entry ([.ref (abd 0), .int x1]) (n := 2) (Nat.le_of_ble_eq_true rfl)
  rw [lg_entry_eq]
  generalize (lg_sl ([.ref (abd 0), .int x1]) ++ List.replicate (2 - (lg_sl ([.ref (abd 0), .int x1])).length) Slot.unset).toArray = ls at hl ⊢
  have hl : lv_has ls 2 [(0, .ref (abd 0)), (1, .int x1)] := hl
  have k_1 : (1 : Int32).toInt = 1 := by decide
  obtain ⟨tgt, hT⟩ : ∃ z, md_Board_makeReady pl bd x1 = z := ⟨_, rfl⟩
  have hM := hT
  unfold md_Board_makeReady at hM
  refine lv_aload_n hx hb nd_Board_makeReady_0 rfl (lv_at hl 0 rfl) ?_
  refine va_get (D := (dC, dI)) (ci := 1) (v := .ref (abd 1)) (C := "CeilingRows$Board") (T := nf_Board) (N := 7) hx hb hts nin_Board hown hK hP 17 rfl rfl 1 (by decide) (hts _ tw_68) (fun _ h9 => h9) rfl nd_Board_makeReady_1 ?_
  refine lv_iload_n hx hb nd_Board_makeReady_4 rfl (lv_at hl 1 rfl) ?_
  refine lv_iconst (v := 1) hx hb nd_Board_makeReady_5 (by decide) ?_
  have b_1 : vp_in x1 11 := vp_in_iff.mpr (by omega)
  refine va_iast hx hb hK hP hD hS 18 0 rfl rfl b_1 nd_Board_makeReady_6 (fun H locs hP hD hS => ?_)
  have hP : va_P (dC, dI) vwCl (cw_Plan cI cZ cO apl pl ++ cw_Board cI cZ cO abd apl (cr_up bd 1 x1.toNatClampNeg (1 : Int32))) H := hP
  have hD : va_D A (cw_Plan cI cZ cO apl pl ++ cw_Board cI cZ cO abd apl (cr_up bd 1 x1.toNatClampNeg (1 : Int32))) := hD
  have hR_2 : cr_RBoard (cr_up bd 1 x1.toNatClampNeg (1 : Int32)) := ⟨cr_rg_up hR_bd.1 (fun e => absurd e (by decide)), cr_rg_up hR_bd.2 (fun e => absurd e (by decide))⟩
  obtain ⟨bdq_3, hbdq_3⟩ : ∃ z, (cr_up bd 1 x1.toNatClampNeg (1 : Int32)) = z := ⟨_, rfl⟩
  rw [hbdq_3] at hP hD hR_2
  try rw [hbdq_3] at hM
  refine lv_aload_n hx hb nd_Board_makeReady_7 rfl (lv_at hl 0 rfl) ?_
  refine lv_dup hx hb nd_Board_makeReady_8 rfl ?_
  refine va_get (D := (dC, dI)) (ci := 1) (v := .int (bdq_3 0 0)) (C := "CeilingRows$Board") (T := nf_Board) (N := 7) hx hb hts nin_Board hown hK hP 17 rfl rfl 3 (by decide) (hts _ tw_72) (fun _ h9 => h9) rfl nd_Board_makeReady_9 ?_
  refine lv_iconst (v := 1) hx hb nd_Board_makeReady_12 (by decide) ?_
  refine lv_iadd hx hb nd_Board_makeReady_13 ?_
  refine va_put (D := (dC, dI)) (ci := 1) (v := .int ((bdq_3 0 0) + (1 : Int32))) (ty := .int) (C := "CeilingRows$Board") (T := nf_Board) (N := 7) hx hb hts nin_Board nt_Board nto_Board nno_Board hown hK hP hD hS 17 rfl rfl 3 (by decide) (hts _ tw_72) (fun _ h9 => h9) rfl (by decide +kernel) rfl rfl (Nat.le_of_ble_eq_true rfl) nd_Board_makeReady_14 (fun H locs hP hD hS => ?_)
  have hP : va_P (dC, dI) vwCl (cw_Plan cI cZ cO apl pl ++ cw_Board cI cZ cO abd apl (cr_up bdq_3 0 0 ((bdq_3 0 0) + (1 : Int32)))) H := hP
  have hD : va_D A (cw_Plan cI cZ cO apl pl ++ cw_Board cI cZ cO abd apl (cr_up bdq_3 0 0 ((bdq_3 0 0) + (1 : Int32)))) := hD
  have hR_4 : cr_RBoard (cr_up bdq_3 0 0 ((bdq_3 0 0) + (1 : Int32))) := ⟨cr_rg_up hR_2.1 (fun e => absurd e (by decide)), cr_rg_up hR_2.2 (fun e => absurd e (by decide))⟩
  obtain ⟨bdq_5, hbdq_5⟩ : ∃ z, (cr_up bdq_3 0 0 ((bdq_3 0 0) + (1 : Int32))) = z := ⟨_, rfl⟩
  rw [hbdq_5] at hP hD hR_4
  try rw [hbdq_5] at hM
  refine lv_aload_n hx hb nd_Board_makeReady_17 rfl (lv_at hl 0 rfl) ?_
  refine va_get (D := (dC, dI)) (ci := 1) (v := .ref (abd 2)) (C := "CeilingRows$Board") (T := nf_Board) (N := 7) hx hb hts nin_Board hown hK hP 17 rfl rfl 2 (by decide) (hts _ tw_71) (fun _ h9 => h9) rfl nd_Board_makeReady_18 ?_
  refine lv_iload_n hx hb nd_Board_makeReady_21 rfl (lv_at hl 1 rfl) ?_
  refine lv_aload_n hx hb nd_Board_makeReady_22 rfl (lv_at hl 0 rfl) ?_
  refine va_get (D := (dC, dI)) (ci := 1) (v := .int (bdq_5 0 0)) (C := "CeilingRows$Board") (T := nf_Board) (N := 7) hx hb hts nin_Board hown hK hP 17 rfl rfl 3 (by decide) (hts _ tw_72) (fun _ h9 => h9) rfl nd_Board_makeReady_23 ?_
  have b_6 : vp_in x1 11 := vp_in_iff.mpr (by omega)
  refine va_iast hx hb hK hP hD hS 19 0 rfl rfl b_6 nd_Board_makeReady_26 (fun H locs hP hD hS => ?_)
  have hP : va_P (dC, dI) vwCl (cw_Plan cI cZ cO apl pl ++ cw_Board cI cZ cO abd apl (cr_up bdq_5 2 x1.toNatClampNeg (bdq_5 0 0))) H := hP
  have hD : va_D A (cw_Plan cI cZ cO apl pl ++ cw_Board cI cZ cO abd apl (cr_up bdq_5 2 x1.toNatClampNeg (bdq_5 0 0))) := hD
  have hR_7 : cr_RBoard (cr_up bdq_5 2 x1.toNatClampNeg (bdq_5 0 0)) := ⟨cr_rg_up hR_4.1 (fun e => absurd e (by decide)), cr_rg_up hR_4.2 (fun e => absurd e (by decide))⟩
  obtain ⟨bdq_8, hbdq_8⟩ : ∃ z, (cr_up bdq_5 2 x1.toNatClampNeg (bdq_5 0 0)) = z := ⟨_, rfl⟩
  rw [hbdq_8] at hP hD hR_7
  try rw [hbdq_8] at hM
  exact W.vret hx hb hr (fun t ht hW => ⟨⟨bdq_8, rfl, ⟨by rw [hT, ← hM], hR_7⟩, by rw [ht]; exact hP, va_K.moved hW.alike hK, hD⟩, hS.F ht⟩) hS.2.2 nd_Board_makeReady_27

theorem nd_Board_holdsAny_0 : decode prog_2_method_5_code 0 = .ok (.aload_n 0, 1) := by decide +kernel
theorem nd_Board_holdsAny_1 : decode prog_2_method_5_code 1 = .ok (.getfield 18, 3) := by decide +kernel
theorem nd_Board_holdsAny_4 : decode prog_2_method_5_code 4 = .ok (.iload_n 1, 1) := by decide +kernel
theorem nd_Board_holdsAny_5 : decode prog_2_method_5_code 5 = .ok (.iaload, 1) := by decide +kernel
theorem nd_Board_holdsAny_6 : decode prog_2_method_5_code 6 = .ok (.ifCond .eq (7), 3) := by decide +kernel
theorem nd_Board_holdsAny_9 : decode prog_2_method_5_code 9 = .ok (.iconst 1, 1) := by decide +kernel
theorem nd_Board_holdsAny_10 : decode prog_2_method_5_code 10 = .ok (.goto (4), 3) := by decide +kernel
theorem nd_Board_holdsAny_13 : decode prog_2_method_5_code 13 = .ok (.iconst 0, 1) := by decide +kernel
theorem nd_Board_holdsAny_14 : decode prog_2_method_5_code 14 = .ok (.ireturn, 1) := by decide +kernel
abbrev pq_Board_holdsAny (dC : Nat → ClassId) (dI : Nat → Nat → Nat) (cI cZ cO : ClassId) (apl abd : Nat → Nat) (pl : cr_S) (bd : cr_S) (x1 : Int32) (A : Nat → Prop) : Array Value → State → Outcome → State → Prop :=
  va_Qi (fun (r : Int32) (_ : Unit) => r = md_Board_holdsAny pl bd x1) (fun (_ : Unit) t => va_P (dC, dI) vwCl (cw_Plan cI cZ cO apl pl ++ cw_Board cI cZ cO abd apl bd) t.heap ∧ va_K (dC, dI) vwCl [(cI, .int), (cZ, .boolean), (cO, .array .int)] t ∧ va_D A (cw_Plan cI cZ cO apl pl ++ cw_Board cI cZ cO abd apl bd)) A
set_option maxHeartbeats 4000000 in
set_option maxRecDepth 100000 in
theorem ct_Board_holdsAny (l : Launch) (dC : Nat → ClassId) (dI : Nat → Nat → Nat) (cI cZ cO : ClassId) (apl abd : Nat → Nat) (sz : Nat) (pl : cr_S) (bd : cr_S) (x1 : Int32) (hR_bd : cr_RBoard bd) (hR_pl : cr_RPlan pl) (hx1 : 0 ≤ x1.toInt ∧ x1.toInt ≤ 10) : Met l ny_Board_holdsAny nw_Board_holdsAny ({ frames := 0, cells := 0, slots := 0, locals := 0 } : Room) (va_Pc [.ref (abd 0), .int x1] (fun U => U.heap.size = sz ∧ va_P (dC, dI) vwCl (cw_Plan cI cZ cO apl pl ++ cw_Board cI cZ cO abd apl bd) U.heap ∧ va_K (dC, dI) vwCl [(cI, .int), (cZ, .boolean), (cO, .array .int)] U ∧ va_D (fun _ => True) (cw_Plan cI cZ cO apl pl ++ cw_Board cI cZ cO abd apl bd))) (pq_Board_holdsAny dC dI cI cZ cO apl abd pl bd x1 (va_A (cw_Plan cI cZ cO apl pl ++ cw_Board cI cZ cO abd apl bd) sz)) 0 0 (va_A (cw_Plan cI cZ cO apl pl ++ cw_Board cI cZ cO abd apl bd) sz) := by
  refine Met.ofW (cc := prog_2_method_5_code) (maxL := 2) (ret := (some .boolean)) (by decide) rfl ?_
  intro p e s m args below meth c s₁ B hml hv
  obtain ⟨rfl, hsz, hP, hK, hD0⟩ := hv
  have hx := B.exec
  have hb := B.bytes
  have hr := B.returns
  have hts0 := atoms_spec (ws := nw_Board_holdsAny) B.pre
  have hts : ∀ w ∈ ng_tbl, w.before ([.ref (abd 0), .int x1] : List Value).toArray s = true := fun w h => hts0 w (List.mem_cons_of_mem _ h)
  have hown : s.vm.findClass "CeilingRows$Board" = some m.cls := findClass_of_methodNamed B.named
  have hlocks := B.notSynchronized
  subst hsz
  have hD := hD0.self (sz := s.heap.size)
  generalize hAe : va_A (cw_Plan cI cZ cO apl pl ++ cw_Board cI cZ cO abd apl bd) s.heap.size = A at hD ⊢
  have hA : ∀ q : Nat, s.heap.size ≤ q → A q := fun q h => by rw [← hAe]; exact Or.inr h
  have hS : va_S A s.heap s.heap [] := va_S.rf
  have hP : va_P (dC, dI) vwCl (cw_Plan cI cZ cO apl pl ++ cw_Board cI cZ cO abd apl bd) s.heap := hP
  have hl := lv_entry ([.ref (abd 0), .int x1]) (n := 2) (Nat.le_of_ble_eq_true rfl)
  rw [lg_entry_eq]
  generalize (lg_sl ([.ref (abd 0), .int x1]) ++ List.replicate (2 - (lg_sl ([.ref (abd 0), .int x1])).length) Slot.unset).toArray = ls at hl ⊢
  have hl : lv_has ls 2 [(0, .ref (abd 0)), (1, .int x1)] := hl
  have k_0 : (0 : Int32).toInt = 0 := by decide
  have k_1 : (1 : Int32).toInt = 1 := by decide
  obtain ⟨tgt, hT⟩ : ∃ z, md_Board_holdsAny pl bd x1 = z := ⟨_, rfl⟩
  have hM := hT
  unfold md_Board_holdsAny at hM
  refine lv_aload_n hx hb nd_Board_holdsAny_0 rfl (lv_at hl 0 rfl) ?_
  refine va_get (D := (dC, dI)) (ci := 1) (v := .ref (abd 3)) (C := "CeilingRows$Board") (T := nf_Board) (N := 7) hx hb hts nin_Board hown hK hP 17 rfl rfl 4 (by decide) (hts _ tw_73) (fun _ h9 => h9) rfl nd_Board_holdsAny_1 ?_
  refine lv_iload_n hx hb nd_Board_holdsAny_4 rfl (lv_at hl 1 rfl) ?_
  have b_1 : vp_in x1 11 := vp_in_iff.mpr (by omega)
  refine va_iald hx hb hK hP 20 0 rfl rfl b_1 nd_Board_holdsAny_5 ?_
  have f_2 := cr_rgo hR_bd.1 (x1.toNatClampNeg)
  refine lv_if_eq (tgt := 13) hx hb nd_Board_holdsAny_6 (by decide) (fun c_3 => ?_) (fun c_3 => ?_)
  · have c_3t := cr_eq c_3
    rw [if_pos c_3] at hM
    refine lv_iconst (v := 0) hx hb nd_Board_holdsAny_13 (by decide) ?_
    exact W.zret (v := (0 : Int32)) (ty := .boolean) hx hb hr (by decide) (fun t ht hW => ⟨⟨(0 : Int32), (), rfl, by rw [hT, ← hM], by rw [ht]; exact hP, va_K.moved hW.alike hK, hD⟩, hS.F ht⟩) hS.2.2 nd_Board_holdsAny_14
  · have c_3t := cr_ne c_3
    rw [if_neg c_3] at hM
    refine lv_iconst (v := 1) hx hb nd_Board_holdsAny_9 (by decide) ?_
    refine lv_goto (tgt := 14) hx hb nd_Board_holdsAny_10 (by decide) ?_
    exact W.zret (v := (1 : Int32)) (ty := .boolean) hx hb hr (by decide) (fun t ht hW => ⟨⟨(1 : Int32), (), rfl, by rw [hT, ← hM], by rw [ht]; exact hP, va_K.moved hW.alike hK, hD⟩, hS.F ht⟩) hS.2.2 nd_Board_holdsAny_14

theorem nd_Board_rankNow_0 : decode prog_2_method_6_code 0 = .ok (.aload_n 0, 1) := by decide +kernel
theorem nd_Board_rankNow_1 : decode prog_2_method_6_code 1 = .ok (.getfield 27, 3) := by decide +kernel
theorem nd_Board_rankNow_4 : decode prog_2_method_6_code 4 = .ok (.getfield 49, 3) := by decide +kernel
theorem nd_Board_rankNow_7 : decode prog_2_method_6_code 7 = .ok (.iload_n 1, 1) := by decide +kernel
theorem nd_Board_rankNow_8 : decode prog_2_method_6_code 8 = .ok (.iaload, 1) := by decide +kernel
theorem nd_Board_rankNow_9 : decode prog_2_method_6_code 9 = .ok (.istore_n 2, 1) := by decide +kernel
theorem nd_Board_rankNow_10 : decode prog_2_method_6_code 10 = .ok (.iconst 1, 1) := by decide +kernel
theorem nd_Board_rankNow_11 : decode prog_2_method_6_code 11 = .ok (.istore_n 3, 1) := by decide +kernel
theorem nd_Board_rankNow_12 : decode prog_2_method_6_code 12 = .ok (.iload_n 3, 1) := by decide +kernel
theorem nd_Board_rankNow_13 : decode prog_2_method_6_code 13 = .ok (.aload_n 0, 1) := by decide +kernel
theorem nd_Board_rankNow_14 : decode prog_2_method_6_code 14 = .ok (.getfield 27, 3) := by decide +kernel
theorem nd_Board_rankNow_17 : decode prog_2_method_6_code 17 = .ok (.getfield 52, 3) := by decide +kernel
theorem nd_Board_rankNow_20 : decode prog_2_method_6_code 20 = .ok (.if_icmp .gt (33), 3) := by decide +kernel
theorem nd_Board_rankNow_23 : decode prog_2_method_6_code 23 = .ok (.aload_n 0, 1) := by decide +kernel
theorem nd_Board_rankNow_24 : decode prog_2_method_6_code 24 = .ok (.getfield 21, 3) := by decide +kernel
theorem nd_Board_rankNow_27 : decode prog_2_method_6_code 27 = .ok (.iload_n 3, 1) := by decide +kernel
theorem nd_Board_rankNow_28 : decode prog_2_method_6_code 28 = .ok (.iaload, 1) := by decide +kernel
theorem nd_Board_rankNow_29 : decode prog_2_method_6_code 29 = .ok (.iload_n 1, 1) := by decide +kernel
theorem nd_Board_rankNow_30 : decode prog_2_method_6_code 30 = .ok (.if_icmp .ne (17), 3) := by decide +kernel
theorem nd_Board_rankNow_33 : decode prog_2_method_6_code 33 = .ok (.iload_n 2, 1) := by decide +kernel
theorem nd_Board_rankNow_34 : decode prog_2_method_6_code 34 = .ok (.aload_n 0, 1) := by decide +kernel
theorem nd_Board_rankNow_35 : decode prog_2_method_6_code 35 = .ok (.getfield 27, 3) := by decide +kernel
theorem nd_Board_rankNow_38 : decode prog_2_method_6_code 38 = .ok (.getfield 55, 3) := by decide +kernel
theorem nd_Board_rankNow_41 : decode prog_2_method_6_code 41 = .ok (.iload_n 3, 1) := by decide +kernel
theorem nd_Board_rankNow_42 : decode prog_2_method_6_code 42 = .ok (.iaload, 1) := by decide +kernel
theorem nd_Board_rankNow_43 : decode prog_2_method_6_code 43 = .ok (.invokestatic 58, 3) := by decide +kernel
theorem nd_Board_rankNow_46 : decode prog_2_method_6_code 46 = .ok (.istore_n 2, 1) := by decide +kernel
theorem nd_Board_rankNow_47 : decode prog_2_method_6_code 47 = .ok (.iinc 3 1, 3) := by decide +kernel
theorem nd_Board_rankNow_50 : decode prog_2_method_6_code 50 = .ok (.goto (-38), 3) := by decide +kernel
theorem nd_Board_rankNow_53 : decode prog_2_method_6_code 53 = .ok (.iload_n 2, 1) := by decide +kernel
theorem nd_Board_rankNow_54 : decode prog_2_method_6_code 54 = .ok (.ireturn, 1) := by decide +kernel
abbrev pq_Board_rankNow (dC : Nat → ClassId) (dI : Nat → Nat → Nat) (cI cZ cO : ClassId) (apl abd : Nat → Nat) (pl : cr_S) (bd : cr_S) (x1 : Int32) (A : Nat → Prop) : Array Value → State → Outcome → State → Prop :=
  va_Qi (fun (r : Int32) (_ : Unit) => r = md_Board_rankNow pl bd x1) (fun (_ : Unit) t => va_P (dC, dI) vwCl (cw_Plan cI cZ cO apl pl ++ cw_Board cI cZ cO abd apl bd) t.heap ∧ va_K (dC, dI) vwCl [(cI, .int), (cZ, .boolean), (cO, .array .int)] t ∧ va_D A (cw_Plan cI cZ cO apl pl ++ cw_Board cI cZ cO abd apl bd)) A
set_option maxHeartbeats 4000000 in
set_option maxRecDepth 100000 in
theorem ct_Board_rankNow (l : Launch) (dC : Nat → ClassId) (dI : Nat → Nat → Nat) (cI cZ cO : ClassId) (apl abd : Nat → Nat) (sz : Nat) (pl : cr_S) (bd : cr_S) (x1 : Int32) (hR_bd : cr_RBoard bd) (hR_pl : cr_RPlan pl) (hx1 : 0 ≤ x1.toInt ∧ x1.toInt ≤ 10) : Met l ny_Board_rankNow nw_Board_rankNow ({ frames := 1, cells := 0, slots := 0, locals := 21 } : Room) (va_Pc [.ref (abd 0), .int x1] (fun U => U.heap.size = sz ∧ va_P (dC, dI) vwCl (cw_Plan cI cZ cO apl pl ++ cw_Board cI cZ cO abd apl bd) U.heap ∧ va_K (dC, dI) vwCl [(cI, .int), (cZ, .boolean), (cO, .array .int)] U ∧ va_D (fun _ => True) (cw_Plan cI cZ cO apl pl ++ cw_Board cI cZ cO abd apl bd))) (pq_Board_rankNow dC dI cI cZ cO apl abd pl bd x1 (va_A (cw_Plan cI cZ cO apl pl ++ cw_Board cI cZ cO abd apl bd) sz)) 0 0 (va_A (cw_Plan cI cZ cO apl pl ++ cw_Board cI cZ cO abd apl bd) sz) := by
  refine Met.ofW (cc := prog_2_method_6_code) (maxL := 4) (ret := (some .int)) (by decide) rfl ?_
  intro p e s m args below meth c s₁ B hml hv
  obtain ⟨rfl, hsz, hP, hK, hD0⟩ := hv
  have hx := B.exec
  have hb := B.bytes
  have hr := B.returns
  have hts0 := atoms_spec (ws := nw_Board_rankNow) B.pre
  have hts : ∀ w ∈ ng_tbl, w.before ([.ref (abd 0), .int x1] : List Value).toArray s = true := fun w h => hts0 w (List.mem_cons_of_mem _ h)
  have hown : s.vm.findClass "CeilingRows$Board" = some m.cls := findClass_of_methodNamed B.named
  have hlocks := B.notSynchronized
  subst hsz
  have hD := hD0.self (sz := s.heap.size)
  generalize hAe : va_A (cw_Plan cI cZ cO apl pl ++ cw_Board cI cZ cO abd apl bd) s.heap.size = A at hD ⊢
  have hA : ∀ q : Nat, s.heap.size ≤ q → A q := fun q h => by rw [← hAe]; exact Or.inr h
  have hS : va_S A s.heap s.heap [] := va_S.rf
  have hP : va_P (dC, dI) vwCl (cw_Plan cI cZ cO apl pl ++ cw_Board cI cZ cO abd apl bd) s.heap := hP
  have hl := lv_entry ([.ref (abd 0), .int x1]) (n := 4) (Nat.le_of_ble_eq_true rfl)
  rw [lg_entry_eq]
  generalize (lg_sl ([.ref (abd 0), .int x1]) ++ List.replicate (4 - (lg_sl ([.ref (abd 0), .int x1])).length) Slot.unset).toArray = ls at hl ⊢
  have hl : lv_has ls 4 [(0, .ref (abd 0)), (1, .int x1)] := hl
  have k_1 : (1 : Int32).toInt = 1 := by decide
  obtain ⟨tgt, hT⟩ : ∃ z, md_Board_rankNow pl bd x1 = z := ⟨_, rfl⟩
  have hM := hT
  unfold md_Board_rankNow at hM
  refine lv_aload_n hx hb nd_Board_rankNow_0 rfl (lv_at hl 0 rfl) ?_
  refine va_get (D := (dC, dI)) (ci := 1) (v := .ref (apl 0)) (C := "CeilingRows$Board") (T := nf_Board) (N := 7) hx hb hts nin_Board hown hK hP 17 rfl rfl 0 (by decide) (hts _ tw_67) (fun _ h9 => h9) rfl nd_Board_rankNow_1 ?_
  refine va_get (D := (dC, dI)) (ci := 0) (v := .ref (apl 1)) (C := "CeilingRows$Plan") (T := nf_Plan) (N := 7) hx hb hts nin_Plan hown hK hP 0 rfl rfl 2 (by decide) (hts _ tw_35) (fun _ h9 => h9) rfl nd_Board_rankNow_4 ?_
  refine lv_iload_n hx hb nd_Board_rankNow_7 rfl (lv_at hl 1 rfl) ?_
  have b_1 : vp_in x1 11 := vp_in_iff.mpr (by omega)
  refine va_iald hx hb hK hP 1 0 rfl rfl b_1 nd_Board_rankNow_8 ?_
  refine lv_istore_n (lv' := [(2, .int (pl 1 x1.toNatClampNeg)), (0, .ref (abd 0)), (1, .int x1)]) hx hb nd_Board_rankNow_9 rfl hl (by decide) rfl (fun ls hl => ?_)
  refine lv_iconst (v := 1) hx hb nd_Board_rankNow_10 (by decide) ?_
  refine lv_istore_n (lv' := [(3, .int (1 : Int32)), (2, .int (pl 1 x1.toNatClampNeg)), (0, .ref (abd 0)), (1, .int x1)]) hx hb nd_Board_rankNow_11 rfl hl (by decide) rfl (fun ls hl => ?_)
  have hl := lv_sub hl [2, 3, 1, 0] rfl
  have lp_12 : ∀ (n_12 : Nat) (v2_12 : Int32) (v3_12 : Int32), (1 ≤ v3_12.toInt ∧ v3_12.toInt ≤ 9) → (9 < v3_12.toInt + (n_12 : Int)) → lo_Board_rankNow_12 pl bd x1 n_12 v2_12 v3_12 = tgt → ∀ (H : Heap) (locs : List Loc), va_P (dC, dI) vwCl (cw_Plan cI cZ cO apl pl ++ cw_Board cI cZ cO abd apl bd) H → va_D A (cw_Plan cI cZ cO apl pl ++ cw_Board cI cZ cO abd apl bd) → va_S A s.heap H locs → ∀ ls : Array Slot, lv_has ls 4 [(0, .ref (abd 0)), (1, .int x1), (2, .int v2_12), (3, .int v3_12)] → W p l e (headSpec nw_Board_rankNow ({ frames := 1, cells := 0, slots := 0, locals := 21 } : Room)).room s m ([.ref (abd 0), .int x1] : List Value).toArray below meth c H locs 0 0 (MQ below (pq_Board_rankNow dC dI cI cZ cO apl abd pl bd x1 A) ([.ref (abd 0), .int x1] : List Value).toArray s 0 0 A) (F0 m 12 ls []) := by
    intro n_12
    induction n_12 with
    | zero =>
      intro v2_12 v3_12 hv3_12 hn_12
      exfalso; omega
    | succ n_12 ih_12 =>
      intro v2_12 v3_12 hv3_12 hn_12 hM H locs hP hD hS ls hl
      have hn_12 : 9 < v3_12.toInt + ((n_12 : Int) + 1) := by omega
      rw [lo_Board_rankNow_12] at hM
      refine lv_iload_n hx hb nd_Board_rankNow_12 rfl (lv_at hl 3 rfl) ?_
      refine lv_aload_n hx hb nd_Board_rankNow_13 rfl (lv_at hl 0 rfl) ?_
      refine va_get (D := (dC, dI)) (ci := 1) (v := .ref (apl 0)) (C := "CeilingRows$Board") (T := nf_Board) (N := 7) hx hb hts nin_Board hown hK hP 17 rfl rfl 0 (by decide) (hts _ tw_67) (fun _ h9 => h9) rfl nd_Board_rankNow_14 ?_
      refine va_get (D := (dC, dI)) (ci := 0) (v := .int (pl 0 1)) (C := "CeilingRows$Plan") (T := nf_Plan) (N := 7) hx hb hts nin_Plan hown hK hP 0 rfl rfl 1 (by decide) (hts _ tw_32) (fun _ h9 => h9) rfl nd_Board_rankNow_17 ?_
      have f_2 := cr_rfo hR_pl.2.1
      refine lv_icmp_gt (tgt := 53) hx hb nd_Board_rankNow_20 (by decide) (fun c_3 => ?_) (fun c_3 => ?_)
      · have c_3t := cr_lt c_3
        rw [if_pos c_3] at hM
        refine lv_iload_n hx hb nd_Board_rankNow_53 rfl (lv_at hl 2 rfl) ?_
        exact W.iret (v := v2_12) hx hb hr (fun t ht hW => ⟨⟨v2_12, (), rfl, by rw [hT, ← hM], by rw [ht]; exact hP, va_K.moved hW.alike hK, hD⟩, hS.F ht⟩) hS.2.2 nd_Board_rankNow_54
      · have c_3t := cr_nlt c_3
        rw [if_neg c_3] at hM
        refine lv_aload_n hx hb nd_Board_rankNow_23 rfl (lv_at hl 0 rfl) ?_
        refine va_get (D := (dC, dI)) (ci := 1) (v := .ref (abd 4)) (C := "CeilingRows$Board") (T := nf_Board) (N := 7) hx hb hts nin_Board hown hK hP 17 rfl rfl 5 (by decide) (hts _ tw_75) (fun _ h9 => h9) rfl nd_Board_rankNow_24 ?_
        refine lv_iload_n hx hb nd_Board_rankNow_27 rfl (lv_at hl 3 rfl) ?_
        have b_4 : vp_in v3_12 9 := vp_in_iff.mpr (by omega)
        refine va_iald hx hb hK hP 21 0 rfl rfl b_4 nd_Board_rankNow_28 ?_
        refine lv_iload_n hx hb nd_Board_rankNow_29 rfl (lv_at hl 1 rfl) ?_
        refine lv_icmp_ne (tgt := 47) hx hb nd_Board_rankNow_30 (by decide) (fun c_5 => ?_) (fun c_5 => ?_)
        · have c_5t := cr_ne c_5
          rw [if_neg c_5] at hM
          have e_6 : (v3_12 + (1 : Int32)).toInt = v3_12.toInt + (1 : Int32).toInt := cr_add (by omega)
          refine lv_iinc (v := (v3_12 + (1 : Int32))) (lv' := [(3, .int (v3_12 + (1 : Int32))), (0, .ref (abd 0)), (1, .int x1), (2, .int v2_12)]) hx hb nd_Board_rankNow_47 hl (k := 3) rfl (by rfl) (by decide) rfl (fun ls hl => ?_)
          refine lv_goto (tgt := 12) hx hb nd_Board_rankNow_50 (by decide) ?_
          exact ih_12 v2_12 (v3_12 + (1 : Int32)) (by omega) (by omega) hM _ _ hP hD hS _ (lv_sub hl [1, 2, 3, 0] rfl)
        · have c_5t := cr_eq c_5
          rw [if_pos c_5] at hM
          refine lv_iload_n hx hb nd_Board_rankNow_33 rfl (lv_at hl 2 rfl) ?_
          refine lv_aload_n hx hb nd_Board_rankNow_34 rfl (lv_at hl 0 rfl) ?_
          refine va_get (D := (dC, dI)) (ci := 1) (v := .ref (apl 0)) (C := "CeilingRows$Board") (T := nf_Board) (N := 7) hx hb hts nin_Board hown hK hP 17 rfl rfl 0 (by decide) (hts _ tw_67) (fun _ h9 => h9) rfl nd_Board_rankNow_35 ?_
          refine va_get (D := (dC, dI)) (ci := 0) (v := .ref (apl 3)) (C := "CeilingRows$Plan") (T := nf_Plan) (N := 7) hx hb hts nin_Plan hown hK hP 0 rfl rfl 4 (by decide) (hts _ tw_41) (fun _ h9 => h9) rfl nd_Board_rankNow_38 ?_
          refine lv_iload_n hx hb nd_Board_rankNow_41 rfl (lv_at hl 3 rfl) ?_
          have b_7 : vp_in v3_12 9 := vp_in_iff.mpr (by omega)
          refine va_iald hx hb hK hP 3 0 rfl rfl b_7 nd_Board_rankNow_42 ?_
          refine va_mmax hx hb (by rw [hml]; exact hl.1.symm) hown (hts _ tw_246) (hts _ tw_207) (hts _ tw_7) (hts _ tw_208) (Nat.le_of_ble_eq_true rfl) (Nat.le_of_ble_eq_true rfl) (Nat.zero_le _) (Nat.zero_le _) nd_Board_rankNow_43 ?_
          refine lv_istore_n (lv' := [(2, .int (cr_max v2_12 (pl 3 v3_12.toNatClampNeg))), (0, .ref (abd 0)), (1, .int x1), (3, .int v3_12)]) hx hb nd_Board_rankNow_46 rfl hl (by decide) rfl (fun ls hl => ?_)
          have e_8 : (v3_12 + (1 : Int32)).toInt = v3_12.toInt + (1 : Int32).toInt := cr_add (by omega)
          refine lv_iinc (v := (v3_12 + (1 : Int32))) (lv' := [(3, .int (v3_12 + (1 : Int32))), (2, .int (cr_max v2_12 (pl 3 v3_12.toNatClampNeg))), (0, .ref (abd 0)), (1, .int x1)]) hx hb nd_Board_rankNow_47 hl (k := 3) rfl (by rfl) (by decide) rfl (fun ls hl => ?_)
          refine lv_goto (tgt := 12) hx hb nd_Board_rankNow_50 (by decide) ?_
          exact ih_12 (cr_max v2_12 (pl 3 v3_12.toNatClampNeg)) (v3_12 + (1 : Int32)) (by omega) (by omega) hM _ _ hP hD hS _ (lv_sub hl [2, 3, 1, 0] rfl)
  exact lp_12 9 (pl 1 x1.toNatClampNeg) (1 : Int32) (by omega) (by omega) hM _ _ hP hD hS _ hl

theorem nd_Board_firstOn_0 : decode prog_2_method_7_code 0 = .ok (.iconst 0, 1) := by decide +kernel
theorem nd_Board_firstOn_1 : decode prog_2_method_7_code 1 = .ok (.istore_n 2, 1) := by decide +kernel
theorem nd_Board_firstOn_2 : decode prog_2_method_7_code 2 = .ok (.iconst 0, 1) := by decide +kernel
theorem nd_Board_firstOn_3 : decode prog_2_method_7_code 3 = .ok (.istore_n 3, 1) := by decide +kernel
theorem nd_Board_firstOn_4 : decode prog_2_method_7_code 4 = .ok (.iconst 1, 1) := by decide +kernel
theorem nd_Board_firstOn_5 : decode prog_2_method_7_code 5 = .ok (.istore 4, 2) := by decide +kernel
theorem nd_Board_firstOn_7 : decode prog_2_method_7_code 7 = .ok (.iload 4, 2) := by decide +kernel
theorem nd_Board_firstOn_9 : decode prog_2_method_7_code 9 = .ok (.aload_n 0, 1) := by decide +kernel
theorem nd_Board_firstOn_10 : decode prog_2_method_7_code 10 = .ok (.getfield 27, 3) := by decide +kernel
theorem nd_Board_firstOn_13 : decode prog_2_method_7_code 13 = .ok (.getfield 41, 3) := by decide +kernel
theorem nd_Board_firstOn_16 : decode prog_2_method_7_code 16 = .ok (.if_icmp .gt (91), 3) := by decide +kernel
theorem nd_Board_firstOn_19 : decode prog_2_method_7_code 19 = .ok (.aload_n 0, 1) := by decide +kernel
theorem nd_Board_firstOn_20 : decode prog_2_method_7_code 20 = .ok (.getfield 27, 3) := by decide +kernel
theorem nd_Board_firstOn_23 : decode prog_2_method_7_code 23 = .ok (.getfield 46, 3) := by decide +kernel
theorem nd_Board_firstOn_26 : decode prog_2_method_7_code 26 = .ok (.iload 4, 2) := by decide +kernel
theorem nd_Board_firstOn_28 : decode prog_2_method_7_code 28 = .ok (.iaload, 1) := by decide +kernel
theorem nd_Board_firstOn_29 : decode prog_2_method_7_code 29 = .ok (.iload_n 1, 1) := by decide +kernel
theorem nd_Board_firstOn_30 : decode prog_2_method_7_code 30 = .ok (.if_icmp .ne (71), 3) := by decide +kernel
theorem nd_Board_firstOn_33 : decode prog_2_method_7_code 33 = .ok (.aload_n 0, 1) := by decide +kernel
theorem nd_Board_firstOn_34 : decode prog_2_method_7_code 34 = .ok (.getfield 9, 3) := by decide +kernel
theorem nd_Board_firstOn_37 : decode prog_2_method_7_code 37 = .ok (.iload 4, 2) := by decide +kernel
theorem nd_Board_firstOn_39 : decode prog_2_method_7_code 39 = .ok (.iaload, 1) := by decide +kernel
theorem nd_Board_firstOn_40 : decode prog_2_method_7_code 40 = .ok (.iconst 1, 1) := by decide +kernel
theorem nd_Board_firstOn_41 : decode prog_2_method_7_code 41 = .ok (.if_icmp .eq (6), 3) := by decide +kernel
theorem nd_Board_firstOn_44 : decode prog_2_method_7_code 44 = .ok (.goto (57), 3) := by decide +kernel
theorem nd_Board_firstOn_47 : decode prog_2_method_7_code 47 = .ok (.aload_n 0, 1) := by decide +kernel
theorem nd_Board_firstOn_48 : decode prog_2_method_7_code 48 = .ok (.iload 4, 2) := by decide +kernel
theorem nd_Board_firstOn_50 : decode prog_2_method_7_code 50 = .ok (.invokevirtual 64, 3) := by decide +kernel
theorem nd_Board_firstOn_53 : decode prog_2_method_7_code 53 = .ok (.istore 5, 2) := by decide +kernel
theorem nd_Board_firstOn_55 : decode prog_2_method_7_code 55 = .ok (.aload_n 0, 1) := by decide +kernel
theorem nd_Board_firstOn_56 : decode prog_2_method_7_code 56 = .ok (.getfield 15, 3) := by decide +kernel
theorem nd_Board_firstOn_59 : decode prog_2_method_7_code 59 = .ok (.iload 4, 2) := by decide +kernel
theorem nd_Board_firstOn_61 : decode prog_2_method_7_code 61 = .ok (.iaload, 1) := by decide +kernel
theorem nd_Board_firstOn_62 : decode prog_2_method_7_code 62 = .ok (.aload_n 0, 1) := by decide +kernel
theorem nd_Board_firstOn_63 : decode prog_2_method_7_code 63 = .ok (.getfield 15, 3) := by decide +kernel
theorem nd_Board_firstOn_66 : decode prog_2_method_7_code 66 = .ok (.iload_n 2, 1) := by decide +kernel
theorem nd_Board_firstOn_67 : decode prog_2_method_7_code 67 = .ok (.iaload, 1) := by decide +kernel
theorem nd_Board_firstOn_68 : decode prog_2_method_7_code 68 = .ok (.if_icmp .ge (7), 3) := by decide +kernel
theorem nd_Board_firstOn_71 : decode prog_2_method_7_code 71 = .ok (.iconst 1, 1) := by decide +kernel
theorem nd_Board_firstOn_72 : decode prog_2_method_7_code 72 = .ok (.goto (4), 3) := by decide +kernel
theorem nd_Board_firstOn_75 : decode prog_2_method_7_code 75 = .ok (.iconst 0, 1) := by decide +kernel
theorem nd_Board_firstOn_76 : decode prog_2_method_7_code 76 = .ok (.istore 6, 2) := by decide +kernel
theorem nd_Board_firstOn_78 : decode prog_2_method_7_code 78 = .ok (.iload 5, 2) := by decide +kernel
theorem nd_Board_firstOn_80 : decode prog_2_method_7_code 80 = .ok (.iload_n 3, 1) := by decide +kernel
theorem nd_Board_firstOn_81 : decode prog_2_method_7_code 81 = .ok (.if_icmp .gt (14), 3) := by decide +kernel
theorem nd_Board_firstOn_84 : decode prog_2_method_7_code 84 = .ok (.iload 5, 2) := by decide +kernel
theorem nd_Board_firstOn_86 : decode prog_2_method_7_code 86 = .ok (.iload_n 3, 1) := by decide +kernel
theorem nd_Board_firstOn_87 : decode prog_2_method_7_code 87 = .ok (.if_icmp .ne (14), 3) := by decide +kernel
theorem nd_Board_firstOn_90 : decode prog_2_method_7_code 90 = .ok (.iload 6, 2) := by decide +kernel
theorem nd_Board_firstOn_92 : decode prog_2_method_7_code 92 = .ok (.ifCond .eq (9), 3) := by decide +kernel
theorem nd_Board_firstOn_95 : decode prog_2_method_7_code 95 = .ok (.iload 4, 2) := by decide +kernel
theorem nd_Board_firstOn_97 : decode prog_2_method_7_code 97 = .ok (.istore_n 2, 1) := by decide +kernel
theorem nd_Board_firstOn_98 : decode prog_2_method_7_code 98 = .ok (.iload 5, 2) := by decide +kernel
theorem nd_Board_firstOn_100 : decode prog_2_method_7_code 100 = .ok (.istore_n 3, 1) := by decide +kernel
theorem nd_Board_firstOn_101 : decode prog_2_method_7_code 101 = .ok (.iinc 4 1, 3) := by decide +kernel
theorem nd_Board_firstOn_104 : decode prog_2_method_7_code 104 = .ok (.goto (-97), 3) := by decide +kernel
theorem nd_Board_firstOn_107 : decode prog_2_method_7_code 107 = .ok (.iload_n 2, 1) := by decide +kernel
theorem nd_Board_firstOn_108 : decode prog_2_method_7_code 108 = .ok (.ireturn, 1) := by decide +kernel
abbrev pq_Board_firstOn (dC : Nat → ClassId) (dI : Nat → Nat → Nat) (cI cZ cO : ClassId) (apl abd : Nat → Nat) (pl : cr_S) (bd : cr_S) (x1 : Int32) (A : Nat → Prop) : Array Value → State → Outcome → State → Prop :=
  va_Qi (fun (r : Int32) (_ : Unit) => r = md_Board_firstOn pl bd x1 ∧ (0 ≤ r.toInt ∧ r.toInt ≤ 10)) (fun (_ : Unit) t => va_P (dC, dI) vwCl (cw_Plan cI cZ cO apl pl ++ cw_Board cI cZ cO abd apl bd) t.heap ∧ va_K (dC, dI) vwCl [(cI, .int), (cZ, .boolean), (cO, .array .int)] t ∧ va_D A (cw_Plan cI cZ cO apl pl ++ cw_Board cI cZ cO abd apl bd)) A
set_option maxHeartbeats 4000000 in
set_option maxRecDepth 100000 in
theorem ct_Board_firstOn (l : Launch) (dC : Nat → ClassId) (dI : Nat → Nat → Nat) (cI cZ cO : ClassId) (apl abd : Nat → Nat) (sz : Nat) (pl : cr_S) (bd : cr_S) (x1 : Int32) (hR_bd : cr_RBoard bd) (hR_pl : cr_RPlan pl) : Met l ny_Board_firstOn nw_Board_firstOn ({ frames := 2, cells := 0, slots := 0, locals := 44 } : Room) (va_Pc [.ref (abd 0), .int x1] (fun U => U.heap.size = sz ∧ va_P (dC, dI) vwCl (cw_Plan cI cZ cO apl pl ++ cw_Board cI cZ cO abd apl bd) U.heap ∧ va_K (dC, dI) vwCl [(cI, .int), (cZ, .boolean), (cO, .array .int)] U ∧ va_D (fun _ => True) (cw_Plan cI cZ cO apl pl ++ cw_Board cI cZ cO abd apl bd))) (pq_Board_firstOn dC dI cI cZ cO apl abd pl bd x1 (va_A (cw_Plan cI cZ cO apl pl ++ cw_Board cI cZ cO abd apl bd) sz)) 0 0 (va_A (cw_Plan cI cZ cO apl pl ++ cw_Board cI cZ cO abd apl bd) sz) := by
  refine Met.ofW (cc := prog_2_method_7_code) (maxL := 7) (ret := (some .int)) (by decide) rfl ?_
  intro p e s m args below meth c s₁ B hml hv
  obtain ⟨rfl, hsz, hP, hK, hD0⟩ := hv
  have hx := B.exec
  have hb := B.bytes
  have hr := B.returns
  have hts0 := atoms_spec (ws := nw_Board_firstOn) B.pre
  have hts : ∀ w ∈ ng_tbl, w.before ([.ref (abd 0), .int x1] : List Value).toArray s = true := fun w h => hts0 w (List.mem_cons_of_mem _ h)
  have hown : s.vm.findClass "CeilingRows$Board" = some m.cls := findClass_of_methodNamed B.named
  have hlocks := B.notSynchronized
  subst hsz
  have hD := hD0.self (sz := s.heap.size)
  generalize hAe : va_A (cw_Plan cI cZ cO apl pl ++ cw_Board cI cZ cO abd apl bd) s.heap.size = A at hD ⊢
  have hA : ∀ q : Nat, s.heap.size ≤ q → A q := fun q h => by rw [← hAe]; exact Or.inr h
  have hS : va_S A s.heap s.heap [] := va_S.rf
  have hP : va_P (dC, dI) vwCl (cw_Plan cI cZ cO apl pl ++ cw_Board cI cZ cO abd apl bd) s.heap := hP
  have hl := lv_entry ([.ref (abd 0), .int x1]) (n := 7) (Nat.le_of_ble_eq_true rfl)
  rw [lg_entry_eq]
  generalize (lg_sl ([.ref (abd 0), .int x1]) ++ List.replicate (7 - (lg_sl ([.ref (abd 0), .int x1])).length) Slot.unset).toArray = ls at hl ⊢
  have hl : lv_has ls 7 [(0, .ref (abd 0)), (1, .int x1)] := hl
  have k_0 : (0 : Int32).toInt = 0 := by decide
  have k_1 : (1 : Int32).toInt = 1 := by decide
  obtain ⟨tgt, hT⟩ : ∃ z, md_Board_firstOn pl bd x1 = z := ⟨_, rfl⟩
  have hM := hT
  unfold md_Board_firstOn at hM
  refine lv_iconst (v := 0) hx hb nd_Board_firstOn_0 (by decide) ?_
  refine lv_istore_n (lv' := [(2, .int (0 : Int32)), (0, .ref (abd 0)), (1, .int x1)]) hx hb nd_Board_firstOn_1 rfl hl (by decide) rfl (fun ls hl => ?_)
  refine lv_iconst (v := 0) hx hb nd_Board_firstOn_2 (by decide) ?_
  refine lv_istore_n (lv' := [(3, .int (0 : Int32)), (2, .int (0 : Int32)), (0, .ref (abd 0)), (1, .int x1)]) hx hb nd_Board_firstOn_3 rfl hl (by decide) rfl (fun ls hl => ?_)
  refine lv_iconst (v := 1) hx hb nd_Board_firstOn_4 (by decide) ?_
  refine lv_istore (lv' := [(4, .int (1 : Int32)), (3, .int (0 : Int32)), (2, .int (0 : Int32)), (0, .ref (abd 0)), (1, .int x1)]) hx hb nd_Board_firstOn_5 hl (by decide) rfl (fun ls hl => ?_)
  have hl := lv_sub hl [3, 4, 2, 1, 0] rfl
  have lp_7 : ∀ (n_7 : Nat) (v2_7 : Int32) (v3_7 : Int32) (v4_7 : Int32), (1 ≤ v4_7.toInt ∧ v4_7.toInt ≤ 11) → (0 ≤ v2_7.toInt ∧ v2_7.toInt ≤ 10) → (11 < v4_7.toInt + (n_7 : Int)) → lo_Board_firstOn_7 pl bd x1 n_7 v2_7 v3_7 v4_7 = tgt → ∀ (H : Heap) (locs : List Loc), va_P (dC, dI) vwCl (cw_Plan cI cZ cO apl pl ++ cw_Board cI cZ cO abd apl bd) H → va_D A (cw_Plan cI cZ cO apl pl ++ cw_Board cI cZ cO abd apl bd) → va_S A s.heap H locs → ∀ ls : Array Slot, lv_has ls 7 [(0, .ref (abd 0)), (1, .int x1), (2, .int v2_7), (3, .int v3_7), (4, .int v4_7)] → W p l e (headSpec nw_Board_firstOn ({ frames := 2, cells := 0, slots := 0, locals := 44 } : Room)).room s m ([.ref (abd 0), .int x1] : List Value).toArray below meth c H locs 0 0 (MQ below (pq_Board_firstOn dC dI cI cZ cO apl abd pl bd x1 A) ([.ref (abd 0), .int x1] : List Value).toArray s 0 0 A) (F0 m 7 ls []) := by
    intro n_7
    induction n_7 with
    | zero =>
      intro v2_7 v3_7 v4_7 hv4_7 hv2_7 hn_7
      exfalso; omega
    | succ n_7 ih_7 =>
      intro v2_7 v3_7 v4_7 hv4_7 hv2_7 hn_7 hM H locs hP hD hS ls hl
      have hn_7 : 11 < v4_7.toInt + ((n_7 : Int) + 1) := by omega
      rw [lo_Board_firstOn_7] at hM
      refine lv_iload hx hb nd_Board_firstOn_7 (lv_at hl 4 rfl) ?_
      refine lv_aload_n hx hb nd_Board_firstOn_9 rfl (lv_at hl 0 rfl) ?_
      refine va_get (D := (dC, dI)) (ci := 1) (v := .ref (apl 0)) (C := "CeilingRows$Board") (T := nf_Board) (N := 7) hx hb hts nin_Board hown hK hP 17 rfl rfl 0 (by decide) (hts _ tw_67) (fun _ h9 => h9) rfl nd_Board_firstOn_10 ?_
      refine va_get (D := (dC, dI)) (ci := 0) (v := .int (pl 0 0)) (C := "CeilingRows$Plan") (T := nf_Plan) (N := 7) hx hb hts nin_Plan hown hK hP 0 rfl rfl 0 (by decide) (hts _ tw_29) (fun _ h9 => h9) rfl nd_Board_firstOn_13 ?_
      have f_1 := cr_rfo hR_pl.1
      refine lv_icmp_gt (tgt := 107) hx hb nd_Board_firstOn_16 (by decide) (fun c_2 => ?_) (fun c_2 => ?_)
      · have c_2t := cr_lt c_2
        rw [if_pos c_2] at hM
        refine lv_iload_n hx hb nd_Board_firstOn_107 rfl (lv_at hl 2 rfl) ?_
        exact W.iret (v := v2_7) hx hb hr (fun t ht hW => ⟨⟨v2_7, (), rfl, ⟨by rw [hT, ← hM], by omega⟩, by rw [ht]; exact hP, va_K.moved hW.alike hK, hD⟩, hS.F ht⟩) hS.2.2 nd_Board_firstOn_108
      · have c_2t := cr_nlt c_2
        rw [if_neg c_2] at hM
        refine lv_aload_n hx hb nd_Board_firstOn_19 rfl (lv_at hl 0 rfl) ?_
        refine va_get (D := (dC, dI)) (ci := 1) (v := .ref (apl 0)) (C := "CeilingRows$Board") (T := nf_Board) (N := 7) hx hb hts nin_Board hown hK hP 17 rfl rfl 0 (by decide) (hts _ tw_67) (fun _ h9 => h9) rfl nd_Board_firstOn_20 ?_
        refine va_get (D := (dC, dI)) (ci := 0) (v := .ref (apl 2)) (C := "CeilingRows$Plan") (T := nf_Plan) (N := 7) hx hb hts nin_Plan hown hK hP 0 rfl rfl 3 (by decide) (hts _ tw_37) (fun _ h9 => h9) rfl nd_Board_firstOn_23 ?_
        refine lv_iload hx hb nd_Board_firstOn_26 (lv_at hl 4 rfl) ?_
        have b_3 : vp_in v4_7 11 := vp_in_iff.mpr (by omega)
        refine va_iald hx hb hK hP 2 0 rfl rfl b_3 nd_Board_firstOn_28 ?_
        have f_4 := cr_rgo hR_pl.2.2 (v4_7.toNatClampNeg)
        refine lv_iload_n hx hb nd_Board_firstOn_29 rfl (lv_at hl 1 rfl) ?_
        refine lv_icmp_ne (tgt := 101) hx hb nd_Board_firstOn_30 (by decide) (fun c_5 => ?_) (fun c_5 => ?_)
        · have c_5t := cr_ne c_5
          rw [if_neg c_5] at hM
          have e_6 : (v4_7 + (1 : Int32)).toInt = v4_7.toInt + (1 : Int32).toInt := cr_add (by omega)
          refine lv_iinc (v := (v4_7 + (1 : Int32))) (lv' := [(4, .int (v4_7 + (1 : Int32))), (0, .ref (abd 0)), (1, .int x1), (2, .int v2_7), (3, .int v3_7)]) hx hb nd_Board_firstOn_101 hl (k := 4) rfl (by rfl) (by decide) rfl (fun ls hl => ?_)
          refine lv_goto (tgt := 7) hx hb nd_Board_firstOn_104 (by decide) ?_
          exact ih_7 v2_7 v3_7 (v4_7 + (1 : Int32)) (by omega) (by omega) (by omega) hM _ _ hP hD hS _ (lv_sub hl [1, 2, 3, 4, 0] rfl)
        · have c_5t := cr_eq c_5
          rw [if_pos c_5] at hM
          refine lv_aload_n hx hb nd_Board_firstOn_33 rfl (lv_at hl 0 rfl) ?_
          refine va_get (D := (dC, dI)) (ci := 1) (v := .ref (abd 1)) (C := "CeilingRows$Board") (T := nf_Board) (N := 7) hx hb hts nin_Board hown hK hP 17 rfl rfl 1 (by decide) (hts _ tw_68) (fun _ h9 => h9) rfl nd_Board_firstOn_34 ?_
          refine lv_iload hx hb nd_Board_firstOn_37 (lv_at hl 4 rfl) ?_
          have b_7 : vp_in v4_7 11 := vp_in_iff.mpr (by omega)
          refine va_iald hx hb hK hP 18 0 rfl rfl b_7 nd_Board_firstOn_39 ?_
          refine lv_iconst (v := 1) hx hb nd_Board_firstOn_40 (by decide) ?_
          refine lv_icmp_eq (tgt := 47) hx hb nd_Board_firstOn_41 (by decide) (fun c_8 => ?_) (fun c_8 => ?_)
          · have c_8t := cr_eq c_8
            rw [if_pos c_8] at hM
            refine lv_aload_n hx hb nd_Board_firstOn_47 rfl (lv_at hl 0 rfl) ?_
            refine lv_iload hx hb nd_Board_firstOn_48 (lv_at hl 4 rfl) ?_
            have hPc := hP
            have hDc := hD
            have hFc := va_free (wc := cw_Plan cI cZ cO apl pl ++ cw_Board cI cZ cO abd apl bd) hD hS hA [0, 1, 2, 3, 4, 5, 6, 7, 8, 9, 10, 11, 12, 13, 14, 15, 16, 17, 18, 19, 20, 21, 22] rfl
            refine va_calli (va_runV (As := [.int v4_7]) (rest := []) ⟨hx, hb, hml, hown, hts⟩ (ct_Board_rankNow l dC dI cI cZ cO apl abd H.size pl bd v4_7 hR_bd hR_pl (by omega)) (cwV 1 hts (ng_V tw_242 tw_243 tw_244 tw_3 tw_245) rfl rfl rfl (by decide +kernel) ⟨Nat.le_of_ble_eq_true rfl, Nat.le_of_ble_eq_true rfl⟩) ⟨fun a U g mk q => by obtain ⟨q0, q1, qP, qK, qD⟩ := q; exact ⟨q0, q1, qP, va_K.moved (u := U) (U := U.calling g mk a) (Vm.Alike.refl U.vm) qK, qD⟩, va_recv hK hPc (ci := 1) (q0 := 17) rfl rfl, fun U hU hW => ⟨rfl, by rw [hU], by rw [hU]; exact hPc, va_K.moved hW.alike hK, hDc.weaken (fun _ _ _ _ => trivial)⟩⟩ rfl rfl hl.1 rfl (lv_room (Nat.le_of_ble_eq_true rfl)) nd_Board_firstOn_50 ⟨Nat.zero_le _, Nat.zero_le _⟩) hS (fun q _ h => hFc q h) hFc (fun r_9 u t H1 locs ht hvm hw hB hz1 hk1 hS => ?_)
            obtain ⟨hP1, hK1, hD1⟩ := hB
            rw [ht] at hP1
            have w_10 := hw
            try rw [← w_10] at hM
            have hP := hP1
            have hD := cr_Dw hD1 hFc
            generalize H1 = H at hP hS ⊢
            refine lv_istore (lv' := [(5, .int r_9), (0, .ref (abd 0)), (1, .int x1), (2, .int v2_7), (3, .int v3_7), (4, .int v4_7)]) hx hb nd_Board_firstOn_53 hl (by decide) rfl (fun ls hl => ?_)
            refine lv_aload_n hx hb nd_Board_firstOn_55 rfl (lv_at hl 1 rfl) ?_
            refine va_get (D := (dC, dI)) (ci := 1) (v := .ref (abd 2)) (C := "CeilingRows$Board") (T := nf_Board) (N := 7) hx hb hts nin_Board hown hK hP 17 rfl rfl 2 (by decide) (hts _ tw_71) (fun _ h9 => h9) rfl nd_Board_firstOn_56 ?_
            refine lv_iload hx hb nd_Board_firstOn_59 (lv_at hl 5 rfl) ?_
            have b_11 : vp_in v4_7 11 := vp_in_iff.mpr (by omega)
            refine va_iald hx hb hK hP 19 0 rfl rfl b_11 nd_Board_firstOn_61 ?_
            refine lv_aload_n hx hb nd_Board_firstOn_62 rfl (lv_at hl 1 rfl) ?_
            refine va_get (D := (dC, dI)) (ci := 1) (v := .ref (abd 2)) (C := "CeilingRows$Board") (T := nf_Board) (N := 7) hx hb hts nin_Board hown hK hP 17 rfl rfl 2 (by decide) (hts _ tw_71) (fun _ h9 => h9) rfl nd_Board_firstOn_63 ?_
            refine lv_iload_n hx hb nd_Board_firstOn_66 rfl (lv_at hl 3 rfl) ?_
            have b_12 : vp_in v2_7 11 := vp_in_iff.mpr (by omega)
            refine va_iald hx hb hK hP 19 0 rfl rfl b_12 nd_Board_firstOn_67 ?_
            refine lv_icmp_ge (tgt := 75) hx hb nd_Board_firstOn_68 (by decide) (fun c_13 => ?_) (fun c_13 => ?_)
            · have c_13t := cr_le c_13
              rw [if_pos c_13] at hM
              refine lv_iconst (v := 0) hx hb nd_Board_firstOn_75 (by decide) ?_
              refine lv_istore (lv' := [(6, .int (0 : Int32)), (5, .int r_9), (0, .ref (abd 0)), (1, .int x1), (2, .int v2_7), (3, .int v3_7), (4, .int v4_7)]) hx hb nd_Board_firstOn_76 hl (by decide) rfl (fun ls hl => ?_)
              refine lv_iload hx hb nd_Board_firstOn_78 (lv_at hl 1 rfl) ?_
              refine lv_iload_n hx hb nd_Board_firstOn_80 rfl (lv_at hl 5 rfl) ?_
              refine lv_icmp_gt (tgt := 95) hx hb nd_Board_firstOn_81 (by decide) (fun c_14 => ?_) (fun c_14 => ?_)
              · have c_14t := cr_lt c_14
                rw [if_pos c_14] at hM
                refine lv_iload hx hb nd_Board_firstOn_95 (lv_at hl 6 rfl) ?_
                refine lv_istore_n (lv' := [(2, .int v4_7), (6, .int (0 : Int32)), (5, .int r_9), (0, .ref (abd 0)), (1, .int x1), (3, .int v3_7), (4, .int v4_7)]) hx hb nd_Board_firstOn_97 rfl hl (by decide) rfl (fun ls hl => ?_)
                refine lv_iload hx hb nd_Board_firstOn_98 (lv_at hl 2 rfl) ?_
                refine lv_istore_n (lv' := [(3, .int r_9), (2, .int v4_7), (6, .int (0 : Int32)), (5, .int r_9), (0, .ref (abd 0)), (1, .int x1), (4, .int v4_7)]) hx hb nd_Board_firstOn_100 rfl hl (by decide) rfl (fun ls hl => ?_)
                have e_15 : (v4_7 + (1 : Int32)).toInt = v4_7.toInt + (1 : Int32).toInt := cr_add (by omega)
                refine lv_iinc (v := (v4_7 + (1 : Int32))) (lv' := [(4, .int (v4_7 + (1 : Int32))), (3, .int r_9), (2, .int v4_7), (6, .int (0 : Int32)), (5, .int r_9), (0, .ref (abd 0)), (1, .int x1)]) hx hb nd_Board_firstOn_101 hl (k := 6) rfl (by rfl) (by decide) rfl (fun ls hl => ?_)
                refine lv_goto (tgt := 7) hx hb nd_Board_firstOn_104 (by decide) ?_
                exact ih_7 v4_7 r_9 (v4_7 + (1 : Int32)) (by omega) (by omega) (by omega) hM _ _ hP hD hS _ (lv_sub hl [5, 6, 2, 1, 0] rfl)
              · have c_14t := cr_nlt c_14
                rw [if_neg c_14] at hM
                refine lv_iload hx hb nd_Board_firstOn_84 (lv_at hl 1 rfl) ?_
                refine lv_iload_n hx hb nd_Board_firstOn_86 rfl (lv_at hl 5 rfl) ?_
                refine lv_icmp_ne (tgt := 101) hx hb nd_Board_firstOn_87 (by decide) (fun c_16 => ?_) (fun c_16 => ?_)
                · have c_16t := cr_ne c_16
                  rw [if_neg c_16] at hM
                  have e_17 : (v4_7 + (1 : Int32)).toInt = v4_7.toInt + (1 : Int32).toInt := cr_add (by omega)
                  refine lv_iinc (v := (v4_7 + (1 : Int32))) (lv' := [(4, .int (v4_7 + (1 : Int32))), (6, .int (0 : Int32)), (5, .int r_9), (0, .ref (abd 0)), (1, .int x1), (2, .int v2_7), (3, .int v3_7)]) hx hb nd_Board_firstOn_101 hl (k := 6) rfl (by rfl) (by decide) rfl (fun ls hl => ?_)
                  refine lv_goto (tgt := 7) hx hb nd_Board_firstOn_104 (by decide) ?_
                  exact ih_7 v2_7 v3_7 (v4_7 + (1 : Int32)) (by omega) (by omega) (by omega) hM _ _ hP hD hS _ (lv_sub hl [3, 4, 5, 6, 0] rfl)
                · have c_16t := cr_eq c_16
                  rw [if_pos c_16] at hM
                  refine lv_iload hx hb nd_Board_firstOn_90 (lv_at hl 0 rfl) ?_
                  refine lv_if_eq (tgt := 101) hx hb nd_Board_firstOn_92 (by decide) (fun c_18 => ?_) (fun c_18 => ?_)
                  · have e_19 : (v4_7 + (1 : Int32)).toInt = v4_7.toInt + (1 : Int32).toInt := cr_add (by omega)
                    refine lv_iinc (v := (v4_7 + (1 : Int32))) (lv' := [(4, .int (v4_7 + (1 : Int32))), (6, .int (0 : Int32)), (5, .int r_9), (0, .ref (abd 0)), (1, .int x1), (2, .int v2_7), (3, .int v3_7)]) hx hb nd_Board_firstOn_101 hl (k := 6) rfl (by rfl) (by decide) rfl (fun ls hl => ?_)
                    refine lv_goto (tgt := 7) hx hb nd_Board_firstOn_104 (by decide) ?_
                    exact ih_7 v2_7 v3_7 (v4_7 + (1 : Int32)) (by omega) (by omega) (by omega) hM _ _ hP hD hS _ (lv_sub hl [3, 4, 5, 6, 0] rfl)
                  · exact absurd c_18 (by decide)
            · have c_13t := cr_nle c_13
              rw [if_neg c_13] at hM
              refine lv_iconst (v := 1) hx hb nd_Board_firstOn_71 (by decide) ?_
              refine lv_goto (tgt := 76) hx hb nd_Board_firstOn_72 (by decide) ?_
              refine lv_istore (lv' := [(6, .int (1 : Int32)), (5, .int r_9), (0, .ref (abd 0)), (1, .int x1), (2, .int v2_7), (3, .int v3_7), (4, .int v4_7)]) hx hb nd_Board_firstOn_76 hl (by decide) rfl (fun ls hl => ?_)
              refine lv_iload hx hb nd_Board_firstOn_78 (lv_at hl 1 rfl) ?_
              refine lv_iload_n hx hb nd_Board_firstOn_80 rfl (lv_at hl 5 rfl) ?_
              refine lv_icmp_gt (tgt := 95) hx hb nd_Board_firstOn_81 (by decide) (fun c_20 => ?_) (fun c_20 => ?_)
              · have c_20t := cr_lt c_20
                rw [if_pos c_20] at hM
                refine lv_iload hx hb nd_Board_firstOn_95 (lv_at hl 6 rfl) ?_
                refine lv_istore_n (lv' := [(2, .int v4_7), (6, .int (1 : Int32)), (5, .int r_9), (0, .ref (abd 0)), (1, .int x1), (3, .int v3_7), (4, .int v4_7)]) hx hb nd_Board_firstOn_97 rfl hl (by decide) rfl (fun ls hl => ?_)
                refine lv_iload hx hb nd_Board_firstOn_98 (lv_at hl 2 rfl) ?_
                refine lv_istore_n (lv' := [(3, .int r_9), (2, .int v4_7), (6, .int (1 : Int32)), (5, .int r_9), (0, .ref (abd 0)), (1, .int x1), (4, .int v4_7)]) hx hb nd_Board_firstOn_100 rfl hl (by decide) rfl (fun ls hl => ?_)
                have e_21 : (v4_7 + (1 : Int32)).toInt = v4_7.toInt + (1 : Int32).toInt := cr_add (by omega)
                refine lv_iinc (v := (v4_7 + (1 : Int32))) (lv' := [(4, .int (v4_7 + (1 : Int32))), (3, .int r_9), (2, .int v4_7), (6, .int (1 : Int32)), (5, .int r_9), (0, .ref (abd 0)), (1, .int x1)]) hx hb nd_Board_firstOn_101 hl (k := 6) rfl (by rfl) (by decide) rfl (fun ls hl => ?_)
                refine lv_goto (tgt := 7) hx hb nd_Board_firstOn_104 (by decide) ?_
                exact ih_7 v4_7 r_9 (v4_7 + (1 : Int32)) (by omega) (by omega) (by omega) hM _ _ hP hD hS _ (lv_sub hl [5, 6, 2, 1, 0] rfl)
              · have c_20t := cr_nlt c_20
                rw [if_neg c_20] at hM
                refine lv_iload hx hb nd_Board_firstOn_84 (lv_at hl 1 rfl) ?_
                refine lv_iload_n hx hb nd_Board_firstOn_86 rfl (lv_at hl 5 rfl) ?_
                refine lv_icmp_ne (tgt := 101) hx hb nd_Board_firstOn_87 (by decide) (fun c_22 => ?_) (fun c_22 => ?_)
                · have c_22t := cr_ne c_22
                  rw [if_neg c_22] at hM
                  have e_23 : (v4_7 + (1 : Int32)).toInt = v4_7.toInt + (1 : Int32).toInt := cr_add (by omega)
                  refine lv_iinc (v := (v4_7 + (1 : Int32))) (lv' := [(4, .int (v4_7 + (1 : Int32))), (6, .int (1 : Int32)), (5, .int r_9), (0, .ref (abd 0)), (1, .int x1), (2, .int v2_7), (3, .int v3_7)]) hx hb nd_Board_firstOn_101 hl (k := 6) rfl (by rfl) (by decide) rfl (fun ls hl => ?_)
                  refine lv_goto (tgt := 7) hx hb nd_Board_firstOn_104 (by decide) ?_
                  exact ih_7 v2_7 v3_7 (v4_7 + (1 : Int32)) (by omega) (by omega) (by omega) hM _ _ hP hD hS _ (lv_sub hl [3, 4, 5, 6, 0] rfl)
                · have c_22t := cr_eq c_22
                  rw [if_pos c_22] at hM
                  refine lv_iload hx hb nd_Board_firstOn_90 (lv_at hl 0 rfl) ?_
                  refine lv_if_eq (tgt := 101) hx hb nd_Board_firstOn_92 (by decide) (fun c_24 => ?_) (fun c_24 => ?_)
                  · exact absurd c_24 (by decide)
                  · refine lv_iload hx hb nd_Board_firstOn_95 (lv_at hl 6 rfl) ?_
                    refine lv_istore_n (lv' := [(2, .int v4_7), (6, .int (1 : Int32)), (5, .int r_9), (0, .ref (abd 0)), (1, .int x1), (3, .int v3_7), (4, .int v4_7)]) hx hb nd_Board_firstOn_97 rfl hl (by decide) rfl (fun ls hl => ?_)
                    refine lv_iload hx hb nd_Board_firstOn_98 (lv_at hl 2 rfl) ?_
                    refine lv_istore_n (lv' := [(3, .int r_9), (2, .int v4_7), (6, .int (1 : Int32)), (5, .int r_9), (0, .ref (abd 0)), (1, .int x1), (4, .int v4_7)]) hx hb nd_Board_firstOn_100 rfl hl (by decide) rfl (fun ls hl => ?_)
                    have e_25 : (v4_7 + (1 : Int32)).toInt = v4_7.toInt + (1 : Int32).toInt := cr_add (by omega)
                    refine lv_iinc (v := (v4_7 + (1 : Int32))) (lv' := [(4, .int (v4_7 + (1 : Int32))), (3, .int r_9), (2, .int v4_7), (6, .int (1 : Int32)), (5, .int r_9), (0, .ref (abd 0)), (1, .int x1)]) hx hb nd_Board_firstOn_101 hl (k := 6) rfl (by rfl) (by decide) rfl (fun ls hl => ?_)
                    refine lv_goto (tgt := 7) hx hb nd_Board_firstOn_104 (by decide) ?_
                    exact ih_7 v4_7 r_9 (v4_7 + (1 : Int32)) (by omega) (by omega) (by omega) hM _ _ hP hD hS _ (lv_sub hl [5, 6, 2, 1, 0] rfl)
          · have c_8t := cr_ne c_8
            rw [if_neg c_8] at hM
            refine lv_goto (tgt := 101) hx hb nd_Board_firstOn_44 (by decide) ?_
            have e_26 : (v4_7 + (1 : Int32)).toInt = v4_7.toInt + (1 : Int32).toInt := cr_add (by omega)
            refine lv_iinc (v := (v4_7 + (1 : Int32))) (lv' := [(4, .int (v4_7 + (1 : Int32))), (0, .ref (abd 0)), (1, .int x1), (2, .int v2_7), (3, .int v3_7)]) hx hb nd_Board_firstOn_101 hl (k := 4) rfl (by rfl) (by decide) rfl (fun ls hl => ?_)
            refine lv_goto (tgt := 7) hx hb nd_Board_firstOn_104 (by decide) ?_
            exact ih_7 v2_7 v3_7 (v4_7 + (1 : Int32)) (by omega) (by omega) (by omega) hM _ _ hP hD hS _ (lv_sub hl [1, 2, 3, 4, 0] rfl)
  exact lp_7 11 (0 : Int32) (0 : Int32) (1 : Int32) (by omega) (by omega) (by omega) hM _ _ hP hD hS _ hl

theorem nd_Board_take_0 : decode prog_2_method_8_code 0 = .ok (.aload_n 0, 1) := by decide +kernel
theorem nd_Board_take_1 : decode prog_2_method_8_code 1 = .ok (.getfield 21, 3) := by decide +kernel
theorem nd_Board_take_4 : decode prog_2_method_8_code 4 = .ok (.iload_n 2, 1) := by decide +kernel
theorem nd_Board_take_5 : decode prog_2_method_8_code 5 = .ok (.iload_n 1, 1) := by decide +kernel
theorem nd_Board_take_6 : decode prog_2_method_8_code 6 = .ok (.iastore, 1) := by decide +kernel
theorem nd_Board_take_7 : decode prog_2_method_8_code 7 = .ok (.aload_n 0, 1) := by decide +kernel
theorem nd_Board_take_8 : decode prog_2_method_8_code 8 = .ok (.getfield 24, 3) := by decide +kernel
theorem nd_Board_take_11 : decode prog_2_method_8_code 11 = .ok (.iload_n 2, 1) := by decide +kernel
theorem nd_Board_take_12 : decode prog_2_method_8_code 12 = .ok (.aload_n 0, 1) := by decide +kernel
theorem nd_Board_take_13 : decode prog_2_method_8_code 13 = .ok (.getfield 18, 3) := by decide +kernel
theorem nd_Board_take_16 : decode prog_2_method_8_code 16 = .ok (.iload_n 1, 1) := by decide +kernel
theorem nd_Board_take_17 : decode prog_2_method_8_code 17 = .ok (.iaload, 1) := by decide +kernel
theorem nd_Board_take_18 : decode prog_2_method_8_code 18 = .ok (.iastore, 1) := by decide +kernel
theorem nd_Board_take_19 : decode prog_2_method_8_code 19 = .ok (.aload_n 0, 1) := by decide +kernel
theorem nd_Board_take_20 : decode prog_2_method_8_code 20 = .ok (.getfield 18, 3) := by decide +kernel
theorem nd_Board_take_23 : decode prog_2_method_8_code 23 = .ok (.iload_n 1, 1) := by decide +kernel
theorem nd_Board_take_24 : decode prog_2_method_8_code 24 = .ok (.iload_n 2, 1) := by decide +kernel
theorem nd_Board_take_25 : decode prog_2_method_8_code 25 = .ok (.iastore, 1) := by decide +kernel
theorem nd_Board_take_26 : decode prog_2_method_8_code 26 = .ok (.return_, 1) := by decide +kernel
abbrev pq_Board_take (dC : Nat → ClassId) (dI : Nat → Nat → Nat) (cI cZ cO : ClassId) (apl abd : Nat → Nat) (pl : cr_S) (bd : cr_S) (x1 : Int32) (x2 : Int32) (A : Nat → Prop) : Array Value → State → Outcome → State → Prop :=
  va_Qv (fun (bd' : cr_S) => bd' = md_Board_take pl bd x1 x2 ∧ cr_RBoard bd') (fun (bd' : cr_S) t => va_P (dC, dI) vwCl (cw_Plan cI cZ cO apl pl ++ cw_Board cI cZ cO abd apl bd') t.heap ∧ va_K (dC, dI) vwCl [(cI, .int), (cZ, .boolean), (cO, .array .int)] t ∧ va_D A (cw_Plan cI cZ cO apl pl ++ cw_Board cI cZ cO abd apl bd')) A
set_option maxHeartbeats 4000000 in
set_option maxRecDepth 100000 in
theorem ct_Board_take (l : Launch) (dC : Nat → ClassId) (dI : Nat → Nat → Nat) (cI cZ cO : ClassId) (apl abd : Nat → Nat) (sz : Nat) (pl : cr_S) (bd : cr_S) (x1 : Int32) (x2 : Int32) (hR_bd : cr_RBoard bd) (hR_pl : cr_RPlan pl) (hx1 : 0 ≤ x1.toInt ∧ x1.toInt ≤ 10) (hx2 : 0 ≤ x2.toInt ∧ x2.toInt ≤ 8) : Met l ny_Board_take nw_Board_take ({ frames := 0, cells := 0, slots := 0, locals := 0 } : Room) (va_Pc [.ref (abd 0), .int x1, .int x2] (fun U => U.heap.size = sz ∧ va_P (dC, dI) vwCl (cw_Plan cI cZ cO apl pl ++ cw_Board cI cZ cO abd apl bd) U.heap ∧ va_K (dC, dI) vwCl [(cI, .int), (cZ, .boolean), (cO, .array .int)] U ∧ va_D (fun _ => True) (cw_Plan cI cZ cO apl pl ++ cw_Board cI cZ cO abd apl bd))) (pq_Board_take dC dI cI cZ cO apl abd pl bd x1 x2 (va_A (cw_Plan cI cZ cO apl pl ++ cw_Board cI cZ cO abd apl bd) sz)) 0 0 (va_A (cw_Plan cI cZ cO apl pl ++ cw_Board cI cZ cO abd apl bd) sz) := by
  refine Met.ofW (cc := prog_2_method_8_code) (maxL := 3) (ret := none) (by decide) rfl ?_
  intro p e s m args below meth c s₁ B hml hv
  obtain ⟨rfl, hsz, hP, hK, hD0⟩ := hv
  have hx := B.exec
  have hb := B.bytes
  have hr := B.returns
  have hts0 := atoms_spec (ws := nw_Board_take) B.pre
  have hts : ∀ w ∈ ng_tbl, w.before ([.ref (abd 0), .int x1, .int x2] : List Value).toArray s = true := fun w h => hts0 w (List.mem_cons_of_mem _ h)
  have hown : s.vm.findClass "CeilingRows$Board" = some m.cls := findClass_of_methodNamed B.named
  have hlocks := B.notSynchronized
  subst hsz
  have hD := hD0.self (sz := s.heap.size)
  generalize hAe : va_A (cw_Plan cI cZ cO apl pl ++ cw_Board cI cZ cO abd apl bd) s.heap.size = A at hD ⊢
  have hA : ∀ q : Nat, s.heap.size ≤ q → A q := fun q h => by rw [← hAe]; exact Or.inr h
  have hS : va_S A s.heap s.heap [] := va_S.rf
  have hP : va_P (dC, dI) vwCl (cw_Plan cI cZ cO apl pl ++ cw_Board cI cZ cO abd apl bd) s.heap := hP
  have hl := lv_entry ([.ref (abd 0), .int x1, .int x2]) (n := 3) (Nat.le_of_ble_eq_true rfl)
  rw [lg_entry_eq]
  generalize (lg_sl ([.ref (abd 0), .int x1, .int x2]) ++ List.replicate (3 - (lg_sl ([.ref (abd 0), .int x1, .int x2])).length) Slot.unset).toArray = ls at hl ⊢
  have hl : lv_has ls 3 [(0, .ref (abd 0)), (1, .int x1), (2, .int x2)] := hl
  obtain ⟨tgt, hT⟩ : ∃ z, md_Board_take pl bd x1 x2 = z := ⟨_, rfl⟩
  have hM := hT
  unfold md_Board_take at hM
  refine lv_aload_n hx hb nd_Board_take_0 rfl (lv_at hl 0 rfl) ?_
  refine va_get (D := (dC, dI)) (ci := 1) (v := .ref (abd 4)) (C := "CeilingRows$Board") (T := nf_Board) (N := 7) hx hb hts nin_Board hown hK hP 17 rfl rfl 5 (by decide) (hts _ tw_75) (fun _ h9 => h9) rfl nd_Board_take_1 ?_
  refine lv_iload_n hx hb nd_Board_take_4 rfl (lv_at hl 2 rfl) ?_
  refine lv_iload_n hx hb nd_Board_take_5 rfl (lv_at hl 1 rfl) ?_
  have b_1 : vp_in x2 9 := vp_in_iff.mpr (by omega)
  refine va_iast hx hb hK hP hD hS 21 0 rfl rfl b_1 nd_Board_take_6 (fun H locs hP hD hS => ?_)
  have hP : va_P (dC, dI) vwCl (cw_Plan cI cZ cO apl pl ++ cw_Board cI cZ cO abd apl (cr_up bd 4 x2.toNatClampNeg x1)) H := hP
  have hD : va_D A (cw_Plan cI cZ cO apl pl ++ cw_Board cI cZ cO abd apl (cr_up bd 4 x2.toNatClampNeg x1)) := hD
  have hR_2 : cr_RBoard (cr_up bd 4 x2.toNatClampNeg x1) := ⟨cr_rg_up hR_bd.1 (fun e => absurd e (by decide)), cr_rg_up hR_bd.2 (fun e => absurd e (by decide))⟩
  obtain ⟨bdq_3, hbdq_3⟩ : ∃ z, (cr_up bd 4 x2.toNatClampNeg x1) = z := ⟨_, rfl⟩
  rw [hbdq_3] at hP hD hR_2
  try rw [hbdq_3] at hM
  refine lv_aload_n hx hb nd_Board_take_7 rfl (lv_at hl 0 rfl) ?_
  refine va_get (D := (dC, dI)) (ci := 1) (v := .ref (abd 5)) (C := "CeilingRows$Board") (T := nf_Board) (N := 7) hx hb hts nin_Board hown hK hP 17 rfl rfl 6 (by decide) (hts _ tw_78) (fun _ h9 => h9) rfl nd_Board_take_8 ?_
  refine lv_iload_n hx hb nd_Board_take_11 rfl (lv_at hl 2 rfl) ?_
  refine lv_aload_n hx hb nd_Board_take_12 rfl (lv_at hl 0 rfl) ?_
  refine va_get (D := (dC, dI)) (ci := 1) (v := .ref (abd 3)) (C := "CeilingRows$Board") (T := nf_Board) (N := 7) hx hb hts nin_Board hown hK hP 17 rfl rfl 4 (by decide) (hts _ tw_73) (fun _ h9 => h9) rfl nd_Board_take_13 ?_
  refine lv_iload_n hx hb nd_Board_take_16 rfl (lv_at hl 1 rfl) ?_
  have b_4 : vp_in x1 11 := vp_in_iff.mpr (by omega)
  refine va_iald hx hb hK hP 20 0 rfl rfl b_4 nd_Board_take_17 ?_
  have f_5 := cr_rgo hR_2.1 (x1.toNatClampNeg)
  have b_6 : vp_in x2 9 := vp_in_iff.mpr (by omega)
  refine va_iast hx hb hK hP hD hS 22 0 rfl rfl b_6 nd_Board_take_18 (fun H locs hP hD hS => ?_)
  have hP : va_P (dC, dI) vwCl (cw_Plan cI cZ cO apl pl ++ cw_Board cI cZ cO abd apl (cr_up bdq_3 5 x2.toNatClampNeg (bdq_3 3 x1.toNatClampNeg))) H := hP
  have hD : va_D A (cw_Plan cI cZ cO apl pl ++ cw_Board cI cZ cO abd apl (cr_up bdq_3 5 x2.toNatClampNeg (bdq_3 3 x1.toNatClampNeg))) := hD
  have hR_7 : cr_RBoard (cr_up bdq_3 5 x2.toNatClampNeg (bdq_3 3 x1.toNatClampNeg)) := ⟨cr_rg_up hR_2.1 (fun e => absurd e (by decide)), cr_rg_up hR_2.2 (fun _ => by omega)⟩
  obtain ⟨bdq_8, hbdq_8⟩ : ∃ z, (cr_up bdq_3 5 x2.toNatClampNeg (bdq_3 3 x1.toNatClampNeg)) = z := ⟨_, rfl⟩
  rw [hbdq_8] at hP hD hR_7
  try rw [hbdq_8] at hM
  refine lv_aload_n hx hb nd_Board_take_19 rfl (lv_at hl 0 rfl) ?_
  refine va_get (D := (dC, dI)) (ci := 1) (v := .ref (abd 3)) (C := "CeilingRows$Board") (T := nf_Board) (N := 7) hx hb hts nin_Board hown hK hP 17 rfl rfl 4 (by decide) (hts _ tw_73) (fun _ h9 => h9) rfl nd_Board_take_20 ?_
  refine lv_iload_n hx hb nd_Board_take_23 rfl (lv_at hl 1 rfl) ?_
  refine lv_iload_n hx hb nd_Board_take_24 rfl (lv_at hl 2 rfl) ?_
  have b_9 : vp_in x1 11 := vp_in_iff.mpr (by omega)
  refine va_iast hx hb hK hP hD hS 20 0 rfl rfl b_9 nd_Board_take_25 (fun H locs hP hD hS => ?_)
  have hP : va_P (dC, dI) vwCl (cw_Plan cI cZ cO apl pl ++ cw_Board cI cZ cO abd apl (cr_up bdq_8 3 x1.toNatClampNeg x2)) H := hP
  have hD : va_D A (cw_Plan cI cZ cO apl pl ++ cw_Board cI cZ cO abd apl (cr_up bdq_8 3 x1.toNatClampNeg x2)) := hD
  have hR_10 : cr_RBoard (cr_up bdq_8 3 x1.toNatClampNeg x2) := ⟨cr_rg_up hR_7.1 (fun _ => by omega), cr_rg_up hR_7.2 (fun e => absurd e (by decide))⟩
  obtain ⟨bdq_11, hbdq_11⟩ : ∃ z, (cr_up bdq_8 3 x1.toNatClampNeg x2) = z := ⟨_, rfl⟩
  rw [hbdq_11] at hP hD hR_10
  try rw [hbdq_11] at hM
  exact W.vret hx hb hr (fun t ht hW => ⟨⟨bdq_11, rfl, ⟨by rw [hT, ← hM], hR_10⟩, by rw [ht]; exact hP, va_K.moved hW.alike hK, hD⟩, hS.F ht⟩) hS.2.2 nd_Board_take_26

theorem nd_Board_giveBackLast_0 : decode prog_2_method_9_code 0 = .ok (.aload_n 0, 1) := by decide +kernel
theorem nd_Board_giveBackLast_1 : decode prog_2_method_9_code 1 = .ok (.getfield 18, 3) := by decide +kernel
theorem nd_Board_giveBackLast_4 : decode prog_2_method_9_code 4 = .ok (.iload_n 1, 1) := by decide +kernel
theorem nd_Board_giveBackLast_5 : decode prog_2_method_9_code 5 = .ok (.iaload, 1) := by decide +kernel
theorem nd_Board_giveBackLast_6 : decode prog_2_method_9_code 6 = .ok (.istore_n 2, 1) := by decide +kernel
theorem nd_Board_giveBackLast_7 : decode prog_2_method_9_code 7 = .ok (.iload_n 2, 1) := by decide +kernel
theorem nd_Board_giveBackLast_8 : decode prog_2_method_9_code 8 = .ok (.ifCond .eq (29), 3) := by decide +kernel
theorem nd_Board_giveBackLast_11 : decode prog_2_method_9_code 11 = .ok (.aload_n 0, 1) := by decide +kernel
theorem nd_Board_giveBackLast_12 : decode prog_2_method_9_code 12 = .ok (.getfield 18, 3) := by decide +kernel
theorem nd_Board_giveBackLast_15 : decode prog_2_method_9_code 15 = .ok (.iload_n 1, 1) := by decide +kernel
theorem nd_Board_giveBackLast_16 : decode prog_2_method_9_code 16 = .ok (.aload_n 0, 1) := by decide +kernel
theorem nd_Board_giveBackLast_17 : decode prog_2_method_9_code 17 = .ok (.getfield 24, 3) := by decide +kernel
theorem nd_Board_giveBackLast_20 : decode prog_2_method_9_code 20 = .ok (.iload_n 2, 1) := by decide +kernel
theorem nd_Board_giveBackLast_21 : decode prog_2_method_9_code 21 = .ok (.iaload, 1) := by decide +kernel
theorem nd_Board_giveBackLast_22 : decode prog_2_method_9_code 22 = .ok (.iastore, 1) := by decide +kernel
theorem nd_Board_giveBackLast_23 : decode prog_2_method_9_code 23 = .ok (.aload_n 0, 1) := by decide +kernel
theorem nd_Board_giveBackLast_24 : decode prog_2_method_9_code 24 = .ok (.getfield 24, 3) := by decide +kernel
theorem nd_Board_giveBackLast_27 : decode prog_2_method_9_code 27 = .ok (.iload_n 2, 1) := by decide +kernel
theorem nd_Board_giveBackLast_28 : decode prog_2_method_9_code 28 = .ok (.iconst 0, 1) := by decide +kernel
theorem nd_Board_giveBackLast_29 : decode prog_2_method_9_code 29 = .ok (.iastore, 1) := by decide +kernel
theorem nd_Board_giveBackLast_30 : decode prog_2_method_9_code 30 = .ok (.aload_n 0, 1) := by decide +kernel
theorem nd_Board_giveBackLast_31 : decode prog_2_method_9_code 31 = .ok (.getfield 21, 3) := by decide +kernel
theorem nd_Board_giveBackLast_34 : decode prog_2_method_9_code 34 = .ok (.iload_n 2, 1) := by decide +kernel
theorem nd_Board_giveBackLast_35 : decode prog_2_method_9_code 35 = .ok (.iconst 0, 1) := by decide +kernel
theorem nd_Board_giveBackLast_36 : decode prog_2_method_9_code 36 = .ok (.iastore, 1) := by decide +kernel
theorem nd_Board_giveBackLast_37 : decode prog_2_method_9_code 37 = .ok (.return_, 1) := by decide +kernel
abbrev pq_Board_giveBackLast (dC : Nat → ClassId) (dI : Nat → Nat → Nat) (cI cZ cO : ClassId) (apl abd : Nat → Nat) (pl : cr_S) (bd : cr_S) (x1 : Int32) (A : Nat → Prop) : Array Value → State → Outcome → State → Prop :=
  va_Qv (fun (bd' : cr_S) => bd' = md_Board_giveBackLast pl bd x1 ∧ cr_RBoard bd') (fun (bd' : cr_S) t => va_P (dC, dI) vwCl (cw_Plan cI cZ cO apl pl ++ cw_Board cI cZ cO abd apl bd') t.heap ∧ va_K (dC, dI) vwCl [(cI, .int), (cZ, .boolean), (cO, .array .int)] t ∧ va_D A (cw_Plan cI cZ cO apl pl ++ cw_Board cI cZ cO abd apl bd')) A
set_option maxHeartbeats 4000000 in
set_option maxRecDepth 100000 in
theorem ct_Board_giveBackLast (l : Launch) (dC : Nat → ClassId) (dI : Nat → Nat → Nat) (cI cZ cO : ClassId) (apl abd : Nat → Nat) (sz : Nat) (pl : cr_S) (bd : cr_S) (x1 : Int32) (hR_bd : cr_RBoard bd) (hR_pl : cr_RPlan pl) (hx1 : 0 ≤ x1.toInt ∧ x1.toInt ≤ 10) : Met l ny_Board_giveBackLast nw_Board_giveBackLast ({ frames := 0, cells := 0, slots := 0, locals := 0 } : Room) (va_Pc [.ref (abd 0), .int x1] (fun U => U.heap.size = sz ∧ va_P (dC, dI) vwCl (cw_Plan cI cZ cO apl pl ++ cw_Board cI cZ cO abd apl bd) U.heap ∧ va_K (dC, dI) vwCl [(cI, .int), (cZ, .boolean), (cO, .array .int)] U ∧ va_D (fun _ => True) (cw_Plan cI cZ cO apl pl ++ cw_Board cI cZ cO abd apl bd))) (pq_Board_giveBackLast dC dI cI cZ cO apl abd pl bd x1 (va_A (cw_Plan cI cZ cO apl pl ++ cw_Board cI cZ cO abd apl bd) sz)) 0 0 (va_A (cw_Plan cI cZ cO apl pl ++ cw_Board cI cZ cO abd apl bd) sz) := by
  refine Met.ofW (cc := prog_2_method_9_code) (maxL := 3) (ret := none) (by decide) rfl ?_
  intro p e s m args below meth c s₁ B hml hv
  obtain ⟨rfl, hsz, hP, hK, hD0⟩ := hv
  have hx := B.exec
  have hb := B.bytes
  have hr := B.returns
  have hts0 := atoms_spec (ws := nw_Board_giveBackLast) B.pre
  have hts : ∀ w ∈ ng_tbl, w.before ([.ref (abd 0), .int x1] : List Value).toArray s = true := fun w h => hts0 w (List.mem_cons_of_mem _ h)
  have hown : s.vm.findClass "CeilingRows$Board" = some m.cls := findClass_of_methodNamed B.named
  have hlocks := B.notSynchronized
  subst hsz
  have hD := hD0.self (sz := s.heap.size)
  generalize hAe : va_A (cw_Plan cI cZ cO apl pl ++ cw_Board cI cZ cO abd apl bd) s.heap.size = A at hD ⊢
  have hA : ∀ q : Nat, s.heap.size ≤ q → A q := fun q h => by rw [← hAe]; exact Or.inr h
  have hS : va_S A s.heap s.heap [] := va_S.rf
  have hP : va_P (dC, dI) vwCl (cw_Plan cI cZ cO apl pl ++ cw_Board cI cZ cO abd apl bd) s.heap := hP
  have hl := lv_entry ([.ref (abd 0), .int x1]) (n := 3) (Nat.le_of_ble_eq_true rfl)
  rw [lg_entry_eq]
  generalize (lg_sl ([.ref (abd 0), .int x1]) ++ List.replicate (3 - (lg_sl ([.ref (abd 0), .int x1])).length) Slot.unset).toArray = ls at hl ⊢
  have hl : lv_has ls 3 [(0, .ref (abd 0)), (1, .int x1)] := hl
  have k_0 : (0 : Int32).toInt = 0 := by decide
  obtain ⟨tgt, hT⟩ : ∃ z, md_Board_giveBackLast pl bd x1 = z := ⟨_, rfl⟩
  have hM := hT
  unfold md_Board_giveBackLast at hM
  refine lv_aload_n hx hb nd_Board_giveBackLast_0 rfl (lv_at hl 0 rfl) ?_
  refine va_get (D := (dC, dI)) (ci := 1) (v := .ref (abd 3)) (C := "CeilingRows$Board") (T := nf_Board) (N := 7) hx hb hts nin_Board hown hK hP 17 rfl rfl 4 (by decide) (hts _ tw_73) (fun _ h9 => h9) rfl nd_Board_giveBackLast_1 ?_
  refine lv_iload_n hx hb nd_Board_giveBackLast_4 rfl (lv_at hl 1 rfl) ?_
  have b_1 : vp_in x1 11 := vp_in_iff.mpr (by omega)
  refine va_iald hx hb hK hP 20 0 rfl rfl b_1 nd_Board_giveBackLast_5 ?_
  have f_2 := cr_rgo hR_bd.1 (x1.toNatClampNeg)
  refine lv_istore_n (lv' := [(2, .int (bd 3 x1.toNatClampNeg)), (0, .ref (abd 0)), (1, .int x1)]) hx hb nd_Board_giveBackLast_6 rfl hl (by decide) rfl (fun ls hl => ?_)
  refine lv_iload_n hx hb nd_Board_giveBackLast_7 rfl (lv_at hl 0 rfl) ?_
  refine lv_if_eq (tgt := 37) hx hb nd_Board_giveBackLast_8 (by decide) (fun c_3 => ?_) (fun c_3 => ?_)
  · have c_3t := cr_eq c_3
    rw [if_pos c_3] at hM
    exact W.vret hx hb hr (fun t ht hW => ⟨⟨bd, rfl, ⟨by rw [hT, ← hM], hR_bd⟩, by rw [ht]; exact hP, va_K.moved hW.alike hK, hD⟩, hS.F ht⟩) hS.2.2 nd_Board_giveBackLast_37
  · have c_3t := cr_ne c_3
    rw [if_neg c_3] at hM
    refine lv_aload_n hx hb nd_Board_giveBackLast_11 rfl (lv_at hl 1 rfl) ?_
    refine va_get (D := (dC, dI)) (ci := 1) (v := .ref (abd 3)) (C := "CeilingRows$Board") (T := nf_Board) (N := 7) hx hb hts nin_Board hown hK hP 17 rfl rfl 4 (by decide) (hts _ tw_73) (fun _ h9 => h9) rfl nd_Board_giveBackLast_12 ?_
    refine lv_iload_n hx hb nd_Board_giveBackLast_15 rfl (lv_at hl 2 rfl) ?_
    refine lv_aload_n hx hb nd_Board_giveBackLast_16 rfl (lv_at hl 1 rfl) ?_
    refine va_get (D := (dC, dI)) (ci := 1) (v := .ref (abd 5)) (C := "CeilingRows$Board") (T := nf_Board) (N := 7) hx hb hts nin_Board hown hK hP 17 rfl rfl 6 (by decide) (hts _ tw_78) (fun _ h9 => h9) rfl nd_Board_giveBackLast_17 ?_
    refine lv_iload_n hx hb nd_Board_giveBackLast_20 rfl (lv_at hl 0 rfl) ?_
    have b_4 : vp_in (bd 3 x1.toNatClampNeg) 9 := vp_in_iff.mpr (by omega)
    refine va_iald hx hb hK hP 22 0 rfl rfl b_4 nd_Board_giveBackLast_21 ?_
    have f_5 := cr_rgo hR_bd.2 ((bd 3 x1.toNatClampNeg).toNatClampNeg)
    have b_6 : vp_in x1 11 := vp_in_iff.mpr (by omega)
    refine va_iast hx hb hK hP hD hS 20 0 rfl rfl b_6 nd_Board_giveBackLast_22 (fun H locs hP hD hS => ?_)
    have hP : va_P (dC, dI) vwCl (cw_Plan cI cZ cO apl pl ++ cw_Board cI cZ cO abd apl (cr_up bd 3 x1.toNatClampNeg (bd 5 (bd 3 x1.toNatClampNeg).toNatClampNeg))) H := hP
    have hD : va_D A (cw_Plan cI cZ cO apl pl ++ cw_Board cI cZ cO abd apl (cr_up bd 3 x1.toNatClampNeg (bd 5 (bd 3 x1.toNatClampNeg).toNatClampNeg))) := hD
    have hR_7 : cr_RBoard (cr_up bd 3 x1.toNatClampNeg (bd 5 (bd 3 x1.toNatClampNeg).toNatClampNeg)) := ⟨cr_rg_up hR_bd.1 (fun _ => by omega), cr_rg_up hR_bd.2 (fun e => absurd e (by decide))⟩
    obtain ⟨bdq_8, hbdq_8⟩ : ∃ z, (cr_up bd 3 x1.toNatClampNeg (bd 5 (bd 3 x1.toNatClampNeg).toNatClampNeg)) = z := ⟨_, rfl⟩
    rw [hbdq_8] at hP hD hR_7
    try rw [hbdq_8] at hM
    refine lv_aload_n hx hb nd_Board_giveBackLast_23 rfl (lv_at hl 1 rfl) ?_
    refine va_get (D := (dC, dI)) (ci := 1) (v := .ref (abd 5)) (C := "CeilingRows$Board") (T := nf_Board) (N := 7) hx hb hts nin_Board hown hK hP 17 rfl rfl 6 (by decide) (hts _ tw_78) (fun _ h9 => h9) rfl nd_Board_giveBackLast_24 ?_
    refine lv_iload_n hx hb nd_Board_giveBackLast_27 rfl (lv_at hl 0 rfl) ?_
    refine lv_iconst (v := 0) hx hb nd_Board_giveBackLast_28 (by decide) ?_
    have b_9 : vp_in (bd 3 x1.toNatClampNeg) 9 := vp_in_iff.mpr (by omega)
    refine va_iast hx hb hK hP hD hS 22 0 rfl rfl b_9 nd_Board_giveBackLast_29 (fun H locs hP hD hS => ?_)
    have hP : va_P (dC, dI) vwCl (cw_Plan cI cZ cO apl pl ++ cw_Board cI cZ cO abd apl (cr_up bdq_8 5 (bd 3 x1.toNatClampNeg).toNatClampNeg (0 : Int32))) H := hP
    have hD : va_D A (cw_Plan cI cZ cO apl pl ++ cw_Board cI cZ cO abd apl (cr_up bdq_8 5 (bd 3 x1.toNatClampNeg).toNatClampNeg (0 : Int32))) := hD
    have hR_10 : cr_RBoard (cr_up bdq_8 5 (bd 3 x1.toNatClampNeg).toNatClampNeg (0 : Int32)) := ⟨cr_rg_up hR_7.1 (fun e => absurd e (by decide)), cr_rg_up hR_7.2 (fun _ => by omega)⟩
    obtain ⟨bdq_11, hbdq_11⟩ : ∃ z, (cr_up bdq_8 5 (bd 3 x1.toNatClampNeg).toNatClampNeg (0 : Int32)) = z := ⟨_, rfl⟩
    rw [hbdq_11] at hP hD hR_10
    try rw [hbdq_11] at hM
    refine lv_aload_n hx hb nd_Board_giveBackLast_30 rfl (lv_at hl 1 rfl) ?_
    refine va_get (D := (dC, dI)) (ci := 1) (v := .ref (abd 4)) (C := "CeilingRows$Board") (T := nf_Board) (N := 7) hx hb hts nin_Board hown hK hP 17 rfl rfl 5 (by decide) (hts _ tw_75) (fun _ h9 => h9) rfl nd_Board_giveBackLast_31 ?_
    refine lv_iload_n hx hb nd_Board_giveBackLast_34 rfl (lv_at hl 0 rfl) ?_
    refine lv_iconst (v := 0) hx hb nd_Board_giveBackLast_35 (by decide) ?_
    have b_12 : vp_in (bd 3 x1.toNatClampNeg) 9 := vp_in_iff.mpr (by omega)
    refine va_iast hx hb hK hP hD hS 21 0 rfl rfl b_12 nd_Board_giveBackLast_36 (fun H locs hP hD hS => ?_)
    have hP : va_P (dC, dI) vwCl (cw_Plan cI cZ cO apl pl ++ cw_Board cI cZ cO abd apl (cr_up bdq_11 4 (bd 3 x1.toNatClampNeg).toNatClampNeg (0 : Int32))) H := hP
    have hD : va_D A (cw_Plan cI cZ cO apl pl ++ cw_Board cI cZ cO abd apl (cr_up bdq_11 4 (bd 3 x1.toNatClampNeg).toNatClampNeg (0 : Int32))) := hD
    have hR_13 : cr_RBoard (cr_up bdq_11 4 (bd 3 x1.toNatClampNeg).toNatClampNeg (0 : Int32)) := ⟨cr_rg_up hR_10.1 (fun e => absurd e (by decide)), cr_rg_up hR_10.2 (fun e => absurd e (by decide))⟩
    obtain ⟨bdq_14, hbdq_14⟩ : ∃ z, (cr_up bdq_11 4 (bd 3 x1.toNatClampNeg).toNatClampNeg (0 : Int32)) = z := ⟨_, rfl⟩
    rw [hbdq_14] at hP hD hR_13
    try rw [hbdq_14] at hM
    exact W.vret hx hb hr (fun t ht hW => ⟨⟨bdq_14, rfl, ⟨by rw [hT, ← hM], hR_13⟩, by rw [ht]; exact hP, va_K.moved hW.alike hK, hD⟩, hS.F ht⟩) hS.2.2 nd_Board_giveBackLast_37

theorem nd_Board_putToSleep_0 : decode prog_2_method_10_code 0 = .ok (.iconst 0, 1) := by decide +kernel
theorem nd_Board_putToSleep_1 : decode prog_2_method_10_code 1 = .ok (.istore_n 2, 1) := by decide +kernel
theorem nd_Board_putToSleep_2 : decode prog_2_method_10_code 2 = .ok (.iload_n 2, 1) := by decide +kernel
theorem nd_Board_putToSleep_3 : decode prog_2_method_10_code 3 = .ok (.bipush 8, 2) := by decide +kernel
theorem nd_Board_putToSleep_5 : decode prog_2_method_10_code 5 = .ok (.if_icmp .ge (22), 3) := by decide +kernel
theorem nd_Board_putToSleep_8 : decode prog_2_method_10_code 8 = .ok (.aload_n 0, 1) := by decide +kernel
theorem nd_Board_putToSleep_9 : decode prog_2_method_10_code 9 = .ok (.iload_n 1, 1) := by decide +kernel
theorem nd_Board_putToSleep_10 : decode prog_2_method_10_code 10 = .ok (.invokevirtual 68, 3) := by decide +kernel
theorem nd_Board_putToSleep_13 : decode prog_2_method_10_code 13 = .ok (.ifCond .eq (14), 3) := by decide +kernel
theorem nd_Board_putToSleep_16 : decode prog_2_method_10_code 16 = .ok (.aload_n 0, 1) := by decide +kernel
theorem nd_Board_putToSleep_17 : decode prog_2_method_10_code 17 = .ok (.iload_n 1, 1) := by decide +kernel
theorem nd_Board_putToSleep_18 : decode prog_2_method_10_code 18 = .ok (.invokevirtual 72, 3) := by decide +kernel
theorem nd_Board_putToSleep_21 : decode prog_2_method_10_code 21 = .ok (.iinc 2 1, 3) := by decide +kernel
theorem nd_Board_putToSleep_24 : decode prog_2_method_10_code 24 = .ok (.goto (-22), 3) := by decide +kernel
theorem nd_Board_putToSleep_27 : decode prog_2_method_10_code 27 = .ok (.aload_n 0, 1) := by decide +kernel
theorem nd_Board_putToSleep_28 : decode prog_2_method_10_code 28 = .ok (.getfield 9, 3) := by decide +kernel
theorem nd_Board_putToSleep_31 : decode prog_2_method_10_code 31 = .ok (.iload_n 1, 1) := by decide +kernel
theorem nd_Board_putToSleep_32 : decode prog_2_method_10_code 32 = .ok (.iconst 0, 1) := by decide +kernel
theorem nd_Board_putToSleep_33 : decode prog_2_method_10_code 33 = .ok (.iastore, 1) := by decide +kernel
theorem nd_Board_putToSleep_34 : decode prog_2_method_10_code 34 = .ok (.return_, 1) := by decide +kernel
abbrev pq_Board_putToSleep (dC : Nat → ClassId) (dI : Nat → Nat → Nat) (cI cZ cO : ClassId) (apl abd : Nat → Nat) (pl : cr_S) (bd : cr_S) (x1 : Int32) (A : Nat → Prop) : Array Value → State → Outcome → State → Prop :=
  va_Qv (fun (bd' : cr_S) => bd' = md_Board_putToSleep pl bd x1 ∧ cr_RBoard bd') (fun (bd' : cr_S) t => va_P (dC, dI) vwCl (cw_Plan cI cZ cO apl pl ++ cw_Board cI cZ cO abd apl bd') t.heap ∧ va_K (dC, dI) vwCl [(cI, .int), (cZ, .boolean), (cO, .array .int)] t ∧ va_D A (cw_Plan cI cZ cO apl pl ++ cw_Board cI cZ cO abd apl bd')) A
set_option maxHeartbeats 4000000 in
set_option maxRecDepth 100000 in
theorem ct_Board_putToSleep (l : Launch) (dC : Nat → ClassId) (dI : Nat → Nat → Nat) (cI cZ cO : ClassId) (apl abd : Nat → Nat) (sz : Nat) (pl : cr_S) (bd : cr_S) (x1 : Int32) (hR_bd : cr_RBoard bd) (hR_pl : cr_RPlan pl) (hx1 : 0 ≤ x1.toInt ∧ x1.toInt ≤ 10) : Met l ny_Board_putToSleep nw_Board_putToSleep ({ frames := 1, cells := 0, slots := 0, locals := 22 } : Room) (va_Pc [.ref (abd 0), .int x1] (fun U => U.heap.size = sz ∧ va_P (dC, dI) vwCl (cw_Plan cI cZ cO apl pl ++ cw_Board cI cZ cO abd apl bd) U.heap ∧ va_K (dC, dI) vwCl [(cI, .int), (cZ, .boolean), (cO, .array .int)] U ∧ va_D (fun _ => True) (cw_Plan cI cZ cO apl pl ++ cw_Board cI cZ cO abd apl bd))) (pq_Board_putToSleep dC dI cI cZ cO apl abd pl bd x1 (va_A (cw_Plan cI cZ cO apl pl ++ cw_Board cI cZ cO abd apl bd) sz)) 0 0 (va_A (cw_Plan cI cZ cO apl pl ++ cw_Board cI cZ cO abd apl bd) sz) := by
  refine Met.ofW (cc := prog_2_method_10_code) (maxL := 3) (ret := none) (by decide) rfl ?_
  intro p e s m args below meth c s₁ B hml hv
  obtain ⟨rfl, hsz, hP, hK, hD0⟩ := hv
  have hx := B.exec
  have hb := B.bytes
  have hr := B.returns
  have hts0 := atoms_spec (ws := nw_Board_putToSleep) B.pre
  have hts : ∀ w ∈ ng_tbl, w.before ([.ref (abd 0), .int x1] : List Value).toArray s = true := fun w h => hts0 w (List.mem_cons_of_mem _ h)
  have hown : s.vm.findClass "CeilingRows$Board" = some m.cls := findClass_of_methodNamed B.named
  have hlocks := B.notSynchronized
  subst hsz
  have hD := hD0.self (sz := s.heap.size)
  generalize hAe : va_A (cw_Plan cI cZ cO apl pl ++ cw_Board cI cZ cO abd apl bd) s.heap.size = A at hD ⊢
  have hA : ∀ q : Nat, s.heap.size ≤ q → A q := fun q h => by rw [← hAe]; exact Or.inr h
  have hS : va_S A s.heap s.heap [] := va_S.rf
  have hP : va_P (dC, dI) vwCl (cw_Plan cI cZ cO apl pl ++ cw_Board cI cZ cO abd apl bd) s.heap := hP
  have hl := lv_entry ([.ref (abd 0), .int x1]) (n := 3) (Nat.le_of_ble_eq_true rfl)
  rw [lg_entry_eq]
  generalize (lg_sl ([.ref (abd 0), .int x1]) ++ List.replicate (3 - (lg_sl ([.ref (abd 0), .int x1])).length) Slot.unset).toArray = ls at hl ⊢
  have hl : lv_has ls 3 [(0, .ref (abd 0)), (1, .int x1)] := hl
  have k_0 : (0 : Int32).toInt = 0 := by decide
  have k_1 : (1 : Int32).toInt = 1 := by decide
  have k_8 : (8 : Int32).toInt = 8 := by decide
  obtain ⟨tgt, hT⟩ : ∃ z, md_Board_putToSleep pl bd x1 = z := ⟨_, rfl⟩
  have hM := hT
  unfold md_Board_putToSleep at hM
  refine lv_iconst (v := 0) hx hb nd_Board_putToSleep_0 (by decide) ?_
  refine lv_istore_n (lv' := [(2, .int (0 : Int32)), (0, .ref (abd 0)), (1, .int x1)]) hx hb nd_Board_putToSleep_1 rfl hl (by decide) rfl (fun ls hl => ?_)
  have hl := lv_sub hl [1, 2, 0] rfl
  have lp_2 : ∀ (n_2 : Nat) (bd_2 : cr_S) (v2_2 : Int32), (cr_RBoard bd_2) → (0 ≤ v2_2.toInt ∧ v2_2.toInt ≤ 8) → (8 < v2_2.toInt + (n_2 : Int)) → lo_Board_putToSleep_2 pl x1 n_2 bd_2 v2_2 = tgt → ∀ (H : Heap) (locs : List Loc), va_P (dC, dI) vwCl (cw_Plan cI cZ cO apl pl ++ cw_Board cI cZ cO abd apl bd_2) H → va_D A (cw_Plan cI cZ cO apl pl ++ cw_Board cI cZ cO abd apl bd_2) → va_S A s.heap H locs → ∀ ls : Array Slot, lv_has ls 3 [(0, .ref (abd 0)), (1, .int x1), (2, .int v2_2)] → W p l e (headSpec nw_Board_putToSleep ({ frames := 1, cells := 0, slots := 0, locals := 22 } : Room)).room s m ([.ref (abd 0), .int x1] : List Value).toArray below meth c H locs 0 0 (MQ below (pq_Board_putToSleep dC dI cI cZ cO apl abd pl bd x1 A) ([.ref (abd 0), .int x1] : List Value).toArray s 0 0 A) (F0 m 2 ls []) := by
    intro n_2
    induction n_2 with
    | zero =>
      intro bd_2 v2_2 hR_bd_2 hv2_2 hn_2
      exfalso; omega
    | succ n_2 ih_2 =>
      intro bd_2 v2_2 hR_bd_2 hv2_2 hn_2 hM H locs hP hD hS ls hl
      have hn_2 : 8 < v2_2.toInt + ((n_2 : Int) + 1) := by omega
      rw [lo_Board_putToSleep_2] at hM
      refine lv_iload_n hx hb nd_Board_putToSleep_2 rfl (lv_at hl 2 rfl) ?_
      refine lv_bipush (v := 8) hx hb nd_Board_putToSleep_3 (by decide) ?_
      refine lv_icmp_ge (tgt := 27) hx hb nd_Board_putToSleep_5 (by decide) (fun c_1 => ?_) (fun c_1 => ?_)
      · have c_1t := cr_le c_1
        rw [if_pos c_1] at hM
        refine lv_aload_n hx hb nd_Board_putToSleep_27 rfl (lv_at hl 0 rfl) ?_
        refine va_get (D := (dC, dI)) (ci := 1) (v := .ref (abd 1)) (C := "CeilingRows$Board") (T := nf_Board) (N := 7) hx hb hts nin_Board hown hK hP 17 rfl rfl 1 (by decide) (hts _ tw_68) (fun _ h9 => h9) rfl nd_Board_putToSleep_28 ?_
        refine lv_iload_n hx hb nd_Board_putToSleep_31 rfl (lv_at hl 1 rfl) ?_
        refine lv_iconst (v := 0) hx hb nd_Board_putToSleep_32 (by decide) ?_
        have b_2 : vp_in x1 11 := vp_in_iff.mpr (by omega)
        refine va_iast hx hb hK hP hD hS 18 0 rfl rfl b_2 nd_Board_putToSleep_33 (fun H locs hP hD hS => ?_)
        have hP : va_P (dC, dI) vwCl (cw_Plan cI cZ cO apl pl ++ cw_Board cI cZ cO abd apl (cr_up bd_2 1 x1.toNatClampNeg (0 : Int32))) H := hP
        have hD : va_D A (cw_Plan cI cZ cO apl pl ++ cw_Board cI cZ cO abd apl (cr_up bd_2 1 x1.toNatClampNeg (0 : Int32))) := hD
        have hR_3 : cr_RBoard (cr_up bd_2 1 x1.toNatClampNeg (0 : Int32)) := ⟨cr_rg_up hR_bd_2.1 (fun e => absurd e (by decide)), cr_rg_up hR_bd_2.2 (fun e => absurd e (by decide))⟩
        obtain ⟨bdq_4, hbdq_4⟩ : ∃ z, (cr_up bd_2 1 x1.toNatClampNeg (0 : Int32)) = z := ⟨_, rfl⟩
        rw [hbdq_4] at hP hD hR_3
        try rw [hbdq_4] at hM
        exact W.vret hx hb hr (fun t ht hW => ⟨⟨bdq_4, rfl, ⟨by rw [hT, ← hM], hR_3⟩, by rw [ht]; exact hP, va_K.moved hW.alike hK, hD⟩, hS.F ht⟩) hS.2.2 nd_Board_putToSleep_34
      · have c_1t := cr_nle c_1
        rw [if_neg c_1] at hM
        refine lv_aload_n hx hb nd_Board_putToSleep_8 rfl (lv_at hl 0 rfl) ?_
        refine lv_iload_n hx hb nd_Board_putToSleep_9 rfl (lv_at hl 1 rfl) ?_
        have hPc := hP
        have hDc := hD
        have hFc := va_free (wc := cw_Plan cI cZ cO apl pl ++ cw_Board cI cZ cO abd apl bd_2) hD hS hA [0, 1, 2, 3, 4, 5, 6, 7, 8, 9, 10, 11, 12, 13, 14, 15, 16, 17, 18, 19, 20, 21, 22] rfl
        refine va_calli (va_runV (As := [.int x1]) (rest := []) ⟨hx, hb, hml, hown, hts⟩ (ct_Board_holdsAny l dC dI cI cZ cO apl abd H.size pl bd_2 x1 hR_bd_2 hR_pl (by omega)) (cwV 1 hts (ng_V tw_279 tw_272 tw_273 tw_3 tw_274) rfl rfl rfl (by decide +kernel) ⟨Nat.le_of_ble_eq_true rfl, Nat.le_of_ble_eq_true rfl⟩) ⟨fun a U g mk q => by obtain ⟨q0, q1, qP, qK, qD⟩ := q; exact ⟨q0, q1, qP, va_K.moved (u := U) (U := U.calling g mk a) (Vm.Alike.refl U.vm) qK, qD⟩, va_recv hK hPc (ci := 1) (q0 := 17) rfl rfl, fun U hU hW => ⟨rfl, by rw [hU], by rw [hU]; exact hPc, va_K.moved hW.alike hK, hDc.weaken (fun _ _ _ _ => trivial)⟩⟩ rfl rfl hl.1 rfl (lv_room (Nat.le_of_ble_eq_true rfl)) nd_Board_putToSleep_10 ⟨Nat.zero_le _, Nat.zero_le _⟩) hS (fun q _ h => hFc q h) hFc (fun r_5 u t H1 locs ht hvm hw hB hz1 hk1 hS => ?_)
        obtain ⟨hP1, hK1, hD1⟩ := hB
        rw [ht] at hP1
        have w_6 := hw
        try rw [← w_6] at hM
        have hP := hP1
        have hD := cr_Dw hD1 hFc
        generalize H1 = H at hP hS ⊢
        refine lv_if_eq (tgt := 27) hx hb nd_Board_putToSleep_13 (by decide) (fun c_7 => ?_) (fun c_7 => ?_)
        · have c_7t := cr_eq c_7
          rw [if_pos c_7] at hM
          refine lv_aload_n hx hb nd_Board_putToSleep_27 rfl (lv_at hl 0 rfl) ?_
          refine va_get (D := (dC, dI)) (ci := 1) (v := .ref (abd 1)) (C := "CeilingRows$Board") (T := nf_Board) (N := 7) hx hb hts nin_Board hown hK hP 17 rfl rfl 1 (by decide) (hts _ tw_68) (fun _ h9 => h9) rfl nd_Board_putToSleep_28 ?_
          refine lv_iload_n hx hb nd_Board_putToSleep_31 rfl (lv_at hl 1 rfl) ?_
          refine lv_iconst (v := 0) hx hb nd_Board_putToSleep_32 (by decide) ?_
          have b_8 : vp_in x1 11 := vp_in_iff.mpr (by omega)
          refine va_iast hx hb hK hP hD hS 18 0 rfl rfl b_8 nd_Board_putToSleep_33 (fun H locs hP hD hS => ?_)
          have hP : va_P (dC, dI) vwCl (cw_Plan cI cZ cO apl pl ++ cw_Board cI cZ cO abd apl (cr_up bd_2 1 x1.toNatClampNeg (0 : Int32))) H := hP
          have hD : va_D A (cw_Plan cI cZ cO apl pl ++ cw_Board cI cZ cO abd apl (cr_up bd_2 1 x1.toNatClampNeg (0 : Int32))) := hD
          have hR_9 : cr_RBoard (cr_up bd_2 1 x1.toNatClampNeg (0 : Int32)) := ⟨cr_rg_up hR_bd_2.1 (fun e => absurd e (by decide)), cr_rg_up hR_bd_2.2 (fun e => absurd e (by decide))⟩
          obtain ⟨bdq_10, hbdq_10⟩ : ∃ z, (cr_up bd_2 1 x1.toNatClampNeg (0 : Int32)) = z := ⟨_, rfl⟩
          rw [hbdq_10] at hP hD hR_9
          try rw [hbdq_10] at hM
          exact W.vret hx hb hr (fun t ht hW => ⟨⟨bdq_10, rfl, ⟨by rw [hT, ← hM], hR_9⟩, by rw [ht]; exact hP, va_K.moved hW.alike hK, hD⟩, hS.F ht⟩) hS.2.2 nd_Board_putToSleep_34
        · have c_7t := cr_ne c_7
          rw [if_neg c_7] at hM
          refine lv_aload_n hx hb nd_Board_putToSleep_16 rfl (lv_at hl 0 rfl) ?_
          refine lv_iload_n hx hb nd_Board_putToSleep_17 rfl (lv_at hl 1 rfl) ?_
          have hPc := hP
          have hDc := hD
          have hFc := va_free (wc := cw_Plan cI cZ cO apl pl ++ cw_Board cI cZ cO abd apl bd_2) hD hS hA [0, 1, 2, 3, 4, 5, 6, 7, 8, 9, 10, 11, 12, 13, 14, 15, 16, 17, 18, 19, 20, 21, 22] rfl
          refine va_callv (va_runV (As := [.int x1]) (rest := []) ⟨hx, hb, hml, hown, hts⟩ (ct_Board_giveBackLast l dC dI cI cZ cO apl abd H.size pl bd_2 x1 hR_bd_2 hR_pl (by omega)) (cwV 1 hts (ng_V tw_280 tw_264 tw_265 tw_3 tw_266) rfl rfl rfl (by decide +kernel) ⟨Nat.le_of_ble_eq_true rfl, Nat.le_of_ble_eq_true rfl⟩) ⟨fun a U g mk q => by obtain ⟨q0, q1, qP, qK, qD⟩ := q; exact ⟨q0, q1, qP, va_K.moved (u := U) (U := U.calling g mk a) (Vm.Alike.refl U.vm) qK, qD⟩, va_recv hK hPc (ci := 1) (q0 := 17) rfl rfl, fun U hU hW => ⟨rfl, by rw [hU], by rw [hU]; exact hPc, va_K.moved hW.alike hK, hDc.weaken (fun _ _ _ _ => trivial)⟩⟩ rfl rfl hl.1 rfl (lv_room (Nat.le_of_ble_eq_true rfl)) nd_Board_putToSleep_18 ⟨Nat.zero_le _, Nat.zero_le _⟩) hS (fun q _ h => hFc q h) hFc (fun u t H1 locs ht hvm hw hB hz1 hk1 hS => ?_)
          obtain ⟨hP1, hK1, hD1⟩ := hB
          rw [ht] at hP1
          obtain ⟨bdq_12, rfl⟩ : ∃ z, z = u := ⟨_, rfl⟩
          obtain ⟨w_13, hR_14⟩ := hw
          try rw [← w_13] at hM
          have hP := hP1
          have hD := cr_Dw hD1 hFc
          generalize H1 = H at hP hS ⊢
          have e_15 : (v2_2 + (1 : Int32)).toInt = v2_2.toInt + (1 : Int32).toInt := cr_add (by omega)
          refine lv_iinc (v := (v2_2 + (1 : Int32))) (lv' := [(2, .int (v2_2 + (1 : Int32))), (0, .ref (abd 0)), (1, .int x1)]) hx hb nd_Board_putToSleep_21 hl (k := 2) rfl (by rfl) (by decide) rfl (fun ls hl => ?_)
          refine lv_goto (tgt := 2) hx hb nd_Board_putToSleep_24 (by decide) ?_
          exact ih_2 bdq_12 (v2_2 + (1 : Int32)) hR_14 (by omega) (by omega) hM _ _ hP hD hS _ (lv_sub hl [1, 2, 0] rfl)
  exact lp_2 9 bd (0 : Int32) hR_bd (by omega) (by omega) hM _ _ hP hD hS _ hl
