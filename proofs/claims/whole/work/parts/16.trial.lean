theorem nd_Trial_ticksWith_0 : decode prog_5_method_8_code 0 = .ok (.aload_n 0, 1) := by decide +kernel
theorem nd_Trial_ticksWith_1 : decode prog_5_method_8_code 1 = .ok (.getfield 20, 3) := by decide +kernel
theorem nd_Trial_ticksWith_4 : decode prog_5_method_8_code 4 = .ok (.getfield 112, 3) := by decide +kernel
theorem nd_Trial_ticksWith_7 : decode prog_5_method_8_code 7 = .ok (.iload_n 1, 1) := by decide +kernel
theorem nd_Trial_ticksWith_8 : decode prog_5_method_8_code 8 = .ok (.aaload, 1) := by decide +kernel
theorem nd_Trial_ticksWith_9 : decode prog_5_method_8_code 9 = .ok (.iload_n 2, 1) := by decide +kernel
theorem nd_Trial_ticksWith_10 : decode prog_5_method_8_code 10 = .ok (.iaload, 1) := by decide +kernel
theorem nd_Trial_ticksWith_11 : decode prog_5_method_8_code 11 = .ok (.iconst 3, 1) := by decide +kernel
theorem nd_Trial_ticksWith_12 : decode prog_5_method_8_code 12 = .ok (.invokestatic 115, 3) := by decide +kernel
theorem nd_Trial_ticksWith_15 : decode prog_5_method_8_code 15 = .ok (.ireturn, 1) := by decide +kernel
abbrev pq_Trial_ticksWith (dC : Nat → ClassId) (dI : Nat → Nat → Nat) (cI cZ cO : ClassId) (apl atr atb : Nat → Nat) (pl : cr_S) (tr : cr_S) (tb : cr_S) (x1 : Int32) (x2 : Int32) (A : Nat → Prop) : Array Value → State → Outcome → State → Prop :=
  va_Qi (fun (r : Int32) (_ : Unit) => r = md_Trial_ticksWith pl tr tb x1 x2) (fun (_ : Unit) t => va_P (dC, dI) vwCl (cw_Plan cI cZ cO apl pl ++ cw_Trial cI cZ cO atr apl atb tr ++ cw_Board cI cZ cO atb apl tb) t.heap ∧ va_K (dC, dI) vwCl [(cI, .int), (cZ, .boolean), (cO, .array .int)] t ∧ va_D A (cw_Plan cI cZ cO apl pl ++ cw_Trial cI cZ cO atr apl atb tr ++ cw_Board cI cZ cO atb apl tb)) A
set_option maxHeartbeats 4000000 in
set_option maxRecDepth 100000 in
theorem ct_Trial_ticksWith (l : Launch) (dC : Nat → ClassId) (dI : Nat → Nat → Nat) (cI cZ cO : ClassId) (apl atr atb : Nat → Nat) (sz : Nat) (pl : cr_S) (tr : cr_S) (tb : cr_S) (x1 : Int32) (x2 : Int32) (hR_tb : cr_RBoard tb) (hR_pl : cr_RPlan pl) (hx1 : 0 ≤ x1.toInt ∧ x1.toInt ≤ 10) (hx2 : 0 ≤ x2.toInt ∧ x2.toInt ≤ 8) : Met l ny_Trial_ticksWith nw_Trial_ticksWith ({ frames := 1, cells := 0, slots := 0, locals := 21 } : Room) (va_Pc [.ref (atr 0), .int x1, .int x2] (fun U => U.heap.size = sz ∧ va_P (dC, dI) vwCl (cw_Plan cI cZ cO apl pl ++ cw_Trial cI cZ cO atr apl atb tr ++ cw_Board cI cZ cO atb apl tb) U.heap ∧ va_K (dC, dI) vwCl [(cI, .int), (cZ, .boolean), (cO, .array .int)] U ∧ va_D (fun _ => True) (cw_Plan cI cZ cO apl pl ++ cw_Trial cI cZ cO atr apl atb tr ++ cw_Board cI cZ cO atb apl tb))) (pq_Trial_ticksWith dC dI cI cZ cO apl atr atb pl tr tb x1 x2 (va_A (cw_Plan cI cZ cO apl pl ++ cw_Trial cI cZ cO atr apl atb tr ++ cw_Board cI cZ cO atb apl tb) sz)) 0 0 (va_A (cw_Plan cI cZ cO apl pl ++ cw_Trial cI cZ cO atr apl atb tr ++ cw_Board cI cZ cO atb apl tb) sz) := by
  refine Met.ofW (cc := prog_5_method_8_code) (maxL := 3) (ret := (some .int)) (by decide) rfl ?_
  intro p e s m args below meth c s₁ B hml hv
  obtain ⟨rfl, hsz, hP, hK, hD0⟩ := hv
  have hx := B.exec
  have hb := B.bytes
  have hr := B.returns
  have hts0 := atoms_spec (ws := nw_Trial_ticksWith) B.pre
  have hts : ∀ w ∈ ng_tbl, w.before ([.ref (atr 0), .int x1, .int x2] : List Value).toArray s = true := fun w h => hts0 w (List.mem_cons_of_mem _ h)
  have hown : s.vm.findClass "CeilingRows$Trial" = some m.cls := findClass_of_methodNamed B.named
  have hlocks := B.notSynchronized
  subst hsz
  have hD := hD0.self (sz := s.heap.size)
  generalize hAe : va_A (cw_Plan cI cZ cO apl pl ++ cw_Trial cI cZ cO atr apl atb tr ++ cw_Board cI cZ cO atb apl tb) s.heap.size = A at hD ⊢
  have hA : ∀ q : Nat, s.heap.size ≤ q → A q := fun q h => by rw [← hAe]; exact Or.inr h
  have hS : va_S A s.heap s.heap [] := va_S.rf
  have hP : va_P (dC, dI) vwCl (cw_Plan cI cZ cO apl pl ++ cw_Trial cI cZ cO atr apl atb tr ++ cw_Board cI cZ cO atb apl tb) s.heap := hP
  have hl := lv_entry ([.ref (atr 0), .int x1, .int x2]) (n := 3) (Nat.le_of_ble_eq_true rfl)
  rw [lg_entry_eq]
  generalize (lg_sl ([.ref (atr 0), .int x1, .int x2]) ++ List.replicate (3 - (lg_sl ([.ref (atr 0), .int x1, .int x2])).length) Slot.unset).toArray = ls at hl ⊢
  have hl : lv_has ls 3 [(0, .ref (atr 0)), (1, .int x1), (2, .int x2)] := hl
  have k_3 : (3 : Int32).toInt = 3 := by decide
  obtain ⟨tgt, hT⟩ : ∃ z, md_Trial_ticksWith pl tr tb x1 x2 = z := ⟨_, rfl⟩
  have hM := hT
  unfold md_Trial_ticksWith at hM
  refine lv_aload_n hx hb nd_Trial_ticksWith_0 rfl (lv_at hl 0 rfl) ?_
  refine va_get (D := (dC, dI)) (ci := 3) (v := .ref (apl 0)) (C := "CeilingRows$Trial") (T := nf_Trial) (N := 5) hx hb hts nin_Trial hown hK hP 17 rfl rfl 0 (by decide) (hts _ tw_122) (fun _ h9 => h9) rfl nd_Trial_ticksWith_1 ?_
  refine va_get (D := (dC, dI)) (ci := 0) (v := .ref (apl 5)) (C := "CeilingRows$Plan") (T := nf_Plan) (N := 7) hx hb hts nin_Plan hown hK hP 0 rfl rfl 6 (by decide) (hts _ tw_44) (fun _ h9 => h9) rfl nd_Trial_ticksWith_4 ?_
  refine lv_iload_n hx hb nd_Trial_ticksWith_7 rfl (lv_at hl 1 rfl) ?_
  have b_1 : vp_in x1 11 := vp_in_iff.mpr (by omega)
  have g_2 : x1.toNatClampNeg < 11 := cr_ix b_1
  refine ga_ald hx hb hK hP 5 2 rfl rfl b_1 g_2 nd_Trial_ticksWith_8 ?_
  refine lv_iload_n hx hb nd_Trial_ticksWith_9 rfl (lv_at hl 2 rfl) ?_
  have b_3 : vp_in x2 9 := vp_in_iff.mpr (by omega)
  refine va_iald hx hb hK hP (6 + x1.toNatClampNeg) 0 (cr_getL (cr_getL (cg_Plan_6 cI cZ cO apl pl _ g_2))) rfl b_3 nd_Trial_ticksWith_10 ?_
  refine lv_iconst (v := 3) hx hb nd_Trial_ticksWith_11 (by decide) ?_
  refine va_mmin hx hb (by rw [hml]; exact hl.1.symm) hown (hts _ tw_381) (hts _ tw_382) (hts _ tw_7) (hts _ tw_383) (Nat.le_of_ble_eq_true rfl) (Nat.le_of_ble_eq_true rfl) (Nat.zero_le _) (Nat.zero_le _) nd_Trial_ticksWith_12 ?_
  exact W.iret (v := (cr_min (pl (6 + x1.toNatClampNeg) x2.toNatClampNeg) (3 : Int32))) hx hb hr (fun t ht hW => ⟨⟨(cr_min (pl (6 + x1.toNatClampNeg) x2.toNatClampNeg) (3 : Int32)), (), rfl, by rw [hT, ← hM], by rw [ht]; exact hP, va_K.moved hW.alike hK, hD⟩, hS.F ht⟩) hS.2.2 nd_Trial_ticksWith_15

theorem nd_Trial_ticksOf_0 : decode prog_5_method_9_code 0 = .ok (.iconst 1, 1) := by decide +kernel
theorem nd_Trial_ticksOf_1 : decode prog_5_method_9_code 1 = .ok (.istore_n 2, 1) := by decide +kernel
theorem nd_Trial_ticksOf_2 : decode prog_5_method_9_code 2 = .ok (.iconst 1, 1) := by decide +kernel
theorem nd_Trial_ticksOf_3 : decode prog_5_method_9_code 3 = .ok (.istore_n 3, 1) := by decide +kernel
theorem nd_Trial_ticksOf_4 : decode prog_5_method_9_code 4 = .ok (.iload_n 3, 1) := by decide +kernel
theorem nd_Trial_ticksOf_5 : decode prog_5_method_9_code 5 = .ok (.aload_n 0, 1) := by decide +kernel
theorem nd_Trial_ticksOf_6 : decode prog_5_method_9_code 6 = .ok (.getfield 20, 3) := by decide +kernel
theorem nd_Trial_ticksOf_9 : decode prog_5_method_9_code 9 = .ok (.getfield 118, 3) := by decide +kernel
theorem nd_Trial_ticksOf_12 : decode prog_5_method_9_code 12 = .ok (.if_icmp .gt (32), 3) := by decide +kernel
theorem nd_Trial_ticksOf_15 : decode prog_5_method_9_code 15 = .ok (.aload_n 0, 1) := by decide +kernel
theorem nd_Trial_ticksOf_16 : decode prog_5_method_9_code 16 = .ok (.getfield 20, 3) := by decide +kernel
theorem nd_Trial_ticksOf_19 : decode prog_5_method_9_code 19 = .ok (.iload_n 1, 1) := by decide +kernel
theorem nd_Trial_ticksOf_20 : decode prog_5_method_9_code 20 = .ok (.iload_n 3, 1) := by decide +kernel
theorem nd_Trial_ticksOf_21 : decode prog_5_method_9_code 21 = .ok (.invokevirtual 121, 3) := by decide +kernel
theorem nd_Trial_ticksOf_24 : decode prog_5_method_9_code 24 = .ok (.ifCond .eq (14), 3) := by decide +kernel
theorem nd_Trial_ticksOf_27 : decode prog_5_method_9_code 27 = .ok (.iload_n 2, 1) := by decide +kernel
theorem nd_Trial_ticksOf_28 : decode prog_5_method_9_code 28 = .ok (.aload_n 0, 1) := by decide +kernel
theorem nd_Trial_ticksOf_29 : decode prog_5_method_9_code 29 = .ok (.iload_n 1, 1) := by decide +kernel
theorem nd_Trial_ticksOf_30 : decode prog_5_method_9_code 30 = .ok (.iload_n 3, 1) := by decide +kernel
theorem nd_Trial_ticksOf_31 : decode prog_5_method_9_code 31 = .ok (.invokevirtual 124, 3) := by decide +kernel
theorem nd_Trial_ticksOf_34 : decode prog_5_method_9_code 34 = .ok (.iconst 1, 1) := by decide +kernel
theorem nd_Trial_ticksOf_35 : decode prog_5_method_9_code 35 = .ok (.iadd, 1) := by decide +kernel
theorem nd_Trial_ticksOf_36 : decode prog_5_method_9_code 36 = .ok (.iadd, 1) := by decide +kernel
theorem nd_Trial_ticksOf_37 : decode prog_5_method_9_code 37 = .ok (.istore_n 2, 1) := by decide +kernel
theorem nd_Trial_ticksOf_38 : decode prog_5_method_9_code 38 = .ok (.iinc 3 1, 3) := by decide +kernel
theorem nd_Trial_ticksOf_41 : decode prog_5_method_9_code 41 = .ok (.goto (-37), 3) := by decide +kernel
theorem nd_Trial_ticksOf_44 : decode prog_5_method_9_code 44 = .ok (.iload_n 2, 1) := by decide +kernel
theorem nd_Trial_ticksOf_45 : decode prog_5_method_9_code 45 = .ok (.ireturn, 1) := by decide +kernel
abbrev pq_Trial_ticksOf (dC : Nat → ClassId) (dI : Nat → Nat → Nat) (cI cZ cO : ClassId) (apl atr atb : Nat → Nat) (pl : cr_S) (tr : cr_S) (tb : cr_S) (x1 : Int32) (A : Nat → Prop) : Array Value → State → Outcome → State → Prop :=
  va_Qi (fun (r : Int32) (_ : Unit) => r = md_Trial_ticksOf pl tr tb x1) (fun (_ : Unit) t => va_P (dC, dI) vwCl (cw_Plan cI cZ cO apl pl ++ cw_Trial cI cZ cO atr apl atb tr ++ cw_Board cI cZ cO atb apl tb) t.heap ∧ va_K (dC, dI) vwCl [(cI, .int), (cZ, .boolean), (cO, .array .int)] t ∧ va_D A (cw_Plan cI cZ cO apl pl ++ cw_Trial cI cZ cO atr apl atb tr ++ cw_Board cI cZ cO atb apl tb)) A
set_option maxHeartbeats 4000000 in
set_option maxRecDepth 100000 in
theorem ct_Trial_ticksOf (l : Launch) (dC : Nat → ClassId) (dI : Nat → Nat → Nat) (cI cZ cO : ClassId) (apl atr atb : Nat → Nat) (sz : Nat) (pl : cr_S) (tr : cr_S) (tb : cr_S) (x1 : Int32) (hR_tb : cr_RBoard tb) (hR_pl : cr_RPlan pl) (hx1 : 0 ≤ x1.toInt ∧ x1.toInt ≤ 10) : Met l ny_Trial_ticksOf nw_Trial_ticksOf ({ frames := 2, cells := 0, slots := 0, locals := 43 } : Room) (va_Pc [.ref (atr 0), .int x1] (fun U => U.heap.size = sz ∧ va_P (dC, dI) vwCl (cw_Plan cI cZ cO apl pl ++ cw_Trial cI cZ cO atr apl atb tr ++ cw_Board cI cZ cO atb apl tb) U.heap ∧ va_K (dC, dI) vwCl [(cI, .int), (cZ, .boolean), (cO, .array .int)] U ∧ va_D (fun _ => True) (cw_Plan cI cZ cO apl pl ++ cw_Trial cI cZ cO atr apl atb tr ++ cw_Board cI cZ cO atb apl tb))) (pq_Trial_ticksOf dC dI cI cZ cO apl atr atb pl tr tb x1 (va_A (cw_Plan cI cZ cO apl pl ++ cw_Trial cI cZ cO atr apl atb tr ++ cw_Board cI cZ cO atb apl tb) sz)) 0 0 (va_A (cw_Plan cI cZ cO apl pl ++ cw_Trial cI cZ cO atr apl atb tr ++ cw_Board cI cZ cO atb apl tb) sz) := by
  refine Met.ofW (cc := prog_5_method_9_code) (maxL := 4) (ret := (some .int)) (by decide) rfl ?_
  intro p e s m args below meth c s₁ B hml hv
  obtain ⟨rfl, hsz, hP, hK, hD0⟩ := hv
  have hx := B.exec
  have hb := B.bytes
  have hr := B.returns
  have hts0 := atoms_spec (ws := nw_Trial_ticksOf) B.pre
  have hts : ∀ w ∈ ng_tbl, w.before ([.ref (atr 0), .int x1] : List Value).toArray s = true := fun w h => hts0 w (List.mem_cons_of_mem _ h)
  have hown : s.vm.findClass "CeilingRows$Trial" = some m.cls := findClass_of_methodNamed B.named
  have hlocks := B.notSynchronized
  subst hsz
  have hD := hD0.self (sz := s.heap.size)
  generalize hAe : va_A (cw_Plan cI cZ cO apl pl ++ cw_Trial cI cZ cO atr apl atb tr ++ cw_Board cI cZ cO atb apl tb) s.heap.size = A at hD ⊢
  have hA : ∀ q : Nat, s.heap.size ≤ q → A q := fun q h => by rw [← hAe]; exact Or.inr h
  have hS : va_S A s.heap s.heap [] := va_S.rf
  have hP : va_P (dC, dI) vwCl (cw_Plan cI cZ cO apl pl ++ cw_Trial cI cZ cO atr apl atb tr ++ cw_Board cI cZ cO atb apl tb) s.heap := hP
  have hl := lv_entry ([.ref (atr 0), .int x1]) (n := 4) (Nat.le_of_ble_eq_true rfl)
  rw [lg_entry_eq]
  generalize (lg_sl ([.ref (atr 0), .int x1]) ++ List.replicate (4 - (lg_sl ([.ref (atr 0), .int x1])).length) Slot.unset).toArray = ls at hl ⊢
  have hl : lv_has ls 4 [(0, .ref (atr 0)), (1, .int x1)] := hl
  have k_0 : (0 : Int32).toInt = 0 := by decide
  have k_1 : (1 : Int32).toInt = 1 := by decide
  obtain ⟨tgt, hT⟩ : ∃ z, md_Trial_ticksOf pl tr tb x1 = z := ⟨_, rfl⟩
  have hM := hT
  unfold md_Trial_ticksOf at hM
  refine lv_iconst (v := 1) hx hb nd_Trial_ticksOf_0 (by decide) ?_
  refine lv_istore_n (lv' := [(2, .int (1 : Int32)), (0, .ref (atr 0)), (1, .int x1)]) hx hb nd_Trial_ticksOf_1 rfl hl (by decide) rfl (fun ls hl => ?_)
  refine lv_iconst (v := 1) hx hb nd_Trial_ticksOf_2 (by decide) ?_
  refine lv_istore_n (lv' := [(3, .int (1 : Int32)), (2, .int (1 : Int32)), (0, .ref (atr 0)), (1, .int x1)]) hx hb nd_Trial_ticksOf_3 rfl hl (by decide) rfl (fun ls hl => ?_)
  have hl := lv_sub hl [2, 3, 1, 0] rfl
  have lp_4 : ∀ (n_4 : Nat) (v2_4 : Int32) (v3_4 : Int32), (1 ≤ v3_4.toInt ∧ v3_4.toInt ≤ 9) → (9 < v3_4.toInt + (n_4 : Int)) → lo_Trial_ticksOf_4 pl tr tb x1 n_4 v2_4 v3_4 = tgt → ∀ (H : Heap) (locs : List Loc), va_P (dC, dI) vwCl (cw_Plan cI cZ cO apl pl ++ cw_Trial cI cZ cO atr apl atb tr ++ cw_Board cI cZ cO atb apl tb) H → va_D A (cw_Plan cI cZ cO apl pl ++ cw_Trial cI cZ cO atr apl atb tr ++ cw_Board cI cZ cO atb apl tb) → va_S A s.heap H locs → ∀ ls : Array Slot, lv_has ls 4 [(0, .ref (atr 0)), (1, .int x1), (2, .int v2_4), (3, .int v3_4)] → W p l e (headSpec nw_Trial_ticksOf ({ frames := 2, cells := 0, slots := 0, locals := 43 } : Room)).room s m ([.ref (atr 0), .int x1] : List Value).toArray below meth c H locs 0 0 (MQ below (pq_Trial_ticksOf dC dI cI cZ cO apl atr atb pl tr tb x1 A) ([.ref (atr 0), .int x1] : List Value).toArray s 0 0 A) (F0 m 4 ls []) := by
    intro n_4
    induction n_4 with
    | zero =>
      intro v2_4 v3_4 hv3_4 hn_4
      exfalso; omega
    | succ n_4 ih_4 =>
      intro v2_4 v3_4 hv3_4 hn_4 hM H locs hP hD hS ls hl
      have hn_4 : 9 < v3_4.toInt + ((n_4 : Int) + 1) := by omega
      rw [lo_Trial_ticksOf_4] at hM
      refine lv_iload_n hx hb nd_Trial_ticksOf_4 rfl (lv_at hl 3 rfl) ?_
      refine lv_aload_n hx hb nd_Trial_ticksOf_5 rfl (lv_at hl 0 rfl) ?_
      refine va_get (D := (dC, dI)) (ci := 3) (v := .ref (apl 0)) (C := "CeilingRows$Trial") (T := nf_Trial) (N := 5) hx hb hts nin_Trial hown hK hP 17 rfl rfl 0 (by decide) (hts _ tw_122) (fun _ h9 => h9) rfl nd_Trial_ticksOf_6 ?_
      refine va_get (D := (dC, dI)) (ci := 0) (v := .int (pl 0 1)) (C := "CeilingRows$Plan") (T := nf_Plan) (N := 7) hx hb hts nin_Plan hown hK hP 0 rfl rfl 1 (by decide) (hts _ tw_33) (fun _ h9 => h9) rfl nd_Trial_ticksOf_9 ?_
      have f_1 := cr_rfo hR_pl.2.1
      refine lv_icmp_gt (tgt := 44) hx hb nd_Trial_ticksOf_12 (by decide) (fun c_2 => ?_) (fun c_2 => ?_)
      · have c_2t := cr_lt c_2
        rw [if_pos c_2] at hM
        refine lv_iload_n hx hb nd_Trial_ticksOf_44 rfl (lv_at hl 2 rfl) ?_
        exact W.iret (v := v2_4) hx hb hr (fun t ht hW => ⟨⟨v2_4, (), rfl, by rw [hT, ← hM], by rw [ht]; exact hP, va_K.moved hW.alike hK, hD⟩, hS.F ht⟩) hS.2.2 nd_Trial_ticksOf_45
      · have c_2t := cr_nlt c_2
        rw [if_neg c_2] at hM
        refine lv_aload_n hx hb nd_Trial_ticksOf_15 rfl (lv_at hl 0 rfl) ?_
        refine va_get (D := (dC, dI)) (ci := 3) (v := .ref (apl 0)) (C := "CeilingRows$Trial") (T := nf_Trial) (N := 5) hx hb hts nin_Trial hown hK hP 17 rfl rfl 0 (by decide) (hts _ tw_122) (fun _ h9 => h9) rfl nd_Trial_ticksOf_16 ?_
        refine lv_iload_n hx hb nd_Trial_ticksOf_19 rfl (lv_at hl 1 rfl) ?_
        refine lv_iload_n hx hb nd_Trial_ticksOf_20 rfl (lv_at hl 3 rfl) ?_
        have hPc := hP.sub (ws' := cw_Plan cI cZ cO apl pl) [0, 1, 2, 3, 4, 5, 6, 7, 8, 9, 10, 11, 12, 13, 14, 15, 16] rfl
        have hDc := hD.sub (ws' := cw_Plan cI cZ cO apl pl) [0, 1, 2, 3, 4, 5, 6, 7, 8, 9, 10, 11, 12, 13, 14, 15, 16] (by decide) rfl
        have hFc := va_free (wc := cw_Plan cI cZ cO apl pl) hD hS hA [0, 1, 2, 3, 4, 5, 6, 7, 8, 9, 10, 11, 12, 13, 14, 15, 16] rfl
        refine va_calli (va_runV (As := [.int x1, .int v3_4]) (rest := []) ⟨hx, hb, hml, hown, hts⟩ (ct_Plan_isUsedBy l dC dI cI cZ cO apl H.size pl x1 v3_4 hR_pl (by omega) (by omega)) (cwV 2 hts (ng_V tw_376 tw_199 tw_200 tw_2 tw_201) rfl rfl rfl (by decide +kernel) ⟨Nat.le_of_ble_eq_true rfl, Nat.le_of_ble_eq_true rfl⟩) ⟨fun a U g mk q => by obtain ⟨q0, q1, qP, qK, qD⟩ := q; exact ⟨q0, q1, qP, va_K.moved (u := U) (U := U.calling g mk a) (Vm.Alike.refl U.vm) qK, qD⟩, va_recv hK hPc (ci := 0) (q0 := 0) rfl rfl, fun U hU hW => ⟨rfl, by rw [hU], by rw [hU]; exact hPc, va_K.moved hW.alike hK, hDc.weaken (fun _ _ _ _ => trivial)⟩⟩ rfl rfl hl.1 rfl (lv_room (Nat.le_of_ble_eq_true rfl)) nd_Trial_ticksOf_21 ⟨Nat.zero_le _, Nat.zero_le _⟩) hS (fun q _ h => hFc q h) hFc (fun r_3 u t H1 locs ht hvm hw hB hz1 hk1 hS => ?_)
        obtain ⟨hP1, hK1, hD1⟩ := hB
        rw [ht] at hP1
        have w_4 := hw
        try rw [← w_4] at hM
        obtain ⟨hP, hD⟩ := va_join (wr := cw_Trial cI cZ cO atr apl atb tr ++ cw_Board cI cZ cO atb apl tb) (w1 := cw_Plan cI cZ cO apl pl) hP hD [0, 1, 2, 3, 4, 5, 6, 7, 8, 9, 10, 11, 12, 13, 14, 15, 16] [17, 18, 19, 20, 21, 22, 23, 24, 25, 26, 27, 28, 29, 30, 31, 32, 33, 34, 35, 36] rfl rfl (by decide) (by decide) hk1 hFc hP1 hD1
        have hP := hP.sub (ws' := cw_Plan cI cZ cO apl pl ++ cw_Trial cI cZ cO atr apl atb tr ++ cw_Board cI cZ cO atb apl tb) [20, 21, 22, 23, 24, 25, 26, 27, 28, 29, 30, 31, 32, 33, 34, 35, 36, 0, 1, 2, 3, 4, 5, 6, 7, 8, 9, 10, 11, 12, 13, 14, 15, 16, 17, 18, 19] rfl
        have hD := hD.sub (ws' := cw_Plan cI cZ cO apl pl ++ cw_Trial cI cZ cO atr apl atb tr ++ cw_Board cI cZ cO atb apl tb) [20, 21, 22, 23, 24, 25, 26, 27, 28, 29, 30, 31, 32, 33, 34, 35, 36, 0, 1, 2, 3, 4, 5, 6, 7, 8, 9, 10, 11, 12, 13, 14, 15, 16, 17, 18, 19] (by decide) rfl
        generalize H1 = H at hP hS ⊢
        refine lv_if_eq (tgt := 38) hx hb nd_Trial_ticksOf_24 (by decide) (fun c_5 => ?_) (fun c_5 => ?_)
        · have c_5t := cr_eq c_5
          rw [if_pos c_5] at hM
          have e_6 : (v3_4 + (1 : Int32)).toInt = v3_4.toInt + (1 : Int32).toInt := cr_add (by omega)
          refine lv_iinc (v := (v3_4 + (1 : Int32))) (lv' := [(3, .int (v3_4 + (1 : Int32))), (0, .ref (atr 0)), (1, .int x1), (2, .int v2_4)]) hx hb nd_Trial_ticksOf_38 hl (k := 3) rfl (by rfl) (by decide) rfl (fun ls hl => ?_)
          refine lv_goto (tgt := 4) hx hb nd_Trial_ticksOf_41 (by decide) ?_
          exact ih_4 v2_4 (v3_4 + (1 : Int32)) (by omega) (by omega) hM _ _ hP hD hS _ (lv_sub hl [1, 2, 3, 0] rfl)
        · have c_5t := cr_ne c_5
          rw [if_neg c_5] at hM
          refine lv_iload_n hx hb nd_Trial_ticksOf_27 rfl (lv_at hl 2 rfl) ?_
          refine lv_aload_n hx hb nd_Trial_ticksOf_28 rfl (lv_at hl 0 rfl) ?_
          refine lv_iload_n hx hb nd_Trial_ticksOf_29 rfl (lv_at hl 1 rfl) ?_
          refine lv_iload_n hx hb nd_Trial_ticksOf_30 rfl (lv_at hl 3 rfl) ?_
          have hPc := hP
          have hDc := hD
          have hFc := va_free (wc := cw_Plan cI cZ cO apl pl ++ cw_Trial cI cZ cO atr apl atb tr ++ cw_Board cI cZ cO atb apl tb) hD hS hA [0, 1, 2, 3, 4, 5, 6, 7, 8, 9, 10, 11, 12, 13, 14, 15, 16, 17, 18, 19, 20, 21, 22, 23, 24, 25, 26, 27, 28, 29, 30, 31, 32, 33, 34, 35, 36] rfl
          refine va_calli (va_runV (As := [.int x1, .int v3_4]) (rest := [.int v2_4]) ⟨hx, hb, hml, hown, hts⟩ (ct_Trial_ticksWith l dC dI cI cZ cO apl atr atb H.size pl tr tb x1 v3_4 hR_tb hR_pl (by omega) (by omega)) (cwV 2 hts (ng_V tw_377 tw_379 tp_14 tw_5 tw_380) rfl rfl rfl (by decide +kernel) ⟨Nat.le_of_ble_eq_true rfl, Nat.le_of_ble_eq_true rfl⟩) ⟨fun a U g mk q => by obtain ⟨q0, q1, qP, qK, qD⟩ := q; exact ⟨q0, q1, qP, va_K.moved (u := U) (U := U.calling g mk a) (Vm.Alike.refl U.vm) qK, qD⟩, va_recv hK hPc (ci := 3) (q0 := 17) rfl rfl, fun U hU hW => ⟨rfl, by rw [hU], by rw [hU]; exact hPc, va_K.moved hW.alike hK, hDc.weaken (fun _ _ _ _ => trivial)⟩⟩ rfl rfl hl.1 rfl (lv_room (Nat.le_of_ble_eq_true rfl)) nd_Trial_ticksOf_31 ⟨Nat.zero_le _, Nat.zero_le _⟩) hS (fun q _ h => hFc q h) hFc (fun r_7 u t H1 locs ht hvm hw hB hz1 hk1 hS => ?_)
          obtain ⟨hP1, hK1, hD1⟩ := hB
          rw [ht] at hP1
          have w_8 := hw
          try rw [← w_8] at hM
          have hP := hP1
          have hD := cr_Dw hD1 hFc
          generalize H1 = H at hP hS ⊢
          refine lv_iconst (v := 1) hx hb nd_Trial_ticksOf_34 (by decide) ?_
          refine lv_iadd hx hb nd_Trial_ticksOf_35 ?_
          refine lv_iadd hx hb nd_Trial_ticksOf_36 ?_
          refine lv_istore_n (lv' := [(2, .int (v2_4 + (r_7 + (1 : Int32)))), (0, .ref (atr 0)), (1, .int x1), (3, .int v3_4)]) hx hb nd_Trial_ticksOf_37 rfl hl (by decide) rfl (fun ls hl => ?_)
          have e_9 : (v3_4 + (1 : Int32)).toInt = v3_4.toInt + (1 : Int32).toInt := cr_add (by omega)
          refine lv_iinc (v := (v3_4 + (1 : Int32))) (lv' := [(3, .int (v3_4 + (1 : Int32))), (2, .int (v2_4 + (r_7 + (1 : Int32)))), (0, .ref (atr 0)), (1, .int x1)]) hx hb nd_Trial_ticksOf_38 hl (k := 3) rfl (by rfl) (by decide) rfl (fun ls hl => ?_)
          refine lv_goto (tgt := 4) hx hb nd_Trial_ticksOf_41 (by decide) ?_
          exact ih_4 (v2_4 + (r_7 + (1 : Int32))) (v3_4 + (1 : Int32)) (by omega) (by omega) hM _ _ hP hD hS _ (lv_sub hl [2, 3, 1, 0] rfl)
  exact lp_4 9 (1 : Int32) (1 : Int32) (by omega) (by omega) hM _ _ hP hD hS _ hl

theorem nd_Trial_resourceAt_0 : decode prog_5_method_10_code 0 = .ok (.iconst 1, 1) := by decide +kernel
theorem nd_Trial_resourceAt_1 : decode prog_5_method_10_code 1 = .ok (.istore_n 3, 1) := by decide +kernel
theorem nd_Trial_resourceAt_2 : decode prog_5_method_10_code 2 = .ok (.iconst 1, 1) := by decide +kernel
theorem nd_Trial_resourceAt_3 : decode prog_5_method_10_code 3 = .ok (.istore 4, 2) := by decide +kernel
theorem nd_Trial_resourceAt_5 : decode prog_5_method_10_code 5 = .ok (.iload 4, 2) := by decide +kernel
theorem nd_Trial_resourceAt_7 : decode prog_5_method_10_code 7 = .ok (.aload_n 0, 1) := by decide +kernel
theorem nd_Trial_resourceAt_8 : decode prog_5_method_10_code 8 = .ok (.getfield 20, 3) := by decide +kernel
theorem nd_Trial_resourceAt_11 : decode prog_5_method_10_code 11 = .ok (.getfield 118, 3) := by decide +kernel
theorem nd_Trial_resourceAt_14 : decode prog_5_method_10_code 14 = .ok (.if_icmp .gt (52), 3) := by decide +kernel
theorem nd_Trial_resourceAt_17 : decode prog_5_method_10_code 17 = .ok (.aload_n 0, 1) := by decide +kernel
theorem nd_Trial_resourceAt_18 : decode prog_5_method_10_code 18 = .ok (.getfield 20, 3) := by decide +kernel
theorem nd_Trial_resourceAt_21 : decode prog_5_method_10_code 21 = .ok (.iload_n 1, 1) := by decide +kernel
theorem nd_Trial_resourceAt_22 : decode prog_5_method_10_code 22 = .ok (.iload 4, 2) := by decide +kernel
theorem nd_Trial_resourceAt_24 : decode prog_5_method_10_code 24 = .ok (.invokevirtual 121, 3) := by decide +kernel
theorem nd_Trial_resourceAt_27 : decode prog_5_method_10_code 27 = .ok (.ifCond .eq (33), 3) := by decide +kernel
theorem nd_Trial_resourceAt_30 : decode prog_5_method_10_code 30 = .ok (.iload_n 3, 1) := by decide +kernel
theorem nd_Trial_resourceAt_31 : decode prog_5_method_10_code 31 = .ok (.aload_n 0, 1) := by decide +kernel
theorem nd_Trial_resourceAt_32 : decode prog_5_method_10_code 32 = .ok (.iload_n 1, 1) := by decide +kernel
theorem nd_Trial_resourceAt_33 : decode prog_5_method_10_code 33 = .ok (.iload 4, 2) := by decide +kernel
theorem nd_Trial_resourceAt_35 : decode prog_5_method_10_code 35 = .ok (.invokevirtual 124, 3) := by decide +kernel
theorem nd_Trial_resourceAt_38 : decode prog_5_method_10_code 38 = .ok (.iadd, 1) := by decide +kernel
theorem nd_Trial_resourceAt_39 : decode prog_5_method_10_code 39 = .ok (.istore 5, 2) := by decide +kernel
theorem nd_Trial_resourceAt_41 : decode prog_5_method_10_code 41 = .ok (.iload_n 2, 1) := by decide +kernel
theorem nd_Trial_resourceAt_42 : decode prog_5_method_10_code 42 = .ok (.iload_n 3, 1) := by decide +kernel
theorem nd_Trial_resourceAt_43 : decode prog_5_method_10_code 43 = .ok (.if_icmp .lt (12), 3) := by decide +kernel
theorem nd_Trial_resourceAt_46 : decode prog_5_method_10_code 46 = .ok (.iload_n 2, 1) := by decide +kernel
theorem nd_Trial_resourceAt_47 : decode prog_5_method_10_code 47 = .ok (.iload 5, 2) := by decide +kernel
theorem nd_Trial_resourceAt_49 : decode prog_5_method_10_code 49 = .ok (.if_icmp .ge (6), 3) := by decide +kernel
theorem nd_Trial_resourceAt_52 : decode prog_5_method_10_code 52 = .ok (.iload 4, 2) := by decide +kernel
theorem nd_Trial_resourceAt_54 : decode prog_5_method_10_code 54 = .ok (.ireturn, 1) := by decide +kernel
theorem nd_Trial_resourceAt_55 : decode prog_5_method_10_code 55 = .ok (.iload 5, 2) := by decide +kernel
theorem nd_Trial_resourceAt_57 : decode prog_5_method_10_code 57 = .ok (.iconst 1, 1) := by decide +kernel
theorem nd_Trial_resourceAt_58 : decode prog_5_method_10_code 58 = .ok (.iadd, 1) := by decide +kernel
theorem nd_Trial_resourceAt_59 : decode prog_5_method_10_code 59 = .ok (.istore_n 3, 1) := by decide +kernel
theorem nd_Trial_resourceAt_60 : decode prog_5_method_10_code 60 = .ok (.iinc 4 1, 3) := by decide +kernel
theorem nd_Trial_resourceAt_63 : decode prog_5_method_10_code 63 = .ok (.goto (-58), 3) := by decide +kernel
theorem nd_Trial_resourceAt_66 : decode prog_5_method_10_code 66 = .ok (.iconst 0, 1) := by decide +kernel
theorem nd_Trial_resourceAt_67 : decode prog_5_method_10_code 67 = .ok (.ireturn, 1) := by decide +kernel
abbrev pq_Trial_resourceAt (dC : Nat → ClassId) (dI : Nat → Nat → Nat) (cI cZ cO : ClassId) (apl atr atb : Nat → Nat) (pl : cr_S) (tr : cr_S) (tb : cr_S) (x1 : Int32) (x2 : Int32) (A : Nat → Prop) : Array Value → State → Outcome → State → Prop :=
  va_Qi (fun (r : Int32) (_ : Unit) => r = md_Trial_resourceAt pl tr tb x1 x2 ∧ (0 ≤ r.toInt ∧ r.toInt ≤ 8)) (fun (_ : Unit) t => va_P (dC, dI) vwCl (cw_Plan cI cZ cO apl pl ++ cw_Trial cI cZ cO atr apl atb tr ++ cw_Board cI cZ cO atb apl tb) t.heap ∧ va_K (dC, dI) vwCl [(cI, .int), (cZ, .boolean), (cO, .array .int)] t ∧ va_D A (cw_Plan cI cZ cO apl pl ++ cw_Trial cI cZ cO atr apl atb tr ++ cw_Board cI cZ cO atb apl tb)) A
set_option maxHeartbeats 4000000 in
set_option maxRecDepth 100000 in
theorem ct_Trial_resourceAt (l : Launch) (dC : Nat → ClassId) (dI : Nat → Nat → Nat) (cI cZ cO : ClassId) (apl atr atb : Nat → Nat) (sz : Nat) (pl : cr_S) (tr : cr_S) (tb : cr_S) (x1 : Int32) (x2 : Int32) (hR_tb : cr_RBoard tb) (hR_pl : cr_RPlan pl) (hx1 : 0 ≤ x1.toInt ∧ x1.toInt ≤ 10) : Met l ny_Trial_resourceAt nw_Trial_resourceAt ({ frames := 2, cells := 0, slots := 0, locals := 43 } : Room) (va_Pc [.ref (atr 0), .int x1, .int x2] (fun U => U.heap.size = sz ∧ va_P (dC, dI) vwCl (cw_Plan cI cZ cO apl pl ++ cw_Trial cI cZ cO atr apl atb tr ++ cw_Board cI cZ cO atb apl tb) U.heap ∧ va_K (dC, dI) vwCl [(cI, .int), (cZ, .boolean), (cO, .array .int)] U ∧ va_D (fun _ => True) (cw_Plan cI cZ cO apl pl ++ cw_Trial cI cZ cO atr apl atb tr ++ cw_Board cI cZ cO atb apl tb))) (pq_Trial_resourceAt dC dI cI cZ cO apl atr atb pl tr tb x1 x2 (va_A (cw_Plan cI cZ cO apl pl ++ cw_Trial cI cZ cO atr apl atb tr ++ cw_Board cI cZ cO atb apl tb) sz)) 0 0 (va_A (cw_Plan cI cZ cO apl pl ++ cw_Trial cI cZ cO atr apl atb tr ++ cw_Board cI cZ cO atb apl tb) sz) := by
  refine Met.ofW (cc := prog_5_method_10_code) (maxL := 6) (ret := (some .int)) (by decide) rfl ?_
  intro p e s m args below meth c s₁ B hml hv
  obtain ⟨rfl, hsz, hP, hK, hD0⟩ := hv
  have hx := B.exec
  have hb := B.bytes
  have hr := B.returns
  have hts0 := atoms_spec (ws := nw_Trial_resourceAt) B.pre
  have hts : ∀ w ∈ ng_tbl, w.before ([.ref (atr 0), .int x1, .int x2] : List Value).toArray s = true := fun w h => hts0 w (List.mem_cons_of_mem _ h)
  have hown : s.vm.findClass "CeilingRows$Trial" = some m.cls := findClass_of_methodNamed B.named
  have hlocks := B.notSynchronized
  subst hsz
  have hD := hD0.self (sz := s.heap.size)
  generalize hAe : va_A (cw_Plan cI cZ cO apl pl ++ cw_Trial cI cZ cO atr apl atb tr ++ cw_Board cI cZ cO atb apl tb) s.heap.size = A at hD ⊢
  have hA : ∀ q : Nat, s.heap.size ≤ q → A q := fun q h => by rw [← hAe]; exact Or.inr h
  have hS : va_S A s.heap s.heap [] := va_S.rf
  have hP : va_P (dC, dI) vwCl (cw_Plan cI cZ cO apl pl ++ cw_Trial cI cZ cO atr apl atb tr ++ cw_Board cI cZ cO atb apl tb) s.heap := hP
  have hl := lv_entry ([.ref (atr 0), .int x1, .int x2]) (n := 6) (Nat.le_of_ble_eq_true rfl)
  rw [lg_entry_eq]
  generalize (lg_sl ([.ref (atr 0), .int x1, .int x2]) ++ List.replicate (6 - (lg_sl ([.ref (atr 0), .int x1, .int x2])).length) Slot.unset).toArray = ls at hl ⊢
  have hl : lv_has ls 6 [(0, .ref (atr 0)), (1, .int x1), (2, .int x2)] := hl
  have k_0 : (0 : Int32).toInt = 0 := by decide
  have k_1 : (1 : Int32).toInt = 1 := by decide
  obtain ⟨tgt, hT⟩ : ∃ z, md_Trial_resourceAt pl tr tb x1 x2 = z := ⟨_, rfl⟩
  have hM := hT
  unfold md_Trial_resourceAt at hM
  refine lv_iconst (v := 1) hx hb nd_Trial_resourceAt_0 (by decide) ?_
  refine lv_istore_n (lv' := [(3, .int (1 : Int32)), (0, .ref (atr 0)), (1, .int x1), (2, .int x2)]) hx hb nd_Trial_resourceAt_1 rfl hl (by decide) rfl (fun ls hl => ?_)
  refine lv_iconst (v := 1) hx hb nd_Trial_resourceAt_2 (by decide) ?_
  refine lv_istore (lv' := [(4, .int (1 : Int32)), (3, .int (1 : Int32)), (0, .ref (atr 0)), (1, .int x1), (2, .int x2)]) hx hb nd_Trial_resourceAt_3 hl (by decide) rfl (fun ls hl => ?_)
  have hl := lv_sub hl [2, 3, 4, 1, 0] rfl
  have lp_5 : ∀ (n_5 : Nat) (v3_5 : Int32) (v4_5 : Int32), (1 ≤ v4_5.toInt ∧ v4_5.toInt ≤ 9) → (9 < v4_5.toInt + (n_5 : Int)) → lo_Trial_resourceAt_5 pl tr tb x1 x2 n_5 v3_5 v4_5 = tgt → ∀ (H : Heap) (locs : List Loc), va_P (dC, dI) vwCl (cw_Plan cI cZ cO apl pl ++ cw_Trial cI cZ cO atr apl atb tr ++ cw_Board cI cZ cO atb apl tb) H → va_D A (cw_Plan cI cZ cO apl pl ++ cw_Trial cI cZ cO atr apl atb tr ++ cw_Board cI cZ cO atb apl tb) → va_S A s.heap H locs → ∀ ls : Array Slot, lv_has ls 6 [(0, .ref (atr 0)), (1, .int x1), (2, .int x2), (3, .int v3_5), (4, .int v4_5)] → W p l e (headSpec nw_Trial_resourceAt ({ frames := 2, cells := 0, slots := 0, locals := 43 } : Room)).room s m ([.ref (atr 0), .int x1, .int x2] : List Value).toArray below meth c H locs 0 0 (MQ below (pq_Trial_resourceAt dC dI cI cZ cO apl atr atb pl tr tb x1 x2 A) ([.ref (atr 0), .int x1, .int x2] : List Value).toArray s 0 0 A) (F0 m 5 ls []) := by
    intro n_5
    induction n_5 with
    | zero =>
      intro v3_5 v4_5 hv4_5 hn_5
      exfalso; omega
    | succ n_5 ih_5 =>
      intro v3_5 v4_5 hv4_5 hn_5 hM H locs hP hD hS ls hl
      have hn_5 : 9 < v4_5.toInt + ((n_5 : Int) + 1) := by omega
      rw [lo_Trial_resourceAt_5] at hM
      refine lv_iload hx hb nd_Trial_resourceAt_5 (lv_at hl 4 rfl) ?_
      refine lv_aload_n hx hb nd_Trial_resourceAt_7 rfl (lv_at hl 0 rfl) ?_
      refine va_get (D := (dC, dI)) (ci := 3) (v := .ref (apl 0)) (C := "CeilingRows$Trial") (T := nf_Trial) (N := 5) hx hb hts nin_Trial hown hK hP 17 rfl rfl 0 (by decide) (hts _ tw_122) (fun _ h9 => h9) rfl nd_Trial_resourceAt_8 ?_
      refine va_get (D := (dC, dI)) (ci := 0) (v := .int (pl 0 1)) (C := "CeilingRows$Plan") (T := nf_Plan) (N := 7) hx hb hts nin_Plan hown hK hP 0 rfl rfl 1 (by decide) (hts _ tw_33) (fun _ h9 => h9) rfl nd_Trial_resourceAt_11 ?_
      have f_1 := cr_rfo hR_pl.2.1
      refine lv_icmp_gt (tgt := 66) hx hb nd_Trial_resourceAt_14 (by decide) (fun c_2 => ?_) (fun c_2 => ?_)
      · have c_2t := cr_lt c_2
        rw [if_pos c_2] at hM
        refine lv_iconst (v := 0) hx hb nd_Trial_resourceAt_66 (by decide) ?_
        exact W.iret (v := (0 : Int32)) hx hb hr (fun t ht hW => ⟨⟨(0 : Int32), (), rfl, ⟨by rw [hT, ← hM], by omega⟩, by rw [ht]; exact hP, va_K.moved hW.alike hK, hD⟩, hS.F ht⟩) hS.2.2 nd_Trial_resourceAt_67
      · have c_2t := cr_nlt c_2
        rw [if_neg c_2] at hM
        refine lv_aload_n hx hb nd_Trial_resourceAt_17 rfl (lv_at hl 0 rfl) ?_
        refine va_get (D := (dC, dI)) (ci := 3) (v := .ref (apl 0)) (C := "CeilingRows$Trial") (T := nf_Trial) (N := 5) hx hb hts nin_Trial hown hK hP 17 rfl rfl 0 (by decide) (hts _ tw_122) (fun _ h9 => h9) rfl nd_Trial_resourceAt_18 ?_
        refine lv_iload_n hx hb nd_Trial_resourceAt_21 rfl (lv_at hl 1 rfl) ?_
        refine lv_iload hx hb nd_Trial_resourceAt_22 (lv_at hl 4 rfl) ?_
        have hPc := hP.sub (ws' := cw_Plan cI cZ cO apl pl) [0, 1, 2, 3, 4, 5, 6, 7, 8, 9, 10, 11, 12, 13, 14, 15, 16] rfl
        have hDc := hD.sub (ws' := cw_Plan cI cZ cO apl pl) [0, 1, 2, 3, 4, 5, 6, 7, 8, 9, 10, 11, 12, 13, 14, 15, 16] (by decide) rfl
        have hFc := va_free (wc := cw_Plan cI cZ cO apl pl) hD hS hA [0, 1, 2, 3, 4, 5, 6, 7, 8, 9, 10, 11, 12, 13, 14, 15, 16] rfl
        refine va_calli (va_runV (As := [.int x1, .int v4_5]) (rest := []) ⟨hx, hb, hml, hown, hts⟩ (ct_Plan_isUsedBy l dC dI cI cZ cO apl H.size pl x1 v4_5 hR_pl (by omega) (by omega)) (cwV 2 hts (ng_V tw_376 tw_199 tw_200 tw_2 tw_201) rfl rfl rfl (by decide +kernel) ⟨Nat.le_of_ble_eq_true rfl, Nat.le_of_ble_eq_true rfl⟩) ⟨fun a U g mk q => by obtain ⟨q0, q1, qP, qK, qD⟩ := q; exact ⟨q0, q1, qP, va_K.moved (u := U) (U := U.calling g mk a) (Vm.Alike.refl U.vm) qK, qD⟩, va_recv hK hPc (ci := 0) (q0 := 0) rfl rfl, fun U hU hW => ⟨rfl, by rw [hU], by rw [hU]; exact hPc, va_K.moved hW.alike hK, hDc.weaken (fun _ _ _ _ => trivial)⟩⟩ rfl rfl hl.1 rfl (lv_room (Nat.le_of_ble_eq_true rfl)) nd_Trial_resourceAt_24 ⟨Nat.zero_le _, Nat.zero_le _⟩) hS (fun q _ h => hFc q h) hFc (fun r_3 u t H1 locs ht hvm hw hB hz1 hk1 hS => ?_)
        obtain ⟨hP1, hK1, hD1⟩ := hB
        rw [ht] at hP1
        have w_4 := hw
        try rw [← w_4] at hM
        obtain ⟨hP, hD⟩ := va_join (wr := cw_Trial cI cZ cO atr apl atb tr ++ cw_Board cI cZ cO atb apl tb) (w1 := cw_Plan cI cZ cO apl pl) hP hD [0, 1, 2, 3, 4, 5, 6, 7, 8, 9, 10, 11, 12, 13, 14, 15, 16] [17, 18, 19, 20, 21, 22, 23, 24, 25, 26, 27, 28, 29, 30, 31, 32, 33, 34, 35, 36] rfl rfl (by decide) (by decide) hk1 hFc hP1 hD1
        have hP := hP.sub (ws' := cw_Plan cI cZ cO apl pl ++ cw_Trial cI cZ cO atr apl atb tr ++ cw_Board cI cZ cO atb apl tb) [20, 21, 22, 23, 24, 25, 26, 27, 28, 29, 30, 31, 32, 33, 34, 35, 36, 0, 1, 2, 3, 4, 5, 6, 7, 8, 9, 10, 11, 12, 13, 14, 15, 16, 17, 18, 19] rfl
        have hD := hD.sub (ws' := cw_Plan cI cZ cO apl pl ++ cw_Trial cI cZ cO atr apl atb tr ++ cw_Board cI cZ cO atb apl tb) [20, 21, 22, 23, 24, 25, 26, 27, 28, 29, 30, 31, 32, 33, 34, 35, 36, 0, 1, 2, 3, 4, 5, 6, 7, 8, 9, 10, 11, 12, 13, 14, 15, 16, 17, 18, 19] (by decide) rfl
        generalize H1 = H at hP hS ⊢
        refine lv_if_eq (tgt := 60) hx hb nd_Trial_resourceAt_27 (by decide) (fun c_5 => ?_) (fun c_5 => ?_)
        · have c_5t := cr_eq c_5
          rw [if_pos c_5] at hM
          have e_6 : (v4_5 + (1 : Int32)).toInt = v4_5.toInt + (1 : Int32).toInt := cr_add (by omega)
          refine lv_iinc (v := (v4_5 + (1 : Int32))) (lv' := [(4, .int (v4_5 + (1 : Int32))), (0, .ref (atr 0)), (1, .int x1), (2, .int x2), (3, .int v3_5)]) hx hb nd_Trial_resourceAt_60 hl (k := 4) rfl (by rfl) (by decide) rfl (fun ls hl => ?_)
          refine lv_goto (tgt := 5) hx hb nd_Trial_resourceAt_63 (by decide) ?_
          exact ih_5 v3_5 (v4_5 + (1 : Int32)) (by omega) (by omega) hM _ _ hP hD hS _ (lv_sub hl [1, 2, 3, 4, 0] rfl)
        · have c_5t := cr_ne c_5
          rw [if_neg c_5] at hM
          refine lv_iload_n hx hb nd_Trial_resourceAt_30 rfl (lv_at hl 3 rfl) ?_
          refine lv_aload_n hx hb nd_Trial_resourceAt_31 rfl (lv_at hl 0 rfl) ?_
          refine lv_iload_n hx hb nd_Trial_resourceAt_32 rfl (lv_at hl 1 rfl) ?_
          refine lv_iload hx hb nd_Trial_resourceAt_33 (lv_at hl 4 rfl) ?_
          have hPc := hP
          have hDc := hD
          have hFc := va_free (wc := cw_Plan cI cZ cO apl pl ++ cw_Trial cI cZ cO atr apl atb tr ++ cw_Board cI cZ cO atb apl tb) hD hS hA [0, 1, 2, 3, 4, 5, 6, 7, 8, 9, 10, 11, 12, 13, 14, 15, 16, 17, 18, 19, 20, 21, 22, 23, 24, 25, 26, 27, 28, 29, 30, 31, 32, 33, 34, 35, 36] rfl
          refine va_calli (va_runV (As := [.int x1, .int v4_5]) (rest := [.int v3_5]) ⟨hx, hb, hml, hown, hts⟩ (ct_Trial_ticksWith l dC dI cI cZ cO apl atr atb H.size pl tr tb x1 v4_5 hR_tb hR_pl (by omega) (by omega)) (cwV 2 hts (ng_V tw_377 tw_379 tp_14 tw_5 tw_380) rfl rfl rfl (by decide +kernel) ⟨Nat.le_of_ble_eq_true rfl, Nat.le_of_ble_eq_true rfl⟩) ⟨fun a U g mk q => by obtain ⟨q0, q1, qP, qK, qD⟩ := q; exact ⟨q0, q1, qP, va_K.moved (u := U) (U := U.calling g mk a) (Vm.Alike.refl U.vm) qK, qD⟩, va_recv hK hPc (ci := 3) (q0 := 17) rfl rfl, fun U hU hW => ⟨rfl, by rw [hU], by rw [hU]; exact hPc, va_K.moved hW.alike hK, hDc.weaken (fun _ _ _ _ => trivial)⟩⟩ rfl rfl hl.1 rfl (lv_room (Nat.le_of_ble_eq_true rfl)) nd_Trial_resourceAt_35 ⟨Nat.zero_le _, Nat.zero_le _⟩) hS (fun q _ h => hFc q h) hFc (fun r_7 u t H1 locs ht hvm hw hB hz1 hk1 hS => ?_)
          obtain ⟨hP1, hK1, hD1⟩ := hB
          rw [ht] at hP1
          have w_8 := hw
          try rw [← w_8] at hM
          have hP := hP1
          have hD := cr_Dw hD1 hFc
          generalize H1 = H at hP hS ⊢
          refine lv_iadd hx hb nd_Trial_resourceAt_38 ?_
          refine lv_istore (lv' := [(5, .int (v3_5 + r_7)), (0, .ref (atr 0)), (1, .int x1), (2, .int x2), (3, .int v3_5), (4, .int v4_5)]) hx hb nd_Trial_resourceAt_39 hl (by decide) rfl (fun ls hl => ?_)
          refine lv_iload_n hx hb nd_Trial_resourceAt_41 rfl (lv_at hl 3 rfl) ?_
          refine lv_iload_n hx hb nd_Trial_resourceAt_42 rfl (lv_at hl 4 rfl) ?_
          refine lv_icmp_lt (tgt := 55) hx hb nd_Trial_resourceAt_43 (by decide) (fun c_9 => ?_) (fun c_9 => ?_)
          · have c_9t := cr_lt c_9
            rw [if_pos c_9] at hM
            refine lv_iload hx hb nd_Trial_resourceAt_55 (lv_at hl 0 rfl) ?_
            refine lv_iconst (v := 1) hx hb nd_Trial_resourceAt_57 (by decide) ?_
            refine lv_iadd hx hb nd_Trial_resourceAt_58 ?_
            refine lv_istore_n (lv' := [(3, .int ((v3_5 + r_7) + (1 : Int32))), (5, .int (v3_5 + r_7)), (0, .ref (atr 0)), (1, .int x1), (2, .int x2), (4, .int v4_5)]) hx hb nd_Trial_resourceAt_59 rfl hl (by decide) rfl (fun ls hl => ?_)
            have e_10 : (v4_5 + (1 : Int32)).toInt = v4_5.toInt + (1 : Int32).toInt := cr_add (by omega)
            refine lv_iinc (v := (v4_5 + (1 : Int32))) (lv' := [(4, .int (v4_5 + (1 : Int32))), (3, .int ((v3_5 + r_7) + (1 : Int32))), (5, .int (v3_5 + r_7)), (0, .ref (atr 0)), (1, .int x1), (2, .int x2)]) hx hb nd_Trial_resourceAt_60 hl (k := 5) rfl (by rfl) (by decide) rfl (fun ls hl => ?_)
            refine lv_goto (tgt := 5) hx hb nd_Trial_resourceAt_63 (by decide) ?_
            exact ih_5 ((v3_5 + r_7) + (1 : Int32)) (v4_5 + (1 : Int32)) (by omega) (by omega) hM _ _ hP hD hS _ (lv_sub hl [3, 4, 5, 1, 0] rfl)
          · have c_9t := cr_nlt c_9
            rw [if_neg c_9] at hM
            refine lv_iload_n hx hb nd_Trial_resourceAt_46 rfl (lv_at hl 3 rfl) ?_
            refine lv_iload hx hb nd_Trial_resourceAt_47 (lv_at hl 0 rfl) ?_
            refine lv_icmp_ge (tgt := 55) hx hb nd_Trial_resourceAt_49 (by decide) (fun c_11 => ?_) (fun c_11 => ?_)
            · have c_11t := cr_le c_11
              rw [if_pos c_11] at hM
              refine lv_iload hx hb nd_Trial_resourceAt_55 (lv_at hl 0 rfl) ?_
              refine lv_iconst (v := 1) hx hb nd_Trial_resourceAt_57 (by decide) ?_
              refine lv_iadd hx hb nd_Trial_resourceAt_58 ?_
              refine lv_istore_n (lv' := [(3, .int ((v3_5 + r_7) + (1 : Int32))), (5, .int (v3_5 + r_7)), (0, .ref (atr 0)), (1, .int x1), (2, .int x2), (4, .int v4_5)]) hx hb nd_Trial_resourceAt_59 rfl hl (by decide) rfl (fun ls hl => ?_)
              have e_12 : (v4_5 + (1 : Int32)).toInt = v4_5.toInt + (1 : Int32).toInt := cr_add (by omega)
              refine lv_iinc (v := (v4_5 + (1 : Int32))) (lv' := [(4, .int (v4_5 + (1 : Int32))), (3, .int ((v3_5 + r_7) + (1 : Int32))), (5, .int (v3_5 + r_7)), (0, .ref (atr 0)), (1, .int x1), (2, .int x2)]) hx hb nd_Trial_resourceAt_60 hl (k := 5) rfl (by rfl) (by decide) rfl (fun ls hl => ?_)
              refine lv_goto (tgt := 5) hx hb nd_Trial_resourceAt_63 (by decide) ?_
              exact ih_5 ((v3_5 + r_7) + (1 : Int32)) (v4_5 + (1 : Int32)) (by omega) (by omega) hM _ _ hP hD hS _ (lv_sub hl [3, 4, 5, 1, 0] rfl)
            · have c_11t := cr_nle c_11
              rw [if_neg c_11] at hM
              refine lv_iload hx hb nd_Trial_resourceAt_52 (lv_at hl 5 rfl) ?_
              exact W.iret (v := v4_5) hx hb hr (fun t ht hW => ⟨⟨v4_5, (), rfl, ⟨by rw [hT, ← hM], by omega⟩, by rw [ht]; exact hP, va_K.moved hW.alike hK, hD⟩, hS.F ht⟩) hS.2.2 nd_Trial_resourceAt_54
  exact lp_5 9 (1 : Int32) (1 : Int32) (by omega) (by omega) hM _ _ hP hD hS _ hl

theorem nd_Trial_noteDelays_0 : decode prog_5_method_6_code 0 = .ok (.iconst 1, 1) := by decide +kernel
theorem nd_Trial_noteDelays_1 : decode prog_5_method_6_code 1 = .ok (.istore_n 3, 1) := by decide +kernel
theorem nd_Trial_noteDelays_2 : decode prog_5_method_6_code 2 = .ok (.iload_n 3, 1) := by decide +kernel
theorem nd_Trial_noteDelays_3 : decode prog_5_method_6_code 3 = .ok (.aload_n 0, 1) := by decide +kernel
theorem nd_Trial_noteDelays_4 : decode prog_5_method_6_code 4 = .ok (.getfield 20, 3) := by decide +kernel
theorem nd_Trial_noteDelays_7 : decode prog_5_method_6_code 7 = .ok (.getfield 40, 3) := by decide +kernel
theorem nd_Trial_noteDelays_10 : decode prog_5_method_6_code 10 = .ok (.if_icmp .gt (48), 3) := by decide +kernel
theorem nd_Trial_noteDelays_13 : decode prog_5_method_6_code 13 = .ok (.aload_n 0, 1) := by decide +kernel
theorem nd_Trial_noteDelays_14 : decode prog_5_method_6_code 14 = .ok (.getfield 29, 3) := by decide +kernel
theorem nd_Trial_noteDelays_17 : decode prog_5_method_6_code 17 = .ok (.getfield 100, 3) := by decide +kernel
theorem nd_Trial_noteDelays_20 : decode prog_5_method_6_code 20 = .ok (.iload_n 3, 1) := by decide +kernel
theorem nd_Trial_noteDelays_21 : decode prog_5_method_6_code 21 = .ok (.iaload, 1) := by decide +kernel
theorem nd_Trial_noteDelays_22 : decode prog_5_method_6_code 22 = .ok (.iconst 1, 1) := by decide +kernel
theorem nd_Trial_noteDelays_23 : decode prog_5_method_6_code 23 = .ok (.if_icmp .ne (29), 3) := by decide +kernel
theorem nd_Trial_noteDelays_26 : decode prog_5_method_6_code 26 = .ok (.aload_n 0, 1) := by decide +kernel
theorem nd_Trial_noteDelays_27 : decode prog_5_method_6_code 27 = .ok (.getfield 20, 3) := by decide +kernel
theorem nd_Trial_noteDelays_30 : decode prog_5_method_6_code 30 = .ok (.iload_n 1, 1) := by decide +kernel
theorem nd_Trial_noteDelays_31 : decode prog_5_method_6_code 31 = .ok (.iload_n 3, 1) := by decide +kernel
theorem nd_Trial_noteDelays_32 : decode prog_5_method_6_code 32 = .ok (.invokevirtual 103, 3) := by decide +kernel
theorem nd_Trial_noteDelays_35 : decode prog_5_method_6_code 35 = .ok (.ifCond .eq (17), 3) := by decide +kernel
theorem nd_Trial_noteDelays_38 : decode prog_5_method_6_code 38 = .ok (.aload_n 0, 1) := by decide +kernel
theorem nd_Trial_noteDelays_39 : decode prog_5_method_6_code 39 = .ok (.getfield 17, 3) := by decide +kernel
theorem nd_Trial_noteDelays_42 : decode prog_5_method_6_code 42 = .ok (.iload_n 3, 1) := by decide +kernel
theorem nd_Trial_noteDelays_43 : decode prog_5_method_6_code 43 = .ok (.aaload, 1) := by decide +kernel
theorem nd_Trial_noteDelays_44 : decode prog_5_method_6_code 44 = .ok (.iload_n 1, 1) := by decide +kernel
theorem nd_Trial_noteDelays_45 : decode prog_5_method_6_code 45 = .ok (.dup2, 1) := by decide +kernel
theorem nd_Trial_noteDelays_46 : decode prog_5_method_6_code 46 = .ok (.iaload, 1) := by decide +kernel
theorem nd_Trial_noteDelays_47 : decode prog_5_method_6_code 47 = .ok (.iconst 1, 1) := by decide +kernel
theorem nd_Trial_noteDelays_48 : decode prog_5_method_6_code 48 = .ok (.iload_n 2, 1) := by decide +kernel
theorem nd_Trial_noteDelays_49 : decode prog_5_method_6_code 49 = .ok (.ishl, 1) := by decide +kernel
theorem nd_Trial_noteDelays_50 : decode prog_5_method_6_code 50 = .ok (.ior, 1) := by decide +kernel
theorem nd_Trial_noteDelays_51 : decode prog_5_method_6_code 51 = .ok (.iastore, 1) := by decide +kernel
theorem nd_Trial_noteDelays_52 : decode prog_5_method_6_code 52 = .ok (.iinc 3 1, 3) := by decide +kernel
theorem nd_Trial_noteDelays_55 : decode prog_5_method_6_code 55 = .ok (.goto (-53), 3) := by decide +kernel
theorem nd_Trial_noteDelays_58 : decode prog_5_method_6_code 58 = .ok (.return_, 1) := by decide +kernel
abbrev pq_Trial_noteDelays (dC : Nat → ClassId) (dI : Nat → Nat → Nat) (cI cZ cO : ClassId) (apl atr atb : Nat → Nat) (pl : cr_S) (tr : cr_S) (tb : cr_S) (x1 : Int32) (x2 : Int32) (A : Nat → Prop) : Array Value → State → Outcome → State → Prop :=
  va_Qv (fun (tr' : cr_S) => tr' = md_Trial_noteDelays pl tr tb x1 x2) (fun (tr' : cr_S) t => va_P (dC, dI) vwCl (cw_Plan cI cZ cO apl pl ++ cw_Trial cI cZ cO atr apl atb tr' ++ cw_Board cI cZ cO atb apl tb) t.heap ∧ va_K (dC, dI) vwCl [(cI, .int), (cZ, .boolean), (cO, .array .int)] t ∧ va_D A (cw_Plan cI cZ cO apl pl ++ cw_Trial cI cZ cO atr apl atb tr' ++ cw_Board cI cZ cO atb apl tb)) A
set_option maxHeartbeats 4000000 in
set_option maxRecDepth 100000 in
theorem ct_Trial_noteDelays (l : Launch) (dC : Nat → ClassId) (dI : Nat → Nat → Nat) (cI cZ cO : ClassId) (apl atr atb : Nat → Nat) (sz : Nat) (pl : cr_S) (tr : cr_S) (tb : cr_S) (x1 : Int32) (x2 : Int32) (hR_tb : cr_RBoard tb) (hR_pl : cr_RPlan pl) (hx1 : 0 ≤ x1.toInt ∧ x1.toInt ≤ 10) : Met l ny_Trial_noteDelays nw_Trial_noteDelays ({ frames := 1, cells := 0, slots := 0, locals := 22 } : Room) (va_Pc [.ref (atr 0), .int x1, .int x2] (fun U => U.heap.size = sz ∧ va_P (dC, dI) vwCl (cw_Plan cI cZ cO apl pl ++ cw_Trial cI cZ cO atr apl atb tr ++ cw_Board cI cZ cO atb apl tb) U.heap ∧ va_K (dC, dI) vwCl [(cI, .int), (cZ, .boolean), (cO, .array .int)] U ∧ va_D (fun _ => True) (cw_Plan cI cZ cO apl pl ++ cw_Trial cI cZ cO atr apl atb tr ++ cw_Board cI cZ cO atb apl tb))) (pq_Trial_noteDelays dC dI cI cZ cO apl atr atb pl tr tb x1 x2 (va_A (cw_Plan cI cZ cO apl pl ++ cw_Trial cI cZ cO atr apl atb tr ++ cw_Board cI cZ cO atb apl tb) sz)) 0 0 (va_A (cw_Plan cI cZ cO apl pl ++ cw_Trial cI cZ cO atr apl atb tr ++ cw_Board cI cZ cO atb apl tb) sz) := by
  refine Met.ofW (cc := prog_5_method_6_code) (maxL := 4) (ret := none) (by decide) rfl ?_
  intro p e s m args below meth c s₁ B hml hv
  obtain ⟨rfl, hsz, hP, hK, hD0⟩ := hv
  have hx := B.exec
  have hb := B.bytes
  have hr := B.returns
  have hts0 := atoms_spec (ws := nw_Trial_noteDelays) B.pre
  have hts : ∀ w ∈ ng_tbl, w.before ([.ref (atr 0), .int x1, .int x2] : List Value).toArray s = true := fun w h => hts0 w (List.mem_cons_of_mem _ h)
  have hown : s.vm.findClass "CeilingRows$Trial" = some m.cls := findClass_of_methodNamed B.named
  have hlocks := B.notSynchronized
  subst hsz
  have hD := hD0.self (sz := s.heap.size)
  generalize hAe : va_A (cw_Plan cI cZ cO apl pl ++ cw_Trial cI cZ cO atr apl atb tr ++ cw_Board cI cZ cO atb apl tb) s.heap.size = A at hD ⊢
  have hA : ∀ q : Nat, s.heap.size ≤ q → A q := fun q h => by rw [← hAe]; exact Or.inr h
  have hS : va_S A s.heap s.heap [] := va_S.rf
  have hP : va_P (dC, dI) vwCl (cw_Plan cI cZ cO apl pl ++ cw_Trial cI cZ cO atr apl atb tr ++ cw_Board cI cZ cO atb apl tb) s.heap := hP
  have hl := lv_entry ([.ref (atr 0), .int x1, .int x2]) (n := 4) (Nat.le_of_ble_eq_true rfl)
  rw [lg_entry_eq]
  generalize (lg_sl ([.ref (atr 0), .int x1, .int x2]) ++ List.replicate (4 - (lg_sl ([.ref (atr 0), .int x1, .int x2])).length) Slot.unset).toArray = ls at hl ⊢
  have hl : lv_has ls 4 [(0, .ref (atr 0)), (1, .int x1), (2, .int x2)] := hl
  have k_0 : (0 : Int32).toInt = 0 := by decide
  have k_1 : (1 : Int32).toInt = 1 := by decide
  obtain ⟨tgt, hT⟩ : ∃ z, md_Trial_noteDelays pl tr tb x1 x2 = z := ⟨_, rfl⟩
  have hM := hT
  unfold md_Trial_noteDelays at hM
  refine lv_iconst (v := 1) hx hb nd_Trial_noteDelays_0 (by decide) ?_
  refine lv_istore_n (lv' := [(3, .int (1 : Int32)), (0, .ref (atr 0)), (1, .int x1), (2, .int x2)]) hx hb nd_Trial_noteDelays_1 rfl hl (by decide) rfl (fun ls hl => ?_)
  have hl := lv_sub hl [1, 2, 3, 0] rfl
  have lp_2 : ∀ (n_2 : Nat) (tr_2 : cr_S) (v3_2 : Int32), (1 ≤ v3_2.toInt ∧ v3_2.toInt ≤ 11) → (11 < v3_2.toInt + (n_2 : Int)) → lo_Trial_noteDelays_2 pl tb x1 x2 n_2 tr_2 v3_2 = tgt → ∀ (H : Heap) (locs : List Loc), va_P (dC, dI) vwCl (cw_Plan cI cZ cO apl pl ++ cw_Trial cI cZ cO atr apl atb tr_2 ++ cw_Board cI cZ cO atb apl tb) H → va_D A (cw_Plan cI cZ cO apl pl ++ cw_Trial cI cZ cO atr apl atb tr_2 ++ cw_Board cI cZ cO atb apl tb) → va_S A s.heap H locs → ∀ ls : Array Slot, lv_has ls 4 [(0, .ref (atr 0)), (1, .int x1), (2, .int x2), (3, .int v3_2)] → W p l e (headSpec nw_Trial_noteDelays ({ frames := 1, cells := 0, slots := 0, locals := 22 } : Room)).room s m ([.ref (atr 0), .int x1, .int x2] : List Value).toArray below meth c H locs 0 0 (MQ below (pq_Trial_noteDelays dC dI cI cZ cO apl atr atb pl tr tb x1 x2 A) ([.ref (atr 0), .int x1, .int x2] : List Value).toArray s 0 0 A) (F0 m 2 ls []) := by
    intro n_2
    induction n_2 with
    | zero =>
      intro tr_2 v3_2 hv3_2 hn_2
      exfalso; omega
    | succ n_2 ih_2 =>
      intro tr_2 v3_2 hv3_2 hn_2 hM H locs hP hD hS ls hl
      have hn_2 : 11 < v3_2.toInt + ((n_2 : Int) + 1) := by omega
      rw [lo_Trial_noteDelays_2] at hM
      refine lv_iload_n hx hb nd_Trial_noteDelays_2 rfl (lv_at hl 3 rfl) ?_
      refine lv_aload_n hx hb nd_Trial_noteDelays_3 rfl (lv_at hl 0 rfl) ?_
      refine va_get (D := (dC, dI)) (ci := 3) (v := .ref (apl 0)) (C := "CeilingRows$Trial") (T := nf_Trial) (N := 5) hx hb hts nin_Trial hown hK hP 17 rfl rfl 0 (by decide) (hts _ tw_122) (fun _ h9 => h9) rfl nd_Trial_noteDelays_4 ?_
      refine va_get (D := (dC, dI)) (ci := 0) (v := .int (pl 0 0)) (C := "CeilingRows$Plan") (T := nf_Plan) (N := 7) hx hb hts nin_Plan hown hK hP 0 rfl rfl 0 (by decide) (hts _ tw_27) (fun _ h9 => h9) rfl nd_Trial_noteDelays_7 ?_
      have f_1 := cr_rfo hR_pl.1
      refine lv_icmp_gt (tgt := 58) hx hb nd_Trial_noteDelays_10 (by decide) (fun c_2 => ?_) (fun c_2 => ?_)
      · have c_2t := cr_lt c_2
        rw [if_pos c_2] at hM
        exact W.vret hx hb hr (fun t ht hW => ⟨⟨tr_2, rfl, by rw [hT, ← hM], by rw [ht]; exact hP, va_K.moved hW.alike hK, hD⟩, hS.F ht⟩) hS.2.2 nd_Trial_noteDelays_58
      · have c_2t := cr_nlt c_2
        rw [if_neg c_2] at hM
        refine lv_aload_n hx hb nd_Trial_noteDelays_13 rfl (lv_at hl 0 rfl) ?_
        refine va_get (D := (dC, dI)) (ci := 3) (v := .ref (atb 0)) (C := "CeilingRows$Trial") (T := nf_Trial) (N := 5) hx hb hts nin_Trial hown hK hP 17 rfl rfl 1 (by decide) (hts _ tw_123) (fun _ h9 => h9) rfl nd_Trial_noteDelays_14 ?_
        refine va_get (D := (dC, dI)) (ci := 1) (v := .ref (atb 1)) (C := "CeilingRows$Board") (T := nf_Board) (N := 7) hx hb hts nin_Board hown hK hP 31 rfl rfl 1 (by decide) (hts _ tw_69) (fun _ h9 => h9) rfl nd_Trial_noteDelays_17 ?_
        refine lv_iload_n hx hb nd_Trial_noteDelays_20 rfl (lv_at hl 3 rfl) ?_
        have b_3 : vp_in v3_2 11 := vp_in_iff.mpr (by omega)
        refine va_iald hx hb hK hP 32 0 rfl rfl b_3 nd_Trial_noteDelays_21 ?_
        refine lv_iconst (v := 1) hx hb nd_Trial_noteDelays_22 (by decide) ?_
        refine lv_icmp_ne (tgt := 52) hx hb nd_Trial_noteDelays_23 (by decide) (fun c_4 => ?_) (fun c_4 => ?_)
        · have c_4t := cr_ne c_4
          rw [if_neg c_4] at hM
          have e_5 : (v3_2 + (1 : Int32)).toInt = v3_2.toInt + (1 : Int32).toInt := cr_add (by omega)
          refine lv_iinc (v := (v3_2 + (1 : Int32))) (lv' := [(3, .int (v3_2 + (1 : Int32))), (0, .ref (atr 0)), (1, .int x1), (2, .int x2)]) hx hb nd_Trial_noteDelays_52 hl (k := 3) rfl (by rfl) (by decide) rfl (fun ls hl => ?_)
          refine lv_goto (tgt := 2) hx hb nd_Trial_noteDelays_55 (by decide) ?_
          exact ih_2 tr_2 (v3_2 + (1 : Int32)) (by omega) (by omega) hM _ _ hP hD hS _ (lv_sub hl [1, 2, 3, 0] rfl)
        · have c_4t := cr_eq c_4
          rw [if_pos c_4] at hM
          refine lv_aload_n hx hb nd_Trial_noteDelays_26 rfl (lv_at hl 0 rfl) ?_
          refine va_get (D := (dC, dI)) (ci := 3) (v := .ref (apl 0)) (C := "CeilingRows$Trial") (T := nf_Trial) (N := 5) hx hb hts nin_Trial hown hK hP 17 rfl rfl 0 (by decide) (hts _ tw_122) (fun _ h9 => h9) rfl nd_Trial_noteDelays_27 ?_
          refine lv_iload_n hx hb nd_Trial_noteDelays_30 rfl (lv_at hl 1 rfl) ?_
          refine lv_iload_n hx hb nd_Trial_noteDelays_31 rfl (lv_at hl 3 rfl) ?_
          have hPc := hP.sub (ws' := cw_Plan cI cZ cO apl pl) [0, 1, 2, 3, 4, 5, 6, 7, 8, 9, 10, 11, 12, 13, 14, 15, 16] rfl
          have hDc := hD.sub (ws' := cw_Plan cI cZ cO apl pl) [0, 1, 2, 3, 4, 5, 6, 7, 8, 9, 10, 11, 12, 13, 14, 15, 16] (by decide) rfl
          have hFc := va_free (wc := cw_Plan cI cZ cO apl pl) hD hS hA [0, 1, 2, 3, 4, 5, 6, 7, 8, 9, 10, 11, 12, 13, 14, 15, 16] rfl
          refine va_calli (va_runV (As := [.int x1, .int v3_2]) (rest := []) ⟨hx, hb, hml, hown, hts⟩ (ct_Plan_isBelow l dC dI cI cZ cO apl H.size pl x1 v3_2 hR_pl (by omega) (by omega)) (cwV 2 hts (ng_V tw_389 tw_304 tw_305 tw_2 tw_306) rfl rfl rfl (by decide +kernel) ⟨Nat.le_of_ble_eq_true rfl, Nat.le_of_ble_eq_true rfl⟩) ⟨fun a U g mk q => by obtain ⟨q0, q1, qP, qK, qD⟩ := q; exact ⟨q0, q1, qP, va_K.moved (u := U) (U := U.calling g mk a) (Vm.Alike.refl U.vm) qK, qD⟩, va_recv hK hPc (ci := 0) (q0 := 0) rfl rfl, fun U hU hW => ⟨rfl, by rw [hU], by rw [hU]; exact hPc, va_K.moved hW.alike hK, hDc.weaken (fun _ _ _ _ => trivial)⟩⟩ rfl rfl hl.1 rfl (lv_room (Nat.le_of_ble_eq_true rfl)) nd_Trial_noteDelays_32 ⟨Nat.zero_le _, Nat.zero_le _⟩) hS (fun q _ h => hFc q h) hFc (fun r_6 u t H1 locs ht hvm hw hB hz1 hk1 hS => ?_)
          obtain ⟨hP1, hK1, hD1⟩ := hB
          rw [ht] at hP1
          have w_7 := hw
          try rw [← w_7] at hM
          obtain ⟨hP, hD⟩ := va_join (wr := cw_Trial cI cZ cO atr apl atb tr_2 ++ cw_Board cI cZ cO atb apl tb) (w1 := cw_Plan cI cZ cO apl pl) hP hD [0, 1, 2, 3, 4, 5, 6, 7, 8, 9, 10, 11, 12, 13, 14, 15, 16] [17, 18, 19, 20, 21, 22, 23, 24, 25, 26, 27, 28, 29, 30, 31, 32, 33, 34, 35, 36] rfl rfl (by decide) (by decide) hk1 hFc hP1 hD1
          have hP := hP.sub (ws' := cw_Plan cI cZ cO apl pl ++ cw_Trial cI cZ cO atr apl atb tr_2 ++ cw_Board cI cZ cO atb apl tb) [20, 21, 22, 23, 24, 25, 26, 27, 28, 29, 30, 31, 32, 33, 34, 35, 36, 0, 1, 2, 3, 4, 5, 6, 7, 8, 9, 10, 11, 12, 13, 14, 15, 16, 17, 18, 19] rfl
          have hD := hD.sub (ws' := cw_Plan cI cZ cO apl pl ++ cw_Trial cI cZ cO atr apl atb tr_2 ++ cw_Board cI cZ cO atb apl tb) [20, 21, 22, 23, 24, 25, 26, 27, 28, 29, 30, 31, 32, 33, 34, 35, 36, 0, 1, 2, 3, 4, 5, 6, 7, 8, 9, 10, 11, 12, 13, 14, 15, 16, 17, 18, 19] (by decide) rfl
          generalize H1 = H at hP hS ⊢
          refine lv_if_eq (tgt := 52) hx hb nd_Trial_noteDelays_35 (by decide) (fun c_8 => ?_) (fun c_8 => ?_)
          · have c_8t := cr_eq c_8
            rw [if_pos c_8] at hM
            have e_9 : (v3_2 + (1 : Int32)).toInt = v3_2.toInt + (1 : Int32).toInt := cr_add (by omega)
            refine lv_iinc (v := (v3_2 + (1 : Int32))) (lv' := [(3, .int (v3_2 + (1 : Int32))), (0, .ref (atr 0)), (1, .int x1), (2, .int x2)]) hx hb nd_Trial_noteDelays_52 hl (k := 3) rfl (by rfl) (by decide) rfl (fun ls hl => ?_)
            refine lv_goto (tgt := 2) hx hb nd_Trial_noteDelays_55 (by decide) ?_
            exact ih_2 tr_2 (v3_2 + (1 : Int32)) (by omega) (by omega) hM _ _ hP hD hS _ (lv_sub hl [1, 2, 3, 0] rfl)
          · have c_8t := cr_ne c_8
            rw [if_neg c_8] at hM
            refine lv_aload_n hx hb nd_Trial_noteDelays_38 rfl (lv_at hl 0 rfl) ?_
            refine va_get (D := (dC, dI)) (ci := 3) (v := .ref (atr 2)) (C := "CeilingRows$Trial") (T := nf_Trial) (N := 5) hx hb hts nin_Trial hown hK hP 17 rfl rfl 3 (by decide) (hts _ tw_125) (fun _ h9 => h9) rfl nd_Trial_noteDelays_39 ?_
            refine lv_iload_n hx hb nd_Trial_noteDelays_42 rfl (lv_at hl 3 rfl) ?_
            have b_10 : vp_in v3_2 11 := vp_in_iff.mpr (by omega)
            have g_11 : v3_2.toNatClampNeg < 11 := cr_ix b_10
            refine ga_ald hx hb hK hP 19 2 rfl rfl b_10 g_11 nd_Trial_noteDelays_43 ?_
            refine lv_iload_n hx hb nd_Trial_noteDelays_44 rfl (lv_at hl 1 rfl) ?_
            refine lv_dup2_11 hx hb nd_Trial_noteDelays_45 rfl rfl ?_
            have b_12 : vp_in x1 11 := vp_in_iff.mpr (by omega)
            refine va_iald hx hb hK hP (17 + (3 + v3_2.toNatClampNeg)) 0 (cr_getL (cr_getR (o := 17) rfl (cg_Trial_3 cI cZ cO atr apl atb tr_2 _ g_11))) rfl b_12 nd_Trial_noteDelays_46 ?_
            refine lv_iconst (v := 1) hx hb nd_Trial_noteDelays_47 (by decide) ?_
            refine lv_iload_n hx hb nd_Trial_noteDelays_48 rfl (lv_at hl 2 rfl) ?_
            refine lv_ishl hx hb nd_Trial_noteDelays_49 ?_
            refine lv_ior hx hb nd_Trial_noteDelays_50 ?_
            have b_13 : vp_in x1 11 := vp_in_iff.mpr (by omega)
            refine va_iast hx hb hK hP hD hS (17 + (3 + v3_2.toNatClampNeg)) 0 (cr_getL (cr_getR (o := 17) rfl (cg_Trial_3 cI cZ cO atr apl atb tr_2 _ g_11))) rfl b_13 nd_Trial_noteDelays_51 (fun H locs hP hD hS => ?_)
            rw [(cr_setL (by simp only [List.length_append, List.length_cons, List.length_nil]; omega) (cr_setR (o := 17) rfl (cs_Trial_3 cI cZ cO atr apl atb tr_2 x1.toNatClampNeg ((tr_2 (3 + v3_2.toNatClampNeg) x1.toNatClampNeg) ||| ((1 : Int32) <<< (x2 &&& 31))) _ g_11)))] at hP hD
            have hP : va_P (dC, dI) vwCl (cw_Plan cI cZ cO apl pl ++ cw_Trial cI cZ cO atr apl atb (cr_up tr_2 (3 + v3_2.toNatClampNeg) x1.toNatClampNeg ((tr_2 (3 + v3_2.toNatClampNeg) x1.toNatClampNeg) ||| ((1 : Int32) <<< (x2 &&& 31)))) ++ cw_Board cI cZ cO atb apl tb) H := hP
            have hD : va_D A (cw_Plan cI cZ cO apl pl ++ cw_Trial cI cZ cO atr apl atb (cr_up tr_2 (3 + v3_2.toNatClampNeg) x1.toNatClampNeg ((tr_2 (3 + v3_2.toNatClampNeg) x1.toNatClampNeg) ||| ((1 : Int32) <<< (x2 &&& 31)))) ++ cw_Board cI cZ cO atb apl tb) := hD
            obtain ⟨trq_14, htrq_14⟩ : ∃ z, (cr_up tr_2 (3 + v3_2.toNatClampNeg) x1.toNatClampNeg ((tr_2 (3 + v3_2.toNatClampNeg) x1.toNatClampNeg) ||| ((1 : Int32) <<< (x2 &&& 31)))) = z := ⟨_, rfl⟩
            rw [htrq_14] at hP hD
            try rw [htrq_14] at hM
            have e_15 : (v3_2 + (1 : Int32)).toInt = v3_2.toInt + (1 : Int32).toInt := cr_add (by omega)
            refine lv_iinc (v := (v3_2 + (1 : Int32))) (lv' := [(3, .int (v3_2 + (1 : Int32))), (0, .ref (atr 0)), (1, .int x1), (2, .int x2)]) hx hb nd_Trial_noteDelays_52 hl (k := 3) rfl (by rfl) (by decide) rfl (fun ls hl => ?_)
            refine lv_goto (tgt := 2) hx hb nd_Trial_noteDelays_55 (by decide) ?_
            exact ih_2 trq_14 (v3_2 + (1 : Int32)) (by omega) (by omega) hM _ _ hP hD hS _ (lv_sub hl [1, 2, 3, 0] rfl)
  exact lp_2 11 tr (1 : Int32) (by omega) (by omega) hM _ _ hP hD hS _ hl

theorem nd_Trial_countDelays_0 : decode prog_5_method_7_code 0 = .ok (.iconst 0, 1) := by decide +kernel
theorem nd_Trial_countDelays_1 : decode prog_5_method_7_code 1 = .ok (.istore_n 2, 1) := by decide +kernel
theorem nd_Trial_countDelays_2 : decode prog_5_method_7_code 2 = .ok (.iconst 1, 1) := by decide +kernel
theorem nd_Trial_countDelays_3 : decode prog_5_method_7_code 3 = .ok (.istore_n 3, 1) := by decide +kernel
theorem nd_Trial_countDelays_4 : decode prog_5_method_7_code 4 = .ok (.iload_n 3, 1) := by decide +kernel
theorem nd_Trial_countDelays_5 : decode prog_5_method_7_code 5 = .ok (.aload_n 0, 1) := by decide +kernel
theorem nd_Trial_countDelays_6 : decode prog_5_method_7_code 6 = .ok (.getfield 20, 3) := by decide +kernel
theorem nd_Trial_countDelays_9 : decode prog_5_method_7_code 9 = .ok (.getfield 40, 3) := by decide +kernel
theorem nd_Trial_countDelays_12 : decode prog_5_method_7_code 12 = .ok (.if_icmp .gt (23), 3) := by decide +kernel
theorem nd_Trial_countDelays_15 : decode prog_5_method_7_code 15 = .ok (.iload_n 2, 1) := by decide +kernel
theorem nd_Trial_countDelays_16 : decode prog_5_method_7_code 16 = .ok (.aload_n 0, 1) := by decide +kernel
theorem nd_Trial_countDelays_17 : decode prog_5_method_7_code 17 = .ok (.getfield 17, 3) := by decide +kernel
theorem nd_Trial_countDelays_20 : decode prog_5_method_7_code 20 = .ok (.iload_n 1, 1) := by decide +kernel
theorem nd_Trial_countDelays_21 : decode prog_5_method_7_code 21 = .ok (.aaload, 1) := by decide +kernel
theorem nd_Trial_countDelays_22 : decode prog_5_method_7_code 22 = .ok (.iload_n 3, 1) := by decide +kernel
theorem nd_Trial_countDelays_23 : decode prog_5_method_7_code 23 = .ok (.iaload, 1) := by decide +kernel
theorem nd_Trial_countDelays_24 : decode prog_5_method_7_code 24 = .ok (.invokestatic 107, 3) := by decide +kernel
theorem nd_Trial_countDelays_27 : decode prog_5_method_7_code 27 = .ok (.iadd, 1) := by decide +kernel
theorem nd_Trial_countDelays_28 : decode prog_5_method_7_code 28 = .ok (.istore_n 2, 1) := by decide +kernel
theorem nd_Trial_countDelays_29 : decode prog_5_method_7_code 29 = .ok (.iinc 3 1, 3) := by decide +kernel
theorem nd_Trial_countDelays_32 : decode prog_5_method_7_code 32 = .ok (.goto (-28), 3) := by decide +kernel
theorem nd_Trial_countDelays_35 : decode prog_5_method_7_code 35 = .ok (.iload_n 2, 1) := by decide +kernel
theorem nd_Trial_countDelays_36 : decode prog_5_method_7_code 36 = .ok (.ireturn, 1) := by decide +kernel
abbrev pq_Trial_countDelays (dC : Nat → ClassId) (dI : Nat → Nat → Nat) (cI cZ cO : ClassId) (apl atr atb : Nat → Nat) (pl : cr_S) (tr : cr_S) (tb : cr_S) (x1 : Int32) (A : Nat → Prop) : Array Value → State → Outcome → State → Prop :=
  va_Qi (fun (r : Int32) (_ : Unit) => r = md_Trial_countDelays pl tr tb x1) (fun (_ : Unit) t => va_P (dC, dI) vwCl (cw_Plan cI cZ cO apl pl ++ cw_Trial cI cZ cO atr apl atb tr ++ cw_Board cI cZ cO atb apl tb) t.heap ∧ va_K (dC, dI) vwCl [(cI, .int), (cZ, .boolean), (cO, .array .int)] t ∧ va_D A (cw_Plan cI cZ cO apl pl ++ cw_Trial cI cZ cO atr apl atb tr ++ cw_Board cI cZ cO atb apl tb)) A
set_option maxHeartbeats 4000000 in
set_option maxRecDepth 100000 in
theorem ct_Trial_countDelays (l : Launch) (dC : Nat → ClassId) (dI : Nat → Nat → Nat) (cI cZ cO : ClassId) (apl atr atb : Nat → Nat) (sz : Nat) (pl : cr_S) (tr : cr_S) (tb : cr_S) (x1 : Int32) (hR_tb : cr_RBoard tb) (hR_pl : cr_RPlan pl) (hx1 : 0 ≤ x1.toInt ∧ x1.toInt ≤ 10) : Met l ny_Trial_countDelays nw_Trial_countDelays ({ frames := 1, cells := 0, slots := 0, locals := 20 } : Room) (va_Pc [.ref (atr 0), .int x1] (fun U => U.heap.size = sz ∧ va_P (dC, dI) vwCl (cw_Plan cI cZ cO apl pl ++ cw_Trial cI cZ cO atr apl atb tr ++ cw_Board cI cZ cO atb apl tb) U.heap ∧ va_K (dC, dI) vwCl [(cI, .int), (cZ, .boolean), (cO, .array .int)] U ∧ va_D (fun _ => True) (cw_Plan cI cZ cO apl pl ++ cw_Trial cI cZ cO atr apl atb tr ++ cw_Board cI cZ cO atb apl tb))) (pq_Trial_countDelays dC dI cI cZ cO apl atr atb pl tr tb x1 (va_A (cw_Plan cI cZ cO apl pl ++ cw_Trial cI cZ cO atr apl atb tr ++ cw_Board cI cZ cO atb apl tb) sz)) 0 0 (va_A (cw_Plan cI cZ cO apl pl ++ cw_Trial cI cZ cO atr apl atb tr ++ cw_Board cI cZ cO atb apl tb) sz) := by
  refine Met.ofW (cc := prog_5_method_7_code) (maxL := 4) (ret := (some .int)) (by decide) rfl ?_
  intro p e s m args below meth c s₁ B hml hv
  obtain ⟨rfl, hsz, hP, hK, hD0⟩ := hv
  have hx := B.exec
  have hb := B.bytes
  have hr := B.returns
  have hts0 := atoms_spec (ws := nw_Trial_countDelays) B.pre
  have hts : ∀ w ∈ ng_tbl, w.before ([.ref (atr 0), .int x1] : List Value).toArray s = true := fun w h => hts0 w (List.mem_cons_of_mem _ h)
  have hown : s.vm.findClass "CeilingRows$Trial" = some m.cls := findClass_of_methodNamed B.named
  have hlocks := B.notSynchronized
  subst hsz
  have hD := hD0.self (sz := s.heap.size)
  generalize hAe : va_A (cw_Plan cI cZ cO apl pl ++ cw_Trial cI cZ cO atr apl atb tr ++ cw_Board cI cZ cO atb apl tb) s.heap.size = A at hD ⊢
  have hA : ∀ q : Nat, s.heap.size ≤ q → A q := fun q h => by rw [← hAe]; exact Or.inr h
  have hS : va_S A s.heap s.heap [] := va_S.rf
  have hP : va_P (dC, dI) vwCl (cw_Plan cI cZ cO apl pl ++ cw_Trial cI cZ cO atr apl atb tr ++ cw_Board cI cZ cO atb apl tb) s.heap := hP
  have hl := lv_entry ([.ref (atr 0), .int x1]) (n := 4) (Nat.le_of_ble_eq_true rfl)
  rw [lg_entry_eq]
  generalize (lg_sl ([.ref (atr 0), .int x1]) ++ List.replicate (4 - (lg_sl ([.ref (atr 0), .int x1])).length) Slot.unset).toArray = ls at hl ⊢
  have hl : lv_has ls 4 [(0, .ref (atr 0)), (1, .int x1)] := hl
  have k_0 : (0 : Int32).toInt = 0 := by decide
  have k_1 : (1 : Int32).toInt = 1 := by decide
  obtain ⟨tgt, hT⟩ : ∃ z, md_Trial_countDelays pl tr tb x1 = z := ⟨_, rfl⟩
  have hM := hT
  unfold md_Trial_countDelays at hM
  refine lv_iconst (v := 0) hx hb nd_Trial_countDelays_0 (by decide) ?_
  refine lv_istore_n (lv' := [(2, .int (0 : Int32)), (0, .ref (atr 0)), (1, .int x1)]) hx hb nd_Trial_countDelays_1 rfl hl (by decide) rfl (fun ls hl => ?_)
  refine lv_iconst (v := 1) hx hb nd_Trial_countDelays_2 (by decide) ?_
  refine lv_istore_n (lv' := [(3, .int (1 : Int32)), (2, .int (0 : Int32)), (0, .ref (atr 0)), (1, .int x1)]) hx hb nd_Trial_countDelays_3 rfl hl (by decide) rfl (fun ls hl => ?_)
  have hl := lv_sub hl [2, 3, 1, 0] rfl
  have lp_4 : ∀ (n_4 : Nat) (v2_4 : Int32) (v3_4 : Int32), (1 ≤ v3_4.toInt ∧ v3_4.toInt ≤ 11) → (11 < v3_4.toInt + (n_4 : Int)) → lo_Trial_countDelays_4 pl tr tb x1 n_4 v2_4 v3_4 = tgt → ∀ (H : Heap) (locs : List Loc), va_P (dC, dI) vwCl (cw_Plan cI cZ cO apl pl ++ cw_Trial cI cZ cO atr apl atb tr ++ cw_Board cI cZ cO atb apl tb) H → va_D A (cw_Plan cI cZ cO apl pl ++ cw_Trial cI cZ cO atr apl atb tr ++ cw_Board cI cZ cO atb apl tb) → va_S A s.heap H locs → ∀ ls : Array Slot, lv_has ls 4 [(0, .ref (atr 0)), (1, .int x1), (2, .int v2_4), (3, .int v3_4)] → W p l e (headSpec nw_Trial_countDelays ({ frames := 1, cells := 0, slots := 0, locals := 20 } : Room)).room s m ([.ref (atr 0), .int x1] : List Value).toArray below meth c H locs 0 0 (MQ below (pq_Trial_countDelays dC dI cI cZ cO apl atr atb pl tr tb x1 A) ([.ref (atr 0), .int x1] : List Value).toArray s 0 0 A) (F0 m 4 ls []) := by
    intro n_4
    induction n_4 with
    | zero =>
      intro v2_4 v3_4 hv3_4 hn_4
      exfalso; omega
    | succ n_4 ih_4 =>
      intro v2_4 v3_4 hv3_4 hn_4 hM H locs hP hD hS ls hl
      have hn_4 : 11 < v3_4.toInt + ((n_4 : Int) + 1) := by omega
      rw [lo_Trial_countDelays_4] at hM
      refine lv_iload_n hx hb nd_Trial_countDelays_4 rfl (lv_at hl 3 rfl) ?_
      refine lv_aload_n hx hb nd_Trial_countDelays_5 rfl (lv_at hl 0 rfl) ?_
      refine va_get (D := (dC, dI)) (ci := 3) (v := .ref (apl 0)) (C := "CeilingRows$Trial") (T := nf_Trial) (N := 5) hx hb hts nin_Trial hown hK hP 17 rfl rfl 0 (by decide) (hts _ tw_122) (fun _ h9 => h9) rfl nd_Trial_countDelays_6 ?_
      refine va_get (D := (dC, dI)) (ci := 0) (v := .int (pl 0 0)) (C := "CeilingRows$Plan") (T := nf_Plan) (N := 7) hx hb hts nin_Plan hown hK hP 0 rfl rfl 0 (by decide) (hts _ tw_27) (fun _ h9 => h9) rfl nd_Trial_countDelays_9 ?_
      have f_1 := cr_rfo hR_pl.1
      refine lv_icmp_gt (tgt := 35) hx hb nd_Trial_countDelays_12 (by decide) (fun c_2 => ?_) (fun c_2 => ?_)
      · have c_2t := cr_lt c_2
        rw [if_pos c_2] at hM
        refine lv_iload_n hx hb nd_Trial_countDelays_35 rfl (lv_at hl 2 rfl) ?_
        exact W.iret (v := v2_4) hx hb hr (fun t ht hW => ⟨⟨v2_4, (), rfl, by rw [hT, ← hM], by rw [ht]; exact hP, va_K.moved hW.alike hK, hD⟩, hS.F ht⟩) hS.2.2 nd_Trial_countDelays_36
      · have c_2t := cr_nlt c_2
        rw [if_neg c_2] at hM
        refine lv_iload_n hx hb nd_Trial_countDelays_15 rfl (lv_at hl 2 rfl) ?_
        refine lv_aload_n hx hb nd_Trial_countDelays_16 rfl (lv_at hl 0 rfl) ?_
        refine va_get (D := (dC, dI)) (ci := 3) (v := .ref (atr 2)) (C := "CeilingRows$Trial") (T := nf_Trial) (N := 5) hx hb hts nin_Trial hown hK hP 17 rfl rfl 3 (by decide) (hts _ tw_125) (fun _ h9 => h9) rfl nd_Trial_countDelays_17 ?_
        refine lv_iload_n hx hb nd_Trial_countDelays_20 rfl (lv_at hl 1 rfl) ?_
        have b_3 : vp_in x1 11 := vp_in_iff.mpr (by omega)
        have g_4 : x1.toNatClampNeg < 11 := cr_ix b_3
        refine ga_ald hx hb hK hP 19 2 rfl rfl b_3 g_4 nd_Trial_countDelays_21 ?_
        refine lv_iload_n hx hb nd_Trial_countDelays_22 rfl (lv_at hl 3 rfl) ?_
        have b_5 : vp_in v3_4 11 := vp_in_iff.mpr (by omega)
        refine va_iald hx hb hK hP (17 + (3 + x1.toNatClampNeg)) 0 (cr_getL (cr_getR (o := 17) rfl (cg_Trial_3 cI cZ cO atr apl atb tr _ g_4))) rfl b_5 nd_Trial_countDelays_23 ?_
        have hPc := hP.sub (ws' := ([] : va_W)) [] rfl
        have hDc := hD.sub (ws' := ([] : va_W)) [] (by decide) rfl
        have hFc := va_free (wc := ([] : va_W)) hD hS hA [] rfl
        refine va_calli (va_runS (As := [.int (tr (3 + x1.toNatClampNeg) v3_4.toNatClampNeg)]) (rest := [.int v2_4]) ⟨hx, hb, hml, hown, hts⟩ (ct_Integer_bitCount l dC dI cI cZ cO  H.size  (tr (3 + x1.toNatClampNeg) v3_4.toNatClampNeg) ) (va_cwS 1 hts (ng_S tw_400 tw_401 tw_9 tw_402) rfl rfl rfl (by decide +kernel) ⟨Nat.le_of_ble_eq_true rfl, Nat.le_of_ble_eq_true rfl⟩) ⟨fun a U g mk q => by obtain ⟨q0, q1, qP, qK, qD⟩ := q; exact ⟨q0, q1, qP, va_K.moved (u := U) (U := U.calling g mk a) (Vm.Alike.refl U.vm) qK, qD⟩, fun U hU hW => ⟨rfl, by rw [hU], by rw [hU]; exact hPc, va_K.moved hW.alike hK, hDc.weaken (fun _ _ _ _ => trivial)⟩⟩ rfl rfl hl.1 rfl (lv_room (Nat.le_of_ble_eq_true rfl)) nd_Trial_countDelays_24 ⟨Nat.zero_le _, Nat.zero_le _⟩) hS (fun q _ h => hFc q h) hFc (fun r_6 u t H1 locs ht hvm hw hB hz1 hk1 hS => ?_)
        obtain ⟨hP1, hK1, hD1⟩ := hB
        rw [ht] at hP1
        have w_7 := hw
        try rw [← w_7] at hM
        obtain ⟨hP, hD⟩ := va_join (wr := cw_Plan cI cZ cO apl pl ++ cw_Trial cI cZ cO atr apl atb tr ++ cw_Board cI cZ cO atb apl tb) (w1 := ([] : va_W)) hP hD [] [0, 1, 2, 3, 4, 5, 6, 7, 8, 9, 10, 11, 12, 13, 14, 15, 16, 17, 18, 19, 20, 21, 22, 23, 24, 25, 26, 27, 28, 29, 30, 31, 32, 33, 34, 35, 36] rfl rfl (by decide) (by decide) hk1 hFc hP1 hD1
        have hP := hP.sub (ws' := cw_Plan cI cZ cO apl pl ++ cw_Trial cI cZ cO atr apl atb tr ++ cw_Board cI cZ cO atb apl tb) [0, 1, 2, 3, 4, 5, 6, 7, 8, 9, 10, 11, 12, 13, 14, 15, 16, 17, 18, 19, 20, 21, 22, 23, 24, 25, 26, 27, 28, 29, 30, 31, 32, 33, 34, 35, 36] rfl
        have hD := hD.sub (ws' := cw_Plan cI cZ cO apl pl ++ cw_Trial cI cZ cO atr apl atb tr ++ cw_Board cI cZ cO atb apl tb) [0, 1, 2, 3, 4, 5, 6, 7, 8, 9, 10, 11, 12, 13, 14, 15, 16, 17, 18, 19, 20, 21, 22, 23, 24, 25, 26, 27, 28, 29, 30, 31, 32, 33, 34, 35, 36] (by decide) rfl
        generalize H1 = H at hP hS ⊢
        refine lv_iadd hx hb nd_Trial_countDelays_27 ?_
        refine lv_istore_n (lv' := [(2, .int (v2_4 + r_6)), (0, .ref (atr 0)), (1, .int x1), (3, .int v3_4)]) hx hb nd_Trial_countDelays_28 rfl hl (by decide) rfl (fun ls hl => ?_)
        have e_8 : (v3_4 + (1 : Int32)).toInt = v3_4.toInt + (1 : Int32).toInt := cr_add (by omega)
        refine lv_iinc (v := (v3_4 + (1 : Int32))) (lv' := [(3, .int (v3_4 + (1 : Int32))), (2, .int (v2_4 + r_6)), (0, .ref (atr 0)), (1, .int x1)]) hx hb nd_Trial_countDelays_29 hl (k := 3) rfl (by rfl) (by decide) rfl (fun ls hl => ?_)
        refine lv_goto (tgt := 4) hx hb nd_Trial_countDelays_32 (by decide) ?_
        exact ih_4 (v2_4 + r_6) (v3_4 + (1 : Int32)) (by omega) (by omega) hM _ _ hP hD hS _ (lv_sub hl [2, 3, 1, 0] rfl)
  exact lp_4 11 (0 : Int32) (1 : Int32) (by omega) (by omega) hM _ _ hP hD hS _ hl

theorem nd_Trial_clear_0 : decode prog_5_method_3_code 0 = .ok (.aload_n 0, 1) := by decide +kernel
theorem nd_Trial_clear_1 : decode prog_5_method_3_code 1 = .ok (.getfield 29, 3) := by decide +kernel
theorem nd_Trial_clear_4 : decode prog_5_method_3_code 4 = .ok (.invokevirtual 66, 3) := by decide +kernel
theorem nd_Trial_clear_7 : decode prog_5_method_3_code 7 = .ok (.aload_n 0, 1) := by decide +kernel
theorem nd_Trial_clear_8 : decode prog_5_method_3_code 8 = .ok (.iconst 0, 1) := by decide +kernel
theorem nd_Trial_clear_9 : decode prog_5_method_3_code 9 = .ok (.putfield 36, 3) := by decide +kernel
theorem nd_Trial_clear_12 : decode prog_5_method_3_code 12 = .ok (.aload_n 0, 1) := by decide +kernel
theorem nd_Trial_clear_13 : decode prog_5_method_3_code 13 = .ok (.getfield 9, 3) := by decide +kernel
theorem nd_Trial_clear_16 : decode prog_5_method_3_code 16 = .ok (.iconst 0, 1) := by decide +kernel
theorem nd_Trial_clear_17 : decode prog_5_method_3_code 17 = .ok (.invokestatic 67, 3) := by decide +kernel
theorem nd_Trial_clear_20 : decode prog_5_method_3_code 20 = .ok (.iconst 1, 1) := by decide +kernel
theorem nd_Trial_clear_21 : decode prog_5_method_3_code 21 = .ok (.istore_n 1, 1) := by decide +kernel
theorem nd_Trial_clear_22 : decode prog_5_method_3_code 22 = .ok (.iload_n 1, 1) := by decide +kernel
theorem nd_Trial_clear_23 : decode prog_5_method_3_code 23 = .ok (.aload_n 0, 1) := by decide +kernel
theorem nd_Trial_clear_24 : decode prog_5_method_3_code 24 = .ok (.getfield 20, 3) := by decide +kernel
theorem nd_Trial_clear_27 : decode prog_5_method_3_code 27 = .ok (.getfield 40, 3) := by decide +kernel
theorem nd_Trial_clear_30 : decode prog_5_method_3_code 30 = .ok (.if_icmp .gt (19), 3) := by decide +kernel
theorem nd_Trial_clear_33 : decode prog_5_method_3_code 33 = .ok (.aload_n 0, 1) := by decide +kernel
theorem nd_Trial_clear_34 : decode prog_5_method_3_code 34 = .ok (.getfield 17, 3) := by decide +kernel
theorem nd_Trial_clear_37 : decode prog_5_method_3_code 37 = .ok (.iload_n 1, 1) := by decide +kernel
theorem nd_Trial_clear_38 : decode prog_5_method_3_code 38 = .ok (.aaload, 1) := by decide +kernel
theorem nd_Trial_clear_39 : decode prog_5_method_3_code 39 = .ok (.iconst 0, 1) := by decide +kernel
theorem nd_Trial_clear_40 : decode prog_5_method_3_code 40 = .ok (.invokestatic 67, 3) := by decide +kernel
theorem nd_Trial_clear_43 : decode prog_5_method_3_code 43 = .ok (.iinc 1 1, 3) := by decide +kernel
theorem nd_Trial_clear_46 : decode prog_5_method_3_code 46 = .ok (.goto (-24), 3) := by decide +kernel
theorem nd_Trial_clear_49 : decode prog_5_method_3_code 49 = .ok (.return_, 1) := by decide +kernel
abbrev pq_Trial_clear (dC : Nat → ClassId) (dI : Nat → Nat → Nat) (cI cZ cO : ClassId) (apl atr atb : Nat → Nat) (pl : cr_S) (tr : cr_S) (tb : cr_S)  (A : Nat → Prop) : Array Value → State → Outcome → State → Prop :=
  va_Qv (fun (u : cr_S × cr_S) => u.1 = (md_Trial_clear pl tr tb).1 ∧ u.2 = (md_Trial_clear pl tr tb).2 ∧ cr_RBoard u.2) (fun (u : cr_S × cr_S) t => va_P (dC, dI) vwCl (cw_Plan cI cZ cO apl pl ++ cw_Trial cI cZ cO atr apl atb u.1 ++ cw_Board cI cZ cO atb apl u.2) t.heap ∧ va_K (dC, dI) vwCl [(cI, .int), (cZ, .boolean), (cO, .array .int)] t ∧ va_D A (cw_Plan cI cZ cO apl pl ++ cw_Trial cI cZ cO atr apl atb u.1 ++ cw_Board cI cZ cO atb apl u.2)) A
set_option maxHeartbeats 4000000 in
set_option maxRecDepth 100000 in
theorem ct_Trial_clear (l : Launch) (dC : Nat → ClassId) (dI : Nat → Nat → Nat) (cI cZ cO : ClassId) (apl atr atb : Nat → Nat) (sz : Nat) (pl : cr_S) (tr : cr_S) (tb : cr_S)  (hR_tb : cr_RBoard tb) (hR_pl : cr_RPlan pl) : Met l ny_Trial_clear nw_Trial_clear ({ frames := 2, cells := 0, slots := 0, locals := 43 } : Room) (va_Pc [.ref (atr 0)] (fun U => U.heap.size = sz ∧ va_P (dC, dI) vwCl (cw_Plan cI cZ cO apl pl ++ cw_Trial cI cZ cO atr apl atb tr ++ cw_Board cI cZ cO atb apl tb) U.heap ∧ va_K (dC, dI) vwCl [(cI, .int), (cZ, .boolean), (cO, .array .int)] U ∧ va_D (fun _ => True) (cw_Plan cI cZ cO apl pl ++ cw_Trial cI cZ cO atr apl atb tr ++ cw_Board cI cZ cO atb apl tb))) (pq_Trial_clear dC dI cI cZ cO apl atr atb pl tr tb  (va_A (cw_Plan cI cZ cO apl pl ++ cw_Trial cI cZ cO atr apl atb tr ++ cw_Board cI cZ cO atb apl tb) sz)) 0 0 (va_A (cw_Plan cI cZ cO apl pl ++ cw_Trial cI cZ cO atr apl atb tr ++ cw_Board cI cZ cO atb apl tb) sz) := by
  refine Met.ofW (cc := prog_5_method_3_code) (maxL := 2) (ret := none) (by decide) rfl ?_
  intro p e s m args below meth c s₁ B hml hv
  obtain ⟨rfl, hsz, hP, hK, hD0⟩ := hv
  have hx := B.exec
  have hb := B.bytes
  have hr := B.returns
  have hts0 := atoms_spec (ws := nw_Trial_clear) B.pre
  have hts : ∀ w ∈ ng_tbl, w.before ([.ref (atr 0)] : List Value).toArray s = true := fun w h => hts0 w (List.mem_cons_of_mem _ h)
  have hown : s.vm.findClass "CeilingRows$Trial" = some m.cls := findClass_of_methodNamed B.named
  have hlocks := B.notSynchronized
  subst hsz
  have hD := hD0.self (sz := s.heap.size)
  generalize hAe : va_A (cw_Plan cI cZ cO apl pl ++ cw_Trial cI cZ cO atr apl atb tr ++ cw_Board cI cZ cO atb apl tb) s.heap.size = A at hD ⊢
  have hA : ∀ q : Nat, s.heap.size ≤ q → A q := fun q h => by rw [← hAe]; exact Or.inr h
  have hS : va_S A s.heap s.heap [] := va_S.rf
  have hP : va_P (dC, dI) vwCl (cw_Plan cI cZ cO apl pl ++ cw_Trial cI cZ cO atr apl atb tr ++ cw_Board cI cZ cO atb apl tb) s.heap := hP
  have hl := lv_entry ([.ref (atr 0)]) (n := 2) (Nat.le_of_ble_eq_true rfl)
  rw [lg_entry_eq]
  generalize (lg_sl ([.ref (atr 0)]) ++ List.replicate (2 - (lg_sl ([.ref (atr 0)])).length) Slot.unset).toArray = ls at hl ⊢
  have hl : lv_has ls 2 [(0, .ref (atr 0))] := hl
  have k_0 : (0 : Int32).toInt = 0 := by decide
  have k_1 : (1 : Int32).toInt = 1 := by decide
  obtain ⟨tgt, hT⟩ : ∃ z, md_Trial_clear pl tr tb = z := ⟨_, rfl⟩
  have hM := hT
  unfold md_Trial_clear at hM
  refine lv_aload_n hx hb nd_Trial_clear_0 rfl (lv_at hl 0 rfl) ?_
  refine va_get (D := (dC, dI)) (ci := 3) (v := .ref (atb 0)) (C := "CeilingRows$Trial") (T := nf_Trial) (N := 5) hx hb hts nin_Trial hown hK hP 17 rfl rfl 1 (by decide) (hts _ tw_123) (fun _ h9 => h9) rfl nd_Trial_clear_1 ?_
  have hPc := hP.sub (ws' := cw_Plan cI cZ cO apl pl ++ cw_Board cI cZ cO atb apl tb) [0, 1, 2, 3, 4, 5, 6, 7, 8, 9, 10, 11, 12, 13, 14, 15, 16, 31, 32, 33, 34, 35, 36] rfl
  have hDc := hD.sub (ws' := cw_Plan cI cZ cO apl pl ++ cw_Board cI cZ cO atb apl tb) [0, 1, 2, 3, 4, 5, 6, 7, 8, 9, 10, 11, 12, 13, 14, 15, 16, 31, 32, 33, 34, 35, 36] (by decide) rfl
  have hFc := va_free (wc := cw_Plan cI cZ cO apl pl ++ cw_Board cI cZ cO atb apl tb) hD hS hA [0, 1, 2, 3, 4, 5, 6, 7, 8, 9, 10, 11, 12, 13, 14, 15, 16, 31, 32, 33, 34, 35, 36] rfl
  refine va_callv (va_runV (As := []) (rest := []) ⟨hx, hb, hml, hown, hts⟩ (ct_Board_clear l dC dI cI cZ cO apl atb s.heap.size pl tb  hR_tb hR_pl) (cwV 0 hts (ng_V tw_353 tw_354 tw_355 tw_3 tw_356) rfl rfl rfl (by decide +kernel) ⟨Nat.le_of_ble_eq_true rfl, Nat.le_of_ble_eq_true rfl⟩) ⟨fun a U g mk q => by obtain ⟨q0, q1, qP, qK, qD⟩ := q; exact ⟨q0, q1, qP, va_K.moved (u := U) (U := U.calling g mk a) (Vm.Alike.refl U.vm) qK, qD⟩, va_recv hK hPc (ci := 1) (q0 := 17) rfl rfl, fun U hU hW => ⟨rfl, by rw [hU], by rw [hU]; exact hPc, va_K.moved hW.alike hK, hDc.weaken (fun _ _ _ _ => trivial)⟩⟩ rfl rfl hl.1 rfl (lv_room (Nat.le_of_ble_eq_true rfl)) nd_Trial_clear_4 ⟨Nat.zero_le _, Nat.zero_le _⟩) hS (fun q _ h => hFc q h) hFc (fun u t H1 locs ht hvm hw hB hz1 hk1 hS => ?_)
  obtain ⟨hP1, hK1, hD1⟩ := hB
  rw [ht] at hP1
  obtain ⟨tbq_2, rfl⟩ : ∃ z, z = u := ⟨_, rfl⟩
  obtain ⟨w_3, hR_4⟩ := hw
  try rw [← w_3] at hM
  obtain ⟨hP, hD⟩ := va_join (wr := cw_Trial cI cZ cO atr apl atb tr) (w1 := cw_Plan cI cZ cO apl pl ++ cw_Board cI cZ cO atb apl tbq_2) hP hD [0, 1, 2, 3, 4, 5, 6, 7, 8, 9, 10, 11, 12, 13, 14, 15, 16, 31, 32, 33, 34, 35, 36] [17, 18, 19, 20, 21, 22, 23, 24, 25, 26, 27, 28, 29, 30] rfl rfl (by decide) (by decide) hk1 hFc hP1 hD1
  have hP := hP.sub (ws' := cw_Plan cI cZ cO apl pl ++ cw_Trial cI cZ cO atr apl atb tr ++ cw_Board cI cZ cO atb apl tbq_2) [14, 15, 16, 17, 18, 19, 20, 21, 22, 23, 24, 25, 26, 27, 28, 29, 30, 0, 1, 2, 3, 4, 5, 6, 7, 8, 9, 10, 11, 12, 13, 31, 32, 33, 34, 35, 36] rfl
  have hD := hD.sub (ws' := cw_Plan cI cZ cO apl pl ++ cw_Trial cI cZ cO atr apl atb tr ++ cw_Board cI cZ cO atb apl tbq_2) [14, 15, 16, 17, 18, 19, 20, 21, 22, 23, 24, 25, 26, 27, 28, 29, 30, 0, 1, 2, 3, 4, 5, 6, 7, 8, 9, 10, 11, 12, 13, 31, 32, 33, 34, 35, 36] (by decide) rfl
  generalize H1 = H at hP hS ⊢
  refine lv_aload_n hx hb nd_Trial_clear_7 rfl (lv_at hl 0 rfl) ?_
  refine lv_iconst (v := 0) hx hb nd_Trial_clear_8 (by decide) ?_
  refine va_put (D := (dC, dI)) (ci := 3) (v := .int (0 : Int32)) (ty := .int) (C := "CeilingRows$Trial") (T := nf_Trial) (N := 5) hx hb hts nin_Trial nt_Trial nto_Trial nno_Trial hown hK hP hD hS 17 rfl rfl 4 (by decide) (hts _ tw_126) (fun _ h9 => h9) rfl (by decide +kernel) rfl rfl (Nat.le_of_ble_eq_true rfl) nd_Trial_clear_9 (fun H locs hP hD hS => ?_)
  have hP : va_P (dC, dI) vwCl (cw_Plan cI cZ cO apl pl ++ cw_Trial cI cZ cO atr apl atb (cr_up tr 0 0 (0 : Int32)) ++ cw_Board cI cZ cO atb apl tbq_2) H := hP
  have hD : va_D A (cw_Plan cI cZ cO apl pl ++ cw_Trial cI cZ cO atr apl atb (cr_up tr 0 0 (0 : Int32)) ++ cw_Board cI cZ cO atb apl tbq_2) := hD
  obtain ⟨trq_5, htrq_5⟩ : ∃ z, (cr_up tr 0 0 (0 : Int32)) = z := ⟨_, rfl⟩
  rw [htrq_5] at hP hD
  try rw [htrq_5] at hM
  refine lv_aload_n hx hb nd_Trial_clear_12 rfl (lv_at hl 0 rfl) ?_
  refine va_get (D := (dC, dI)) (ci := 3) (v := .ref (atr 1)) (C := "CeilingRows$Trial") (T := nf_Trial) (N := 5) hx hb hts nin_Trial hown hK hP 17 rfl rfl 2 (by decide) (hts _ tw_124) (fun _ h9 => h9) rfl nd_Trial_clear_13 ?_
  refine lv_iconst (v := 0) hx hb nd_Trial_clear_16 (by decide) ?_
  have h_6 : (cw_Plan cI cZ cO apl pl ++ cw_Trial cI cZ cO atr apl atb trq_5 ++ cw_Board cI cZ cO atb apl tbq_2)[18]? = some (atr 1, (.inl (cI, 11, .inl (trq_5 1)) : va_E)) := rfl
  have hPc := cr_P1 hP h_6
  have hFc := cr_F1 hD hS hA h_6
  refine va_callv (va_runS (As := [.ref (atr 1), .int (0 : Int32)]) (rest := []) ⟨hx, hb, hml, hown, hts⟩ (ct_fill l dC dI cI cZ cO (atr 1) H.size 11 (trq_5 1) (0 : Int32) (by decide)) (va_cwS 2 hts (ng_S tw_360 tw_358 tw_8 tw_359) rfl rfl rfl (by decide +kernel) ⟨Nat.le_of_ble_eq_true rfl, Nat.le_of_ble_eq_true rfl⟩) ⟨fun a U g mk q => by obtain ⟨q0, q1, qP, qK, qD⟩ := q; exact ⟨q0, q1, qP, va_K.moved (u := U) (U := U.calling g mk a) (Vm.Alike.refl U.vm) qK, qD⟩, fun U hU hW => ⟨rfl, by rw [hU], by rw [hU]; exact hPc, va_K.moved hW.alike hK, cr_D1⟩⟩ rfl rfl hl.1 rfl (lv_room (Nat.le_of_ble_eq_true rfl)) nd_Trial_clear_17 ⟨Nat.zero_le _, Nat.zero_le _⟩) hS (fun q _ h => hFc q h) hFc (fun u t H1 locs ht hvm hw hB hz1 hk1 hS => ?_)
  obtain ⟨hP1, hK1, hD1⟩ := hB
  rw [ht] at hP1
  subst hw
  obtain ⟨hP, hD⟩ := cr_join1 hP hD h_6 hk1 hP1
  generalize H1 = H at hP hS ⊢
  have hP : va_P (dC, dI) vwCl (cw_Plan cI cZ cO apl pl ++ cw_Trial cI cZ cO atr apl atb (cr_fill trq_5 1 11 (0 : Int32)) ++ cw_Board cI cZ cO atb apl tbq_2) H := hP
  have hD : va_D A (cw_Plan cI cZ cO apl pl ++ cw_Trial cI cZ cO atr apl atb (cr_fill trq_5 1 11 (0 : Int32)) ++ cw_Board cI cZ cO atb apl tbq_2) := hD
  obtain ⟨trq_7, htrq_7⟩ : ∃ z, (cr_fill trq_5 1 11 (0 : Int32)) = z := ⟨_, rfl⟩
  rw [htrq_7] at hP hD
  try rw [htrq_7] at hM
  refine lv_iconst (v := 1) hx hb nd_Trial_clear_20 (by decide) ?_
  refine lv_istore_n (lv' := [(1, .int (1 : Int32)), (0, .ref (atr 0))]) hx hb nd_Trial_clear_21 rfl hl (by decide) rfl (fun ls hl => ?_)
  have hl := lv_sub hl [1, 0] rfl
  have lp_22 : ∀ (n_22 : Nat) (tr_22 : cr_S) (tb_22 : cr_S) (v1_22 : Int32), (cr_RBoard tb_22) → (1 ≤ v1_22.toInt ∧ v1_22.toInt ≤ 11) → (11 < v1_22.toInt + (n_22 : Int)) → lo_Trial_clear_22 pl n_22 tr_22 tb_22 v1_22 = tgt → ∀ (H : Heap) (locs : List Loc), va_P (dC, dI) vwCl (cw_Plan cI cZ cO apl pl ++ cw_Trial cI cZ cO atr apl atb tr_22 ++ cw_Board cI cZ cO atb apl tb_22) H → va_D A (cw_Plan cI cZ cO apl pl ++ cw_Trial cI cZ cO atr apl atb tr_22 ++ cw_Board cI cZ cO atb apl tb_22) → va_S A s.heap H locs → ∀ ls : Array Slot, lv_has ls 2 [(0, .ref (atr 0)), (1, .int v1_22)] → W p l e (headSpec nw_Trial_clear ({ frames := 2, cells := 0, slots := 0, locals := 43 } : Room)).room s m ([.ref (atr 0)] : List Value).toArray below meth c H locs 0 0 (MQ below (pq_Trial_clear dC dI cI cZ cO apl atr atb pl tr tb  A) ([.ref (atr 0)] : List Value).toArray s 0 0 A) (F0 m 22 ls []) := by
    intro n_22
    induction n_22 with
    | zero =>
      intro tr_22 tb_22 v1_22 hR_tb_22 hv1_22 hn_22
      exfalso; omega
    | succ n_22 ih_22 =>
      intro tr_22 tb_22 v1_22 hR_tb_22 hv1_22 hn_22 hM H locs hP hD hS ls hl
      have hn_22 : 11 < v1_22.toInt + ((n_22 : Int) + 1) := by omega
      rw [lo_Trial_clear_22] at hM
      refine lv_iload_n hx hb nd_Trial_clear_22 rfl (lv_at hl 1 rfl) ?_
      refine lv_aload_n hx hb nd_Trial_clear_23 rfl (lv_at hl 0 rfl) ?_
      refine va_get (D := (dC, dI)) (ci := 3) (v := .ref (apl 0)) (C := "CeilingRows$Trial") (T := nf_Trial) (N := 5) hx hb hts nin_Trial hown hK hP 17 rfl rfl 0 (by decide) (hts _ tw_122) (fun _ h9 => h9) rfl nd_Trial_clear_24 ?_
      refine va_get (D := (dC, dI)) (ci := 0) (v := .int (pl 0 0)) (C := "CeilingRows$Plan") (T := nf_Plan) (N := 7) hx hb hts nin_Plan hown hK hP 0 rfl rfl 0 (by decide) (hts _ tw_27) (fun _ h9 => h9) rfl nd_Trial_clear_27 ?_
      have f_8 := cr_rfo hR_pl.1
      refine lv_icmp_gt (tgt := 49) hx hb nd_Trial_clear_30 (by decide) (fun c_9 => ?_) (fun c_9 => ?_)
      · have c_9t := cr_lt c_9
        rw [if_pos c_9] at hM
        exact W.vret hx hb hr (fun t ht hW => ⟨⟨(tr_22, tb_22), rfl, ⟨by rw [hT, ← hM], by rw [hT, ← hM], hR_tb_22⟩, by rw [ht]; exact hP, va_K.moved hW.alike hK, hD⟩, hS.F ht⟩) hS.2.2 nd_Trial_clear_49
      · have c_9t := cr_nlt c_9
        rw [if_neg c_9] at hM
        refine lv_aload_n hx hb nd_Trial_clear_33 rfl (lv_at hl 0 rfl) ?_
        refine va_get (D := (dC, dI)) (ci := 3) (v := .ref (atr 2)) (C := "CeilingRows$Trial") (T := nf_Trial) (N := 5) hx hb hts nin_Trial hown hK hP 17 rfl rfl 3 (by decide) (hts _ tw_125) (fun _ h9 => h9) rfl nd_Trial_clear_34 ?_
        refine lv_iload_n hx hb nd_Trial_clear_37 rfl (lv_at hl 1 rfl) ?_
        have b_10 : vp_in v1_22 11 := vp_in_iff.mpr (by omega)
        have g_11 : v1_22.toNatClampNeg < 11 := cr_ix b_10
        refine ga_ald hx hb hK hP 19 2 rfl rfl b_10 g_11 nd_Trial_clear_38 ?_
        refine lv_iconst (v := 0) hx hb nd_Trial_clear_39 (by decide) ?_
        have h_12 : (cw_Plan cI cZ cO apl pl ++ cw_Trial cI cZ cO atr apl atb tr_22 ++ cw_Board cI cZ cO atb apl tb_22)[(17 + (3 + v1_22.toNatClampNeg))]? = some (atr (3 + v1_22.toNatClampNeg), (.inl (cI, 11, .inl (tr_22 (3 + v1_22.toNatClampNeg))) : va_E)) := (cr_getL (cr_getR (o := 17) rfl (cg_Trial_3 cI cZ cO atr apl atb tr_22 _ g_11)))
        have hPc := cr_P1 hP h_12
        have hFc := cr_F1 hD hS hA h_12
        refine va_callv (va_runS (As := [.ref (atr (3 + v1_22.toNatClampNeg)), .int (0 : Int32)]) (rest := []) ⟨hx, hb, hml, hown, hts⟩ (ct_fill l dC dI cI cZ cO (atr (3 + v1_22.toNatClampNeg)) H.size 11 (tr_22 (3 + v1_22.toNatClampNeg)) (0 : Int32) (by decide)) (va_cwS 2 hts (ng_S tw_360 tw_358 tw_8 tw_359) rfl rfl rfl (by decide +kernel) ⟨Nat.le_of_ble_eq_true rfl, Nat.le_of_ble_eq_true rfl⟩) ⟨fun a U g mk q => by obtain ⟨q0, q1, qP, qK, qD⟩ := q; exact ⟨q0, q1, qP, va_K.moved (u := U) (U := U.calling g mk a) (Vm.Alike.refl U.vm) qK, qD⟩, fun U hU hW => ⟨rfl, by rw [hU], by rw [hU]; exact hPc, va_K.moved hW.alike hK, cr_D1⟩⟩ rfl rfl hl.1 rfl (lv_room (Nat.le_of_ble_eq_true rfl)) nd_Trial_clear_40 ⟨Nat.zero_le _, Nat.zero_le _⟩) hS (fun q _ h => hFc q h) hFc (fun u t H1 locs ht hvm hw hB hz1 hk1 hS => ?_)
        obtain ⟨hP1, hK1, hD1⟩ := hB
        rw [ht] at hP1
        subst hw
        obtain ⟨hP, hD⟩ := cr_join1 hP hD h_12 hk1 hP1
        generalize H1 = H at hP hS ⊢
        rw [(cr_setL (by simp only [List.length_append, List.length_cons, List.length_nil]; omega) (cr_setR (o := 17) rfl (cf_Trial_3 cI cZ cO atr apl atb tr_22 (0 : Int32) _ g_11)))] at hP hD
        have hP : va_P (dC, dI) vwCl (cw_Plan cI cZ cO apl pl ++ cw_Trial cI cZ cO atr apl atb (cr_fill tr_22 (3 + v1_22.toNatClampNeg) 11 (0 : Int32)) ++ cw_Board cI cZ cO atb apl tb_22) H := hP
        have hD : va_D A (cw_Plan cI cZ cO apl pl ++ cw_Trial cI cZ cO atr apl atb (cr_fill tr_22 (3 + v1_22.toNatClampNeg) 11 (0 : Int32)) ++ cw_Board cI cZ cO atb apl tb_22) := hD
        obtain ⟨trq_13, htrq_13⟩ : ∃ z, (cr_fill tr_22 (3 + v1_22.toNatClampNeg) 11 (0 : Int32)) = z := ⟨_, rfl⟩
        rw [htrq_13] at hP hD
        try rw [htrq_13] at hM
        have e_14 : (v1_22 + (1 : Int32)).toInt = v1_22.toInt + (1 : Int32).toInt := cr_add (by omega)
        refine lv_iinc (v := (v1_22 + (1 : Int32))) (lv' := [(1, .int (v1_22 + (1 : Int32))), (0, .ref (atr 0))]) hx hb nd_Trial_clear_43 hl (k := 1) rfl (by rfl) (by decide) rfl (fun ls hl => ?_)
        refine lv_goto (tgt := 22) hx hb nd_Trial_clear_46 (by decide) ?_
        exact ih_22 trq_13 tb_22 (v1_22 + (1 : Int32)) hR_tb_22 (by omega) (by omega) hM _ _ hP hD hS _ (lv_sub hl [1, 0] rfl)
  exact lp_22 11 trq_7 tbq_2 (1 : Int32) hR_4 (by omega) (by omega) hM _ _ hP hD hS _ hl

theorem nd_Trial_startThoseDue_0 : decode prog_5_method_4_code 0 = .ok (.iconst 1, 1) := by decide +kernel
theorem nd_Trial_startThoseDue_1 : decode prog_5_method_4_code 1 = .ok (.istore 4, 2) := by decide +kernel
theorem nd_Trial_startThoseDue_3 : decode prog_5_method_4_code 3 = .ok (.iload 4, 2) := by decide +kernel
theorem nd_Trial_startThoseDue_5 : decode prog_5_method_4_code 5 = .ok (.aload_n 0, 1) := by decide +kernel
theorem nd_Trial_startThoseDue_6 : decode prog_5_method_4_code 6 = .ok (.getfield 20, 3) := by decide +kernel
theorem nd_Trial_startThoseDue_9 : decode prog_5_method_4_code 9 = .ok (.getfield 40, 3) := by decide +kernel
theorem nd_Trial_startThoseDue_12 : decode prog_5_method_4_code 12 = .ok (.if_icmp .gt (40), 3) := by decide +kernel
theorem nd_Trial_startThoseDue_15 : decode prog_5_method_4_code 15 = .ok (.lload_n 1, 1) := by decide +kernel
theorem nd_Trial_startThoseDue_16 : decode prog_5_method_4_code 16 = .ok (.iconst 3, 1) := by decide +kernel
theorem nd_Trial_startThoseDue_17 : decode prog_5_method_4_code 17 = .ok (.iload 4, 2) := by decide +kernel
theorem nd_Trial_startThoseDue_19 : decode prog_5_method_4_code 19 = .ok (.iconst 1, 1) := by decide +kernel
theorem nd_Trial_startThoseDue_20 : decode prog_5_method_4_code 20 = .ok (.isub, 1) := by decide +kernel
theorem nd_Trial_startThoseDue_21 : decode prog_5_method_4_code 21 = .ok (.imul, 1) := by decide +kernel
theorem nd_Trial_startThoseDue_22 : decode prog_5_method_4_code 22 = .ok (.lushr, 1) := by decide +kernel
theorem nd_Trial_startThoseDue_23 : decode prog_5_method_4_code 23 = .ok (.ldc2_w 73, 3) := by decide +kernel
theorem nd_Trial_startThoseDue_26 : decode prog_5_method_4_code 26 = .ok (.land, 1) := by decide +kernel
theorem nd_Trial_startThoseDue_27 : decode prog_5_method_4_code 27 = .ok (.lstore 5, 2) := by decide +kernel
theorem nd_Trial_startThoseDue_29 : decode prog_5_method_4_code 29 = .ok (.lload 5, 2) := by decide +kernel
theorem nd_Trial_startThoseDue_31 : decode prog_5_method_4_code 31 = .ok (.iload_n 3, 1) := by decide +kernel
theorem nd_Trial_startThoseDue_32 : decode prog_5_method_4_code 32 = .ok (.i2l, 1) := by decide +kernel
theorem nd_Trial_startThoseDue_33 : decode prog_5_method_4_code 33 = .ok (.lcmp, 1) := by decide +kernel
theorem nd_Trial_startThoseDue_34 : decode prog_5_method_4_code 34 = .ok (.ifCond .ne (12), 3) := by decide +kernel
theorem nd_Trial_startThoseDue_37 : decode prog_5_method_4_code 37 = .ok (.aload_n 0, 1) := by decide +kernel
theorem nd_Trial_startThoseDue_38 : decode prog_5_method_4_code 38 = .ok (.getfield 29, 3) := by decide +kernel
theorem nd_Trial_startThoseDue_41 : decode prog_5_method_4_code 41 = .ok (.iload 4, 2) := by decide +kernel
theorem nd_Trial_startThoseDue_43 : decode prog_5_method_4_code 43 = .ok (.invokevirtual 75, 3) := by decide +kernel
theorem nd_Trial_startThoseDue_46 : decode prog_5_method_4_code 46 = .ok (.iinc 4 1, 3) := by decide +kernel
theorem nd_Trial_startThoseDue_49 : decode prog_5_method_4_code 49 = .ok (.goto (-46), 3) := by decide +kernel
theorem nd_Trial_startThoseDue_52 : decode prog_5_method_4_code 52 = .ok (.return_, 1) := by decide +kernel
abbrev pq_Trial_startThoseDue (dC : Nat → ClassId) (dI : Nat → Nat → Nat) (cI cZ cO : ClassId) (apl atr atb : Nat → Nat) (pl : cr_S) (tr : cr_S) (tb : cr_S) (x1 : Int64) (x3 : Int32) (A : Nat → Prop) : Array Value → State → Outcome → State → Prop :=
  va_Qv (fun (tb' : cr_S) => tb' = md_Trial_startThoseDue pl tr tb x1 x3 ∧ cr_RBoard tb') (fun (tb' : cr_S) t => va_P (dC, dI) vwCl (cw_Plan cI cZ cO apl pl ++ cw_Trial cI cZ cO atr apl atb tr ++ cw_Board cI cZ cO atb apl tb') t.heap ∧ va_K (dC, dI) vwCl [(cI, .int), (cZ, .boolean), (cO, .array .int)] t ∧ va_D A (cw_Plan cI cZ cO apl pl ++ cw_Trial cI cZ cO atr apl atb tr ++ cw_Board cI cZ cO atb apl tb')) A
set_option maxHeartbeats 4000000 in
set_option maxRecDepth 100000 in
theorem ct_Trial_startThoseDue (l : Launch) (dC : Nat → ClassId) (dI : Nat → Nat → Nat) (cI cZ cO : ClassId) (apl atr atb : Nat → Nat) (sz : Nat) (pl : cr_S) (tr : cr_S) (tb : cr_S) (x1 : Int64) (x3 : Int32) (hR_tb : cr_RBoard tb) (hR_pl : cr_RPlan pl) : Met l ny_Trial_startThoseDue nw_Trial_startThoseDue ({ frames := 1, cells := 0, slots := 0, locals := 21 } : Room) (va_Pc [.ref (atr 0), .long x1, .int x3] (fun U => U.heap.size = sz ∧ va_P (dC, dI) vwCl (cw_Plan cI cZ cO apl pl ++ cw_Trial cI cZ cO atr apl atb tr ++ cw_Board cI cZ cO atb apl tb) U.heap ∧ va_K (dC, dI) vwCl [(cI, .int), (cZ, .boolean), (cO, .array .int)] U ∧ va_D (fun _ => True) (cw_Plan cI cZ cO apl pl ++ cw_Trial cI cZ cO atr apl atb tr ++ cw_Board cI cZ cO atb apl tb))) (pq_Trial_startThoseDue dC dI cI cZ cO apl atr atb pl tr tb x1 x3 (va_A (cw_Plan cI cZ cO apl pl ++ cw_Trial cI cZ cO atr apl atb tr ++ cw_Board cI cZ cO atb apl tb) sz)) 0 0 (va_A (cw_Plan cI cZ cO apl pl ++ cw_Trial cI cZ cO atr apl atb tr ++ cw_Board cI cZ cO atb apl tb) sz) := by
  refine Met.ofW (cc := prog_5_method_4_code) (maxL := 7) (ret := none) (by decide) rfl ?_
  intro p e s m args below meth c s₁ B hml hv
  obtain ⟨rfl, hsz, hP, hK, hD0⟩ := hv
  have hx := B.exec
  have hb := B.bytes
  have hr := B.returns
  have hts0 := atoms_spec (ws := nw_Trial_startThoseDue) B.pre
  have hts : ∀ w ∈ ng_tbl, w.before ([.ref (atr 0), .long x1, .int x3] : List Value).toArray s = true := fun w h => hts0 w (List.mem_cons_of_mem _ h)
  have hown : s.vm.findClass "CeilingRows$Trial" = some m.cls := findClass_of_methodNamed B.named
  have hlocks := B.notSynchronized
  subst hsz
  have hD := hD0.self (sz := s.heap.size)
  generalize hAe : va_A (cw_Plan cI cZ cO apl pl ++ cw_Trial cI cZ cO atr apl atb tr ++ cw_Board cI cZ cO atb apl tb) s.heap.size = A at hD ⊢
  have hA : ∀ q : Nat, s.heap.size ≤ q → A q := fun q h => by rw [← hAe]; exact Or.inr h
  have hS : va_S A s.heap s.heap [] := va_S.rf
  have hP : va_P (dC, dI) vwCl (cw_Plan cI cZ cO apl pl ++ cw_Trial cI cZ cO atr apl atb tr ++ cw_Board cI cZ cO atb apl tb) s.heap := hP
  have hl := lv_entry ([.ref (atr 0), .long x1, .int x3]) (n := 7) (Nat.le_of_ble_eq_true rfl)
  rw [lg_entry_eq]
  generalize (lg_sl ([.ref (atr 0), .long x1, .int x3]) ++ List.replicate (7 - (lg_sl ([.ref (atr 0), .long x1, .int x3])).length) Slot.unset).toArray = ls at hl ⊢
  have hl : lv_has ls 7 [(0, .ref (atr 0)), (1, .long x1), (3, .int x3)] := hl
  have k_0 : (0 : Int32).toInt = 0 := by decide
  have k_1 : (1 : Int32).toInt = 1 := by decide
  have k_3 : (3 : Int32).toInt = 3 := by decide
  obtain ⟨tgt, hT⟩ : ∃ z, md_Trial_startThoseDue pl tr tb x1 x3 = z := ⟨_, rfl⟩
  have hM := hT
  unfold md_Trial_startThoseDue at hM
  refine lv_iconst (v := 1) hx hb nd_Trial_startThoseDue_0 (by decide) ?_
  refine lv_istore (lv' := [(4, .int (1 : Int32)), (0, .ref (atr 0)), (1, .long x1), (3, .int x3)]) hx hb nd_Trial_startThoseDue_1 hl (by decide) rfl (fun ls hl => ?_)
  have hl := lv_sub hl [1, 2, 3, 0] rfl
  have lp_3 : ∀ (n_3 : Nat) (tb_3 : cr_S) (v4_3 : Int32), (cr_RBoard tb_3) → (1 ≤ v4_3.toInt ∧ v4_3.toInt ≤ 11) → (11 < v4_3.toInt + (n_3 : Int)) → lo_Trial_startThoseDue_3 pl tr x1 x3 n_3 tb_3 v4_3 = tgt → ∀ (H : Heap) (locs : List Loc), va_P (dC, dI) vwCl (cw_Plan cI cZ cO apl pl ++ cw_Trial cI cZ cO atr apl atb tr ++ cw_Board cI cZ cO atb apl tb_3) H → va_D A (cw_Plan cI cZ cO apl pl ++ cw_Trial cI cZ cO atr apl atb tr ++ cw_Board cI cZ cO atb apl tb_3) → va_S A s.heap H locs → ∀ ls : Array Slot, lv_has ls 7 [(0, .ref (atr 0)), (1, .long x1), (3, .int x3), (4, .int v4_3)] → W p l e (headSpec nw_Trial_startThoseDue ({ frames := 1, cells := 0, slots := 0, locals := 21 } : Room)).room s m ([.ref (atr 0), .long x1, .int x3] : List Value).toArray below meth c H locs 0 0 (MQ below (pq_Trial_startThoseDue dC dI cI cZ cO apl atr atb pl tr tb x1 x3 A) ([.ref (atr 0), .long x1, .int x3] : List Value).toArray s 0 0 A) (F0 m 3 ls []) := by
    intro n_3
    induction n_3 with
    | zero =>
      intro tb_3 v4_3 hR_tb_3 hv4_3 hn_3
      exfalso; omega
    | succ n_3 ih_3 =>
      intro tb_3 v4_3 hR_tb_3 hv4_3 hn_3 hM H locs hP hD hS ls hl
      have hn_3 : 11 < v4_3.toInt + ((n_3 : Int) + 1) := by omega
      rw [lo_Trial_startThoseDue_3] at hM
      refine lv_iload hx hb nd_Trial_startThoseDue_3 (lv_at hl 3 rfl) ?_
      refine lv_aload_n hx hb nd_Trial_startThoseDue_5 rfl (lv_at hl 0 rfl) ?_
      refine va_get (D := (dC, dI)) (ci := 3) (v := .ref (apl 0)) (C := "CeilingRows$Trial") (T := nf_Trial) (N := 5) hx hb hts nin_Trial hown hK hP 17 rfl rfl 0 (by decide) (hts _ tw_122) (fun _ h9 => h9) rfl nd_Trial_startThoseDue_6 ?_
      refine va_get (D := (dC, dI)) (ci := 0) (v := .int (pl 0 0)) (C := "CeilingRows$Plan") (T := nf_Plan) (N := 7) hx hb hts nin_Plan hown hK hP 0 rfl rfl 0 (by decide) (hts _ tw_27) (fun _ h9 => h9) rfl nd_Trial_startThoseDue_9 ?_
      have f_1 := cr_rfo hR_pl.1
      refine lv_icmp_gt (tgt := 52) hx hb nd_Trial_startThoseDue_12 (by decide) (fun c_2 => ?_) (fun c_2 => ?_)
      · have c_2t := cr_lt c_2
        rw [if_pos c_2] at hM
        exact W.vret hx hb hr (fun t ht hW => ⟨⟨tb_3, rfl, ⟨by rw [hT, ← hM], hR_tb_3⟩, by rw [ht]; exact hP, va_K.moved hW.alike hK, hD⟩, hS.F ht⟩) hS.2.2 nd_Trial_startThoseDue_52
      · have c_2t := cr_nlt c_2
        rw [if_neg c_2] at hM
        refine lv_lload_n hx hb nd_Trial_startThoseDue_15 rfl (lv_at hl 1 rfl) ?_
        refine lv_iconst (v := 3) hx hb nd_Trial_startThoseDue_16 (by decide) ?_
        refine lv_iload hx hb nd_Trial_startThoseDue_17 (lv_at hl 3 rfl) ?_
        refine lv_iconst (v := 1) hx hb nd_Trial_startThoseDue_19 (by decide) ?_
        refine lv_isub hx hb nd_Trial_startThoseDue_20 ?_
        have e_3 : (v4_3 - (1 : Int32)).toInt = v4_3.toInt - (1 : Int32).toInt := cr_sub (by omega)
        refine lv_imul hx hb nd_Trial_startThoseDue_21 ?_
        have e_4 : ((3 : Int32) * (v4_3 - (1 : Int32))).toInt = 3 * (v4_3 - (1 : Int32)).toInt := cr_mulL 3 k_3 (by omega)
        refine lv_lushr (v := (x1.toUInt64 >>> (((3 : Int32) * (v4_3 - (1 : Int32))).toInt64.toUInt64 &&& Int64.toUInt64 63)).toInt64) hx hb nd_Trial_startThoseDue_22 rfl ?_
        refine lv_ldc2 (v := 7) hx hb hown (hts _ tw_365) nd_Trial_startThoseDue_23 ?_
        refine lv_land hx hb nd_Trial_startThoseDue_26 ?_
        refine lv_lstore (lv' := [(5, .long ((x1.toUInt64 >>> (((3 : Int32) * (v4_3 - (1 : Int32))).toInt64.toUInt64 &&& Int64.toUInt64 63)).toInt64 &&& (7 : Int64))), (0, .ref (atr 0)), (1, .long x1), (3, .int x3), (4, .int v4_3)]) hx hb nd_Trial_startThoseDue_27 hl (by decide) rfl (fun ls hl => ?_)
        refine lv_lload hx hb nd_Trial_startThoseDue_29 (lv_at hl 0 rfl) ?_
        refine lv_iload_n hx hb nd_Trial_startThoseDue_31 rfl (lv_at hl 3 rfl) ?_
        refine lv_i2l (v := x3.toInt64) hx hb nd_Trial_startThoseDue_32 rfl ?_
        refine W.lcmp hx hb nd_Trial_startThoseDue_33 ?_
        refine lv_if_ne (tgt := 46) hx hb nd_Trial_startThoseDue_34 (by decide) (fun c_5 => ?_) (fun c_5 => ?_)
        · have c_5t := cr_ne c_5
          rw [if_neg c_5] at hM
          have e_6 : (v4_3 + (1 : Int32)).toInt = v4_3.toInt + (1 : Int32).toInt := cr_add (by omega)
          refine lv_iinc (v := (v4_3 + (1 : Int32))) (lv' := [(4, .int (v4_3 + (1 : Int32))), (5, .long ((x1.toUInt64 >>> (((3 : Int32) * (v4_3 - (1 : Int32))).toInt64.toUInt64 &&& Int64.toUInt64 63)).toInt64 &&& (7 : Int64))), (0, .ref (atr 0)), (1, .long x1), (3, .int x3)]) hx hb nd_Trial_startThoseDue_46 hl (k := 4) rfl (by rfl) (by decide) rfl (fun ls hl => ?_)
          refine lv_goto (tgt := 3) hx hb nd_Trial_startThoseDue_49 (by decide) ?_
          exact ih_3 tb_3 (v4_3 + (1 : Int32)) hR_tb_3 (by omega) (by omega) hM _ _ hP hD hS _ (lv_sub hl [2, 3, 4, 0] rfl)
        · have c_5t := cr_eq c_5
          rw [if_pos c_5] at hM
          refine lv_aload_n hx hb nd_Trial_startThoseDue_37 rfl (lv_at hl 1 rfl) ?_
          refine va_get (D := (dC, dI)) (ci := 3) (v := .ref (atb 0)) (C := "CeilingRows$Trial") (T := nf_Trial) (N := 5) hx hb hts nin_Trial hown hK hP 17 rfl rfl 1 (by decide) (hts _ tw_123) (fun _ h9 => h9) rfl nd_Trial_startThoseDue_38 ?_
          refine lv_iload hx hb nd_Trial_startThoseDue_41 (lv_at hl 4 rfl) ?_
          have hPc := hP.sub (ws' := cw_Plan cI cZ cO apl pl ++ cw_Board cI cZ cO atb apl tb_3) [0, 1, 2, 3, 4, 5, 6, 7, 8, 9, 10, 11, 12, 13, 14, 15, 16, 31, 32, 33, 34, 35, 36] rfl
          have hDc := hD.sub (ws' := cw_Plan cI cZ cO apl pl ++ cw_Board cI cZ cO atb apl tb_3) [0, 1, 2, 3, 4, 5, 6, 7, 8, 9, 10, 11, 12, 13, 14, 15, 16, 31, 32, 33, 34, 35, 36] (by decide) rfl
          have hFc := va_free (wc := cw_Plan cI cZ cO apl pl ++ cw_Board cI cZ cO atb apl tb_3) hD hS hA [0, 1, 2, 3, 4, 5, 6, 7, 8, 9, 10, 11, 12, 13, 14, 15, 16, 31, 32, 33, 34, 35, 36] rfl
          refine va_callv (va_runV (As := [.int v4_3]) (rest := []) ⟨hx, hb, hml, hown, hts⟩ (ct_Board_makeReady l dC dI cI cZ cO apl atb H.size pl tb_3 v4_3 hR_tb_3 hR_pl (by omega)) (cwV 1 hts (ng_V tw_366 tw_227 tw_228 tw_3 tw_229) rfl rfl rfl (by decide +kernel) ⟨Nat.le_of_ble_eq_true rfl, Nat.le_of_ble_eq_true rfl⟩) ⟨fun a U g mk q => by obtain ⟨q0, q1, qP, qK, qD⟩ := q; exact ⟨q0, q1, qP, va_K.moved (u := U) (U := U.calling g mk a) (Vm.Alike.refl U.vm) qK, qD⟩, va_recv hK hPc (ci := 1) (q0 := 17) rfl rfl, fun U hU hW => ⟨rfl, by rw [hU], by rw [hU]; exact hPc, va_K.moved hW.alike hK, hDc.weaken (fun _ _ _ _ => trivial)⟩⟩ rfl rfl hl.1 rfl (lv_room (Nat.le_of_ble_eq_true rfl)) nd_Trial_startThoseDue_43 ⟨Nat.zero_le _, Nat.zero_le _⟩) hS (fun q _ h => hFc q h) hFc (fun u t H1 locs ht hvm hw hB hz1 hk1 hS => ?_)
          obtain ⟨hP1, hK1, hD1⟩ := hB
          rw [ht] at hP1
          obtain ⟨tbq_8, rfl⟩ : ∃ z, z = u := ⟨_, rfl⟩
          obtain ⟨w_9, hR_10⟩ := hw
          try rw [← w_9] at hM
          obtain ⟨hP, hD⟩ := va_join (wr := cw_Trial cI cZ cO atr apl atb tr) (w1 := cw_Plan cI cZ cO apl pl ++ cw_Board cI cZ cO atb apl tbq_8) hP hD [0, 1, 2, 3, 4, 5, 6, 7, 8, 9, 10, 11, 12, 13, 14, 15, 16, 31, 32, 33, 34, 35, 36] [17, 18, 19, 20, 21, 22, 23, 24, 25, 26, 27, 28, 29, 30] rfl rfl (by decide) (by decide) hk1 hFc hP1 hD1
          have hP := hP.sub (ws' := cw_Plan cI cZ cO apl pl ++ cw_Trial cI cZ cO atr apl atb tr ++ cw_Board cI cZ cO atb apl tbq_8) [14, 15, 16, 17, 18, 19, 20, 21, 22, 23, 24, 25, 26, 27, 28, 29, 30, 0, 1, 2, 3, 4, 5, 6, 7, 8, 9, 10, 11, 12, 13, 31, 32, 33, 34, 35, 36] rfl
          have hD := hD.sub (ws' := cw_Plan cI cZ cO apl pl ++ cw_Trial cI cZ cO atr apl atb tr ++ cw_Board cI cZ cO atb apl tbq_8) [14, 15, 16, 17, 18, 19, 20, 21, 22, 23, 24, 25, 26, 27, 28, 29, 30, 0, 1, 2, 3, 4, 5, 6, 7, 8, 9, 10, 11, 12, 13, 31, 32, 33, 34, 35, 36] (by decide) rfl
          generalize H1 = H at hP hS ⊢
          have e_11 : (v4_3 + (1 : Int32)).toInt = v4_3.toInt + (1 : Int32).toInt := cr_add (by omega)
          refine lv_iinc (v := (v4_3 + (1 : Int32))) (lv' := [(4, .int (v4_3 + (1 : Int32))), (5, .long ((x1.toUInt64 >>> (((3 : Int32) * (v4_3 - (1 : Int32))).toInt64.toUInt64 &&& Int64.toUInt64 63)).toInt64 &&& (7 : Int64))), (0, .ref (atr 0)), (1, .long x1), (3, .int x3)]) hx hb nd_Trial_startThoseDue_46 hl (k := 4) rfl (by rfl) (by decide) rfl (fun ls hl => ?_)
          refine lv_goto (tgt := 3) hx hb nd_Trial_startThoseDue_49 (by decide) ?_
          exact ih_3 tbq_8 (v4_3 + (1 : Int32)) hR_10 (by omega) (by omega) hM _ _ hP hD hS _ (lv_sub hl [2, 3, 4, 0] rfl)
  exact lp_3 11 tb (1 : Int32) hR_tb (by omega) (by omega) hM _ _ hP hD hS _ hl

theorem nd_Trial_haveTick_0 : decode prog_5_method_5_code 0 = .ok (.aload_n 0, 1) := by decide +kernel
theorem nd_Trial_haveTick_1 : decode prog_5_method_5_code 1 = .ok (.iload_n 1, 1) := by decide +kernel
theorem nd_Trial_haveTick_2 : decode prog_5_method_5_code 2 = .ok (.aload_n 0, 1) := by decide +kernel
theorem nd_Trial_haveTick_3 : decode prog_5_method_5_code 3 = .ok (.getfield 9, 3) := by decide +kernel
theorem nd_Trial_haveTick_6 : decode prog_5_method_5_code 6 = .ok (.iload_n 1, 1) := by decide +kernel
theorem nd_Trial_haveTick_7 : decode prog_5_method_5_code 7 = .ok (.iaload, 1) := by decide +kernel
theorem nd_Trial_haveTick_8 : decode prog_5_method_5_code 8 = .ok (.invokevirtual 78, 3) := by decide +kernel
theorem nd_Trial_haveTick_11 : decode prog_5_method_5_code 11 = .ok (.istore_n 2, 1) := by decide +kernel
theorem nd_Trial_haveTick_12 : decode prog_5_method_5_code 12 = .ok (.iload_n 2, 1) := by decide +kernel
theorem nd_Trial_haveTick_13 : decode prog_5_method_5_code 13 = .ok (.ifCond .eq (31), 3) := by decide +kernel
theorem nd_Trial_haveTick_16 : decode prog_5_method_5_code 16 = .ok (.aload_n 0, 1) := by decide +kernel
theorem nd_Trial_haveTick_17 : decode prog_5_method_5_code 17 = .ok (.getfield 29, 3) := by decide +kernel
theorem nd_Trial_haveTick_20 : decode prog_5_method_5_code 20 = .ok (.getfield 81, 3) := by decide +kernel
theorem nd_Trial_haveTick_23 : decode prog_5_method_5_code 23 = .ok (.iload_n 2, 1) := by decide +kernel
theorem nd_Trial_haveTick_24 : decode prog_5_method_5_code 24 = .ok (.iaload, 1) := by decide +kernel
theorem nd_Trial_haveTick_25 : decode prog_5_method_5_code 25 = .ok (.iload_n 1, 1) := by decide +kernel
theorem nd_Trial_haveTick_26 : decode prog_5_method_5_code 26 = .ok (.if_icmp .eq (12), 3) := by decide +kernel
theorem nd_Trial_haveTick_29 : decode prog_5_method_5_code 29 = .ok (.aload_n 0, 1) := by decide +kernel
theorem nd_Trial_haveTick_30 : decode prog_5_method_5_code 30 = .ok (.getfield 29, 3) := by decide +kernel
theorem nd_Trial_haveTick_33 : decode prog_5_method_5_code 33 = .ok (.iload_n 1, 1) := by decide +kernel
theorem nd_Trial_haveTick_34 : decode prog_5_method_5_code 34 = .ok (.iload_n 2, 1) := by decide +kernel
theorem nd_Trial_haveTick_35 : decode prog_5_method_5_code 35 = .ok (.invokevirtual 84, 3) := by decide +kernel
theorem nd_Trial_haveTick_38 : decode prog_5_method_5_code 38 = .ok (.aload_n 0, 1) := by decide +kernel
theorem nd_Trial_haveTick_39 : decode prog_5_method_5_code 39 = .ok (.iload_n 1, 1) := by decide +kernel
theorem nd_Trial_haveTick_40 : decode prog_5_method_5_code 40 = .ok (.iload_n 2, 1) := by decide +kernel
theorem nd_Trial_haveTick_41 : decode prog_5_method_5_code 41 = .ok (.invokevirtual 88, 3) := by decide +kernel
theorem nd_Trial_haveTick_44 : decode prog_5_method_5_code 44 = .ok (.aload_n 0, 1) := by decide +kernel
theorem nd_Trial_haveTick_45 : decode prog_5_method_5_code 45 = .ok (.getfield 9, 3) := by decide +kernel
theorem nd_Trial_haveTick_48 : decode prog_5_method_5_code 48 = .ok (.iload_n 1, 1) := by decide +kernel
theorem nd_Trial_haveTick_49 : decode prog_5_method_5_code 49 = .ok (.dup2, 1) := by decide +kernel
theorem nd_Trial_haveTick_50 : decode prog_5_method_5_code 50 = .ok (.iaload, 1) := by decide +kernel
theorem nd_Trial_haveTick_51 : decode prog_5_method_5_code 51 = .ok (.iconst 1, 1) := by decide +kernel
theorem nd_Trial_haveTick_52 : decode prog_5_method_5_code 52 = .ok (.iadd, 1) := by decide +kernel
theorem nd_Trial_haveTick_53 : decode prog_5_method_5_code 53 = .ok (.iastore, 1) := by decide +kernel
theorem nd_Trial_haveTick_54 : decode prog_5_method_5_code 54 = .ok (.iload_n 2, 1) := by decide +kernel
theorem nd_Trial_haveTick_55 : decode prog_5_method_5_code 55 = .ok (.ifCond .eq (26), 3) := by decide +kernel
theorem nd_Trial_haveTick_58 : decode prog_5_method_5_code 58 = .ok (.aload_n 0, 1) := by decide +kernel
theorem nd_Trial_haveTick_59 : decode prog_5_method_5_code 59 = .ok (.iload_n 1, 1) := by decide +kernel
theorem nd_Trial_haveTick_60 : decode prog_5_method_5_code 60 = .ok (.aload_n 0, 1) := by decide +kernel
theorem nd_Trial_haveTick_61 : decode prog_5_method_5_code 61 = .ok (.getfield 9, 3) := by decide +kernel
theorem nd_Trial_haveTick_64 : decode prog_5_method_5_code 64 = .ok (.iload_n 1, 1) := by decide +kernel
theorem nd_Trial_haveTick_65 : decode prog_5_method_5_code 65 = .ok (.iaload, 1) := by decide +kernel
theorem nd_Trial_haveTick_66 : decode prog_5_method_5_code 66 = .ok (.invokevirtual 78, 3) := by decide +kernel
theorem nd_Trial_haveTick_69 : decode prog_5_method_5_code 69 = .ok (.iload_n 2, 1) := by decide +kernel
theorem nd_Trial_haveTick_70 : decode prog_5_method_5_code 70 = .ok (.if_icmp .eq (11), 3) := by decide +kernel
theorem nd_Trial_haveTick_73 : decode prog_5_method_5_code 73 = .ok (.aload_n 0, 1) := by decide +kernel
theorem nd_Trial_haveTick_74 : decode prog_5_method_5_code 74 = .ok (.getfield 29, 3) := by decide +kernel
theorem nd_Trial_haveTick_77 : decode prog_5_method_5_code 77 = .ok (.iload_n 1, 1) := by decide +kernel
theorem nd_Trial_haveTick_78 : decode prog_5_method_5_code 78 = .ok (.invokevirtual 91, 3) := by decide +kernel
theorem nd_Trial_haveTick_81 : decode prog_5_method_5_code 81 = .ok (.aload_n 0, 1) := by decide +kernel
theorem nd_Trial_haveTick_82 : decode prog_5_method_5_code 82 = .ok (.getfield 9, 3) := by decide +kernel
theorem nd_Trial_haveTick_85 : decode prog_5_method_5_code 85 = .ok (.iload_n 1, 1) := by decide +kernel
theorem nd_Trial_haveTick_86 : decode prog_5_method_5_code 86 = .ok (.iaload, 1) := by decide +kernel
theorem nd_Trial_haveTick_87 : decode prog_5_method_5_code 87 = .ok (.aload_n 0, 1) := by decide +kernel
theorem nd_Trial_haveTick_88 : decode prog_5_method_5_code 88 = .ok (.iload_n 1, 1) := by decide +kernel
theorem nd_Trial_haveTick_89 : decode prog_5_method_5_code 89 = .ok (.invokevirtual 94, 3) := by decide +kernel
theorem nd_Trial_haveTick_92 : decode prog_5_method_5_code 92 = .ok (.if_icmp .lt (21), 3) := by decide +kernel
theorem nd_Trial_haveTick_95 : decode prog_5_method_5_code 95 = .ok (.aload_n 0, 1) := by decide +kernel
theorem nd_Trial_haveTick_96 : decode prog_5_method_5_code 96 = .ok (.getfield 29, 3) := by decide +kernel
theorem nd_Trial_haveTick_99 : decode prog_5_method_5_code 99 = .ok (.iload_n 1, 1) := by decide +kernel
theorem nd_Trial_haveTick_100 : decode prog_5_method_5_code 100 = .ok (.invokevirtual 97, 3) := by decide +kernel
theorem nd_Trial_haveTick_103 : decode prog_5_method_5_code 103 = .ok (.aload_n 0, 1) := by decide +kernel
theorem nd_Trial_haveTick_104 : decode prog_5_method_5_code 104 = .ok (.dup, 1) := by decide +kernel
theorem nd_Trial_haveTick_105 : decode prog_5_method_5_code 105 = .ok (.getfield 36, 3) := by decide +kernel
theorem nd_Trial_haveTick_108 : decode prog_5_method_5_code 108 = .ok (.iconst 1, 1) := by decide +kernel
theorem nd_Trial_haveTick_109 : decode prog_5_method_5_code 109 = .ok (.iadd, 1) := by decide +kernel
theorem nd_Trial_haveTick_110 : decode prog_5_method_5_code 110 = .ok (.putfield 36, 3) := by decide +kernel
theorem nd_Trial_haveTick_113 : decode prog_5_method_5_code 113 = .ok (.return_, 1) := by decide +kernel
abbrev pq_Trial_haveTick (dC : Nat → ClassId) (dI : Nat → Nat → Nat) (cI cZ cO : ClassId) (apl atr atb : Nat → Nat) (pl : cr_S) (tr : cr_S) (tb : cr_S) (x1 : Int32) (A : Nat → Prop) : Array Value → State → Outcome → State → Prop :=
  va_Qv (fun (u : cr_S × cr_S) => u.1 = (md_Trial_haveTick pl tr tb x1).1 ∧ u.2 = (md_Trial_haveTick pl tr tb x1).2 ∧ cr_RBoard u.2) (fun (u : cr_S × cr_S) t => va_P (dC, dI) vwCl (cw_Plan cI cZ cO apl pl ++ cw_Trial cI cZ cO atr apl atb u.1 ++ cw_Board cI cZ cO atb apl u.2) t.heap ∧ va_K (dC, dI) vwCl [(cI, .int), (cZ, .boolean), (cO, .array .int)] t ∧ va_D A (cw_Plan cI cZ cO apl pl ++ cw_Trial cI cZ cO atr apl atb u.1 ++ cw_Board cI cZ cO atb apl u.2)) A
set_option maxHeartbeats 4000000 in
set_option maxRecDepth 100000 in
theorem ct_Trial_haveTick (l : Launch) (dC : Nat → ClassId) (dI : Nat → Nat → Nat) (cI cZ cO : ClassId) (apl atr atb : Nat → Nat) (sz : Nat) (pl : cr_S) (tr : cr_S) (tb : cr_S) (x1 : Int32) (hR_tb : cr_RBoard tb) (hR_pl : cr_RPlan pl) (hx1 : 0 ≤ x1.toInt ∧ x1.toInt ≤ 10) : Met l ny_Trial_haveTick nw_Trial_haveTick ({ frames := 3, cells := 0, slots := 0, locals := 68 } : Room) (va_Pc [.ref (atr 0), .int x1] (fun U => U.heap.size = sz ∧ va_P (dC, dI) vwCl (cw_Plan cI cZ cO apl pl ++ cw_Trial cI cZ cO atr apl atb tr ++ cw_Board cI cZ cO atb apl tb) U.heap ∧ va_K (dC, dI) vwCl [(cI, .int), (cZ, .boolean), (cO, .array .int)] U ∧ va_D (fun _ => True) (cw_Plan cI cZ cO apl pl ++ cw_Trial cI cZ cO atr apl atb tr ++ cw_Board cI cZ cO atb apl tb))) (pq_Trial_haveTick dC dI cI cZ cO apl atr atb pl tr tb x1 (va_A (cw_Plan cI cZ cO apl pl ++ cw_Trial cI cZ cO atr apl atb tr ++ cw_Board cI cZ cO atb apl tb) sz)) 0 0 (va_A (cw_Plan cI cZ cO apl pl ++ cw_Trial cI cZ cO atr apl atb tr ++ cw_Board cI cZ cO atb apl tb) sz) := by
  refine Met.ofW (cc := prog_5_method_5_code) (maxL := 3) (ret := none) (by decide) rfl ?_
  intro p e s m args below meth c s₁ B hml hv
  obtain ⟨rfl, hsz, hP, hK, hD0⟩ := hv
  have hx := B.exec
  have hb := B.bytes
  have hr := B.returns
  have hts0 := atoms_spec (ws := nw_Trial_haveTick) B.pre
  have hts : ∀ w ∈ ng_tbl, w.before ([.ref (atr 0), .int x1] : List Value).toArray s = true := fun w h => hts0 w (List.mem_cons_of_mem _ h)
  have hown : s.vm.findClass "CeilingRows$Trial" = some m.cls := findClass_of_methodNamed B.named
  have hlocks := B.notSynchronized
  subst hsz
  have hD := hD0.self (sz := s.heap.size)
  generalize hAe : va_A (cw_Plan cI cZ cO apl pl ++ cw_Trial cI cZ cO atr apl atb tr ++ cw_Board cI cZ cO atb apl tb) s.heap.size = A at hD ⊢
  have hA : ∀ q : Nat, s.heap.size ≤ q → A q := fun q h => by rw [← hAe]; exact Or.inr h
  have hS : va_S A s.heap s.heap [] := va_S.rf
  have hP : va_P (dC, dI) vwCl (cw_Plan cI cZ cO apl pl ++ cw_Trial cI cZ cO atr apl atb tr ++ cw_Board cI cZ cO atb apl tb) s.heap := hP
  have hl := lv_entry ([.ref (atr 0), .int x1]) (n := 3) (Nat.le_of_ble_eq_true rfl)
  rw [lg_entry_eq]
  generalize (lg_sl ([.ref (atr 0), .int x1]) ++ List.replicate (3 - (lg_sl ([.ref (atr 0), .int x1])).length) Slot.unset).toArray = ls at hl ⊢
  have hl : lv_has ls 3 [(0, .ref (atr 0)), (1, .int x1)] := hl
  have k_0 : (0 : Int32).toInt = 0 := by decide
  have k_1 : (1 : Int32).toInt = 1 := by decide
  obtain ⟨tgt, hT⟩ : ∃ z, md_Trial_haveTick pl tr tb x1 = z := ⟨_, rfl⟩
  have hM := hT
  unfold md_Trial_haveTick at hM
  have hj_81 : ∀ (tr_81 : cr_S) (tb_81 : cr_S), (cr_RBoard tb_81) → jn_Trial_haveTick_81 pl x1 tr_81 tb_81 = tgt → ∀ (H : Heap) (locs : List Loc), va_P (dC, dI) vwCl (cw_Plan cI cZ cO apl pl ++ cw_Trial cI cZ cO atr apl atb tr_81 ++ cw_Board cI cZ cO atb apl tb_81) H → va_D A (cw_Plan cI cZ cO apl pl ++ cw_Trial cI cZ cO atr apl atb tr_81 ++ cw_Board cI cZ cO atb apl tb_81) → va_S A s.heap H locs → ∀ ls : Array Slot, lv_has ls 3 [(0, .ref (atr 0)), (1, .int x1)] → W p l e (headSpec nw_Trial_haveTick ({ frames := 3, cells := 0, slots := 0, locals := 68 } : Room)).room s m ([.ref (atr 0), .int x1] : List Value).toArray below meth c H locs 0 0 (MQ below (pq_Trial_haveTick dC dI cI cZ cO apl atr atb pl tr tb x1 A) ([.ref (atr 0), .int x1] : List Value).toArray s 0 0 A) (F0 m 81 ls []) := by
    intro tr_81 tb_81 hR_tb_81 hM H locs hP hD hS ls hl
    unfold jn_Trial_haveTick_81 at hM
    refine lv_aload_n hx hb nd_Trial_haveTick_81 rfl (lv_at hl 0 rfl) ?_
    refine va_get (D := (dC, dI)) (ci := 3) (v := .ref (atr 1)) (C := "CeilingRows$Trial") (T := nf_Trial) (N := 5) hx hb hts nin_Trial hown hK hP 17 rfl rfl 2 (by decide) (hts _ tw_124) (fun _ h9 => h9) rfl nd_Trial_haveTick_82 ?_
    refine lv_iload_n hx hb nd_Trial_haveTick_85 rfl (lv_at hl 1 rfl) ?_
    have b_1 : vp_in x1 11 := vp_in_iff.mpr (by omega)
    refine va_iald hx hb hK hP 18 0 rfl rfl b_1 nd_Trial_haveTick_86 ?_
    refine lv_aload_n hx hb nd_Trial_haveTick_87 rfl (lv_at hl 0 rfl) ?_
    refine lv_iload_n hx hb nd_Trial_haveTick_88 rfl (lv_at hl 1 rfl) ?_
    have hPc := hP
    have hDc := hD
    have hFc := va_free (wc := cw_Plan cI cZ cO apl pl ++ cw_Trial cI cZ cO atr apl atb tr_81 ++ cw_Board cI cZ cO atb apl tb_81) hD hS hA [0, 1, 2, 3, 4, 5, 6, 7, 8, 9, 10, 11, 12, 13, 14, 15, 16, 17, 18, 19, 20, 21, 22, 23, 24, 25, 26, 27, 28, 29, 30, 31, 32, 33, 34, 35, 36] rfl
    refine va_calli (va_runV (As := [.int x1]) (rest := [.int (tr_81 1 x1.toNatClampNeg)]) ⟨hx, hb, hml, hown, hts⟩ (ct_Trial_ticksOf l dC dI cI cZ cO apl atr atb H.size pl tr_81 tb_81 x1 hR_tb_81 hR_pl (by omega)) (cwV 1 hts (ng_V tw_391 tw_393 tp_16 tw_5 tw_394) rfl rfl rfl (by decide +kernel) ⟨Nat.le_of_ble_eq_true rfl, Nat.le_of_ble_eq_true rfl⟩) ⟨fun a U g mk q => by obtain ⟨q0, q1, qP, qK, qD⟩ := q; exact ⟨q0, q1, qP, va_K.moved (u := U) (U := U.calling g mk a) (Vm.Alike.refl U.vm) qK, qD⟩, va_recv hK hPc (ci := 3) (q0 := 17) rfl rfl, fun U hU hW => ⟨rfl, by rw [hU], by rw [hU]; exact hPc, va_K.moved hW.alike hK, hDc.weaken (fun _ _ _ _ => trivial)⟩⟩ rfl rfl hl.1 rfl (lv_room (Nat.le_of_ble_eq_true rfl)) nd_Trial_haveTick_89 ⟨Nat.zero_le _, Nat.zero_le _⟩) hS (fun q _ h => hFc q h) hFc (fun r_2 u t H1 locs ht hvm hw hB hz1 hk1 hS => ?_)
    obtain ⟨hP1, hK1, hD1⟩ := hB
    rw [ht] at hP1
    have w_3 := hw
    try rw [← w_3] at hM
    have hP := hP1
    have hD := cr_Dw hD1 hFc
    generalize H1 = H at hP hS ⊢
    refine lv_icmp_lt (tgt := 113) hx hb nd_Trial_haveTick_92 (by decide) (fun c_4 => ?_) (fun c_4 => ?_)
    · have c_4t := cr_lt c_4
      rw [if_pos c_4] at hM
      exact W.vret hx hb hr (fun t ht hW => ⟨⟨(tr_81, tb_81), rfl, ⟨by rw [hT, ← hM], by rw [hT, ← hM], hR_tb_81⟩, by rw [ht]; exact hP, va_K.moved hW.alike hK, hD⟩, hS.F ht⟩) hS.2.2 nd_Trial_haveTick_113
    · have c_4t := cr_nlt c_4
      rw [if_neg c_4] at hM
      refine lv_aload_n hx hb nd_Trial_haveTick_95 rfl (lv_at hl 0 rfl) ?_
      refine va_get (D := (dC, dI)) (ci := 3) (v := .ref (atb 0)) (C := "CeilingRows$Trial") (T := nf_Trial) (N := 5) hx hb hts nin_Trial hown hK hP 17 rfl rfl 1 (by decide) (hts _ tw_123) (fun _ h9 => h9) rfl nd_Trial_haveTick_96 ?_
      refine lv_iload_n hx hb nd_Trial_haveTick_99 rfl (lv_at hl 1 rfl) ?_
      have hPc := hP.sub (ws' := cw_Plan cI cZ cO apl pl ++ cw_Board cI cZ cO atb apl tb_81) [0, 1, 2, 3, 4, 5, 6, 7, 8, 9, 10, 11, 12, 13, 14, 15, 16, 31, 32, 33, 34, 35, 36] rfl
      have hDc := hD.sub (ws' := cw_Plan cI cZ cO apl pl ++ cw_Board cI cZ cO atb apl tb_81) [0, 1, 2, 3, 4, 5, 6, 7, 8, 9, 10, 11, 12, 13, 14, 15, 16, 31, 32, 33, 34, 35, 36] (by decide) rfl
      have hFc := va_free (wc := cw_Plan cI cZ cO apl pl ++ cw_Board cI cZ cO atb apl tb_81) hD hS hA [0, 1, 2, 3, 4, 5, 6, 7, 8, 9, 10, 11, 12, 13, 14, 15, 16, 31, 32, 33, 34, 35, 36] rfl
      refine va_callv (va_runV (As := [.int x1]) (rest := []) ⟨hx, hb, hml, hown, hts⟩ (ct_Board_putToSleep l dC dI cI cZ cO apl atb H.size pl tb_81 x1 hR_tb_81 hR_pl (by omega)) (cwV 1 hts (ng_V tw_395 tw_276 tw_277 tw_3 tw_278) rfl rfl rfl (by decide +kernel) ⟨Nat.le_of_ble_eq_true rfl, Nat.le_of_ble_eq_true rfl⟩) ⟨fun a U g mk q => by obtain ⟨q0, q1, qP, qK, qD⟩ := q; exact ⟨q0, q1, qP, va_K.moved (u := U) (U := U.calling g mk a) (Vm.Alike.refl U.vm) qK, qD⟩, va_recv hK hPc (ci := 1) (q0 := 17) rfl rfl, fun U hU hW => ⟨rfl, by rw [hU], by rw [hU]; exact hPc, va_K.moved hW.alike hK, hDc.weaken (fun _ _ _ _ => trivial)⟩⟩ rfl rfl hl.1 rfl (lv_room (Nat.le_of_ble_eq_true rfl)) nd_Trial_haveTick_100 ⟨Nat.zero_le _, Nat.zero_le _⟩) hS (fun q _ h => hFc q h) hFc (fun u t H1 locs ht hvm hw hB hz1 hk1 hS => ?_)
      obtain ⟨hP1, hK1, hD1⟩ := hB
      rw [ht] at hP1
      obtain ⟨tbq_6, rfl⟩ : ∃ z, z = u := ⟨_, rfl⟩
      obtain ⟨w_7, hR_8⟩ := hw
      try rw [← w_7] at hM
      obtain ⟨hP, hD⟩ := va_join (wr := cw_Trial cI cZ cO atr apl atb tr_81) (w1 := cw_Plan cI cZ cO apl pl ++ cw_Board cI cZ cO atb apl tbq_6) hP hD [0, 1, 2, 3, 4, 5, 6, 7, 8, 9, 10, 11, 12, 13, 14, 15, 16, 31, 32, 33, 34, 35, 36] [17, 18, 19, 20, 21, 22, 23, 24, 25, 26, 27, 28, 29, 30] rfl rfl (by decide) (by decide) hk1 hFc hP1 hD1
      have hP := hP.sub (ws' := cw_Plan cI cZ cO apl pl ++ cw_Trial cI cZ cO atr apl atb tr_81 ++ cw_Board cI cZ cO atb apl tbq_6) [14, 15, 16, 17, 18, 19, 20, 21, 22, 23, 24, 25, 26, 27, 28, 29, 30, 0, 1, 2, 3, 4, 5, 6, 7, 8, 9, 10, 11, 12, 13, 31, 32, 33, 34, 35, 36] rfl
      have hD := hD.sub (ws' := cw_Plan cI cZ cO apl pl ++ cw_Trial cI cZ cO atr apl atb tr_81 ++ cw_Board cI cZ cO atb apl tbq_6) [14, 15, 16, 17, 18, 19, 20, 21, 22, 23, 24, 25, 26, 27, 28, 29, 30, 0, 1, 2, 3, 4, 5, 6, 7, 8, 9, 10, 11, 12, 13, 31, 32, 33, 34, 35, 36] (by decide) rfl
      generalize H1 = H at hP hS ⊢
      refine lv_aload_n hx hb nd_Trial_haveTick_103 rfl (lv_at hl 0 rfl) ?_
      refine lv_dup hx hb nd_Trial_haveTick_104 rfl ?_
      refine va_get (D := (dC, dI)) (ci := 3) (v := .int (tr_81 0 0)) (C := "CeilingRows$Trial") (T := nf_Trial) (N := 5) hx hb hts nin_Trial hown hK hP 17 rfl rfl 4 (by decide) (hts _ tw_126) (fun _ h9 => h9) rfl nd_Trial_haveTick_105 ?_
      refine lv_iconst (v := 1) hx hb nd_Trial_haveTick_108 (by decide) ?_
      refine lv_iadd hx hb nd_Trial_haveTick_109 ?_
      refine va_put (D := (dC, dI)) (ci := 3) (v := .int ((tr_81 0 0) + (1 : Int32))) (ty := .int) (C := "CeilingRows$Trial") (T := nf_Trial) (N := 5) hx hb hts nin_Trial nt_Trial nto_Trial nno_Trial hown hK hP hD hS 17 rfl rfl 4 (by decide) (hts _ tw_126) (fun _ h9 => h9) rfl (by decide +kernel) rfl rfl (Nat.le_of_ble_eq_true rfl) nd_Trial_haveTick_110 (fun H locs hP hD hS => ?_)
      have hP : va_P (dC, dI) vwCl (cw_Plan cI cZ cO apl pl ++ cw_Trial cI cZ cO atr apl atb (cr_up tr_81 0 0 ((tr_81 0 0) + (1 : Int32))) ++ cw_Board cI cZ cO atb apl tbq_6) H := hP
      have hD : va_D A (cw_Plan cI cZ cO apl pl ++ cw_Trial cI cZ cO atr apl atb (cr_up tr_81 0 0 ((tr_81 0 0) + (1 : Int32))) ++ cw_Board cI cZ cO atb apl tbq_6) := hD
      obtain ⟨trq_9, htrq_9⟩ : ∃ z, (cr_up tr_81 0 0 ((tr_81 0 0) + (1 : Int32))) = z := ⟨_, rfl⟩
      rw [htrq_9] at hP hD
      try rw [htrq_9] at hM
      exact W.vret hx hb hr (fun t ht hW => ⟨⟨(trq_9, tbq_6), rfl, ⟨by rw [hT, ← hM], by rw [hT, ← hM], hR_8⟩, by rw [ht]; exact hP, va_K.moved hW.alike hK, hD⟩, hS.F ht⟩) hS.2.2 nd_Trial_haveTick_113
  have hj_44 : ∀ (tr_44 : cr_S) (tb_44 : cr_S) (v2_44 : Int32), (cr_RBoard tb_44) → (0 ≤ v2_44.toInt ∧ v2_44.toInt ≤ 8) → jn_Trial_haveTick_44 pl x1 tr_44 tb_44 v2_44 = tgt → ∀ (H : Heap) (locs : List Loc), va_P (dC, dI) vwCl (cw_Plan cI cZ cO apl pl ++ cw_Trial cI cZ cO atr apl atb tr_44 ++ cw_Board cI cZ cO atb apl tb_44) H → va_D A (cw_Plan cI cZ cO apl pl ++ cw_Trial cI cZ cO atr apl atb tr_44 ++ cw_Board cI cZ cO atb apl tb_44) → va_S A s.heap H locs → ∀ ls : Array Slot, lv_has ls 3 [(0, .ref (atr 0)), (1, .int x1), (2, .int v2_44)] → W p l e (headSpec nw_Trial_haveTick ({ frames := 3, cells := 0, slots := 0, locals := 68 } : Room)).room s m ([.ref (atr 0), .int x1] : List Value).toArray below meth c H locs 0 0 (MQ below (pq_Trial_haveTick dC dI cI cZ cO apl atr atb pl tr tb x1 A) ([.ref (atr 0), .int x1] : List Value).toArray s 0 0 A) (F0 m 44 ls []) := by
    intro tr_44 tb_44 v2_44 hR_tb_44 hv2_44 hM H locs hP hD hS ls hl
    unfold jn_Trial_haveTick_44 at hM
    refine lv_aload_n hx hb nd_Trial_haveTick_44 rfl (lv_at hl 0 rfl) ?_
    refine va_get (D := (dC, dI)) (ci := 3) (v := .ref (atr 1)) (C := "CeilingRows$Trial") (T := nf_Trial) (N := 5) hx hb hts nin_Trial hown hK hP 17 rfl rfl 2 (by decide) (hts _ tw_124) (fun _ h9 => h9) rfl nd_Trial_haveTick_45 ?_
    refine lv_iload_n hx hb nd_Trial_haveTick_48 rfl (lv_at hl 1 rfl) ?_
    refine lv_dup2_11 hx hb nd_Trial_haveTick_49 rfl rfl ?_
    have b_10 : vp_in x1 11 := vp_in_iff.mpr (by omega)
    refine va_iald hx hb hK hP 18 0 rfl rfl b_10 nd_Trial_haveTick_50 ?_
    refine lv_iconst (v := 1) hx hb nd_Trial_haveTick_51 (by decide) ?_
    refine lv_iadd hx hb nd_Trial_haveTick_52 ?_
    have b_11 : vp_in x1 11 := vp_in_iff.mpr (by omega)
    refine va_iast hx hb hK hP hD hS 18 0 rfl rfl b_11 nd_Trial_haveTick_53 (fun H locs hP hD hS => ?_)
    have hP : va_P (dC, dI) vwCl (cw_Plan cI cZ cO apl pl ++ cw_Trial cI cZ cO atr apl atb (cr_up tr_44 1 x1.toNatClampNeg ((tr_44 1 x1.toNatClampNeg) + (1 : Int32))) ++ cw_Board cI cZ cO atb apl tb_44) H := hP
    have hD : va_D A (cw_Plan cI cZ cO apl pl ++ cw_Trial cI cZ cO atr apl atb (cr_up tr_44 1 x1.toNatClampNeg ((tr_44 1 x1.toNatClampNeg) + (1 : Int32))) ++ cw_Board cI cZ cO atb apl tb_44) := hD
    obtain ⟨trq_12, htrq_12⟩ : ∃ z, (cr_up tr_44 1 x1.toNatClampNeg ((tr_44 1 x1.toNatClampNeg) + (1 : Int32))) = z := ⟨_, rfl⟩
    rw [htrq_12] at hP hD
    try rw [htrq_12] at hM
    refine lv_iload_n hx hb nd_Trial_haveTick_54 rfl (lv_at hl 2 rfl) ?_
    refine lv_if_eq (tgt := 81) hx hb nd_Trial_haveTick_55 (by decide) (fun c_13 => ?_) (fun c_13 => ?_)
    · have c_13t := cr_eq c_13
      rw [if_pos c_13] at hM
      exact hj_81 trq_12 tb_44 hR_tb_44 hM _ _ hP hD hS _ (lv_sub hl [0, 1] rfl)
    · have c_13t := cr_ne c_13
      rw [if_neg c_13] at hM
      refine lv_aload_n hx hb nd_Trial_haveTick_58 rfl (lv_at hl 0 rfl) ?_
      refine lv_iload_n hx hb nd_Trial_haveTick_59 rfl (lv_at hl 1 rfl) ?_
      refine lv_aload_n hx hb nd_Trial_haveTick_60 rfl (lv_at hl 0 rfl) ?_
      refine va_get (D := (dC, dI)) (ci := 3) (v := .ref (atr 1)) (C := "CeilingRows$Trial") (T := nf_Trial) (N := 5) hx hb hts nin_Trial hown hK hP 17 rfl rfl 2 (by decide) (hts _ tw_124) (fun _ h9 => h9) rfl nd_Trial_haveTick_61 ?_
      refine lv_iload_n hx hb nd_Trial_haveTick_64 rfl (lv_at hl 1 rfl) ?_
      have b_14 : vp_in x1 11 := vp_in_iff.mpr (by omega)
      refine va_iald hx hb hK hP 18 0 rfl rfl b_14 nd_Trial_haveTick_65 ?_
      have hPc := hP
      have hDc := hD
      have hFc := va_free (wc := cw_Plan cI cZ cO apl pl ++ cw_Trial cI cZ cO atr apl atb trq_12 ++ cw_Board cI cZ cO atb apl tb_44) hD hS hA [0, 1, 2, 3, 4, 5, 6, 7, 8, 9, 10, 11, 12, 13, 14, 15, 16, 17, 18, 19, 20, 21, 22, 23, 24, 25, 26, 27, 28, 29, 30, 31, 32, 33, 34, 35, 36] rfl
      refine va_calli (va_runV (As := [.int x1, .int (trq_12 1 x1.toNatClampNeg)]) (rest := []) ⟨hx, hb, hml, hown, hts⟩ (ct_Trial_resourceAt l dC dI cI cZ cO apl atr atb H.size pl trq_12 tb_44 x1 (trq_12 1 x1.toNatClampNeg) hR_tb_44 hR_pl (by omega)) (cwV 2 hts (ng_V tw_372 tw_374 tp_13 tw_5 tw_375) rfl rfl rfl (by decide +kernel) ⟨Nat.le_of_ble_eq_true rfl, Nat.le_of_ble_eq_true rfl⟩) ⟨fun a U g mk q => by obtain ⟨q0, q1, qP, qK, qD⟩ := q; exact ⟨q0, q1, qP, va_K.moved (u := U) (U := U.calling g mk a) (Vm.Alike.refl U.vm) qK, qD⟩, va_recv hK hPc (ci := 3) (q0 := 17) rfl rfl, fun U hU hW => ⟨rfl, by rw [hU], by rw [hU]; exact hPc, va_K.moved hW.alike hK, hDc.weaken (fun _ _ _ _ => trivial)⟩⟩ rfl rfl hl.1 rfl (lv_room (Nat.le_of_ble_eq_true rfl)) nd_Trial_haveTick_66 ⟨Nat.zero_le _, Nat.zero_le _⟩) hS (fun q _ h => hFc q h) hFc (fun r_15 u t H1 locs ht hvm hw hB hz1 hk1 hS => ?_)
      obtain ⟨hP1, hK1, hD1⟩ := hB
      rw [ht] at hP1
      obtain ⟨w_16, f_17⟩ := hw
      try rw [← w_16] at hM
      have hP := hP1
      have hD := cr_Dw hD1 hFc
      generalize H1 = H at hP hS ⊢
      refine lv_iload_n hx hb nd_Trial_haveTick_69 rfl (lv_at hl 2 rfl) ?_
      refine lv_icmp_eq (tgt := 81) hx hb nd_Trial_haveTick_70 (by decide) (fun c_18 => ?_) (fun c_18 => ?_)
      · have c_18t := cr_eq c_18
        rw [if_pos c_18] at hM
        exact hj_81 trq_12 tb_44 hR_tb_44 hM _ _ hP hD hS _ (lv_sub hl [0, 1] rfl)
      · have c_18t := cr_ne c_18
        rw [if_neg c_18] at hM
        refine lv_aload_n hx hb nd_Trial_haveTick_73 rfl (lv_at hl 0 rfl) ?_
        refine va_get (D := (dC, dI)) (ci := 3) (v := .ref (atb 0)) (C := "CeilingRows$Trial") (T := nf_Trial) (N := 5) hx hb hts nin_Trial hown hK hP 17 rfl rfl 1 (by decide) (hts _ tw_123) (fun _ h9 => h9) rfl nd_Trial_haveTick_74 ?_
        refine lv_iload_n hx hb nd_Trial_haveTick_77 rfl (lv_at hl 1 rfl) ?_
        have hPc := hP.sub (ws' := cw_Plan cI cZ cO apl pl ++ cw_Board cI cZ cO atb apl tb_44) [0, 1, 2, 3, 4, 5, 6, 7, 8, 9, 10, 11, 12, 13, 14, 15, 16, 31, 32, 33, 34, 35, 36] rfl
        have hDc := hD.sub (ws' := cw_Plan cI cZ cO apl pl ++ cw_Board cI cZ cO atb apl tb_44) [0, 1, 2, 3, 4, 5, 6, 7, 8, 9, 10, 11, 12, 13, 14, 15, 16, 31, 32, 33, 34, 35, 36] (by decide) rfl
        have hFc := va_free (wc := cw_Plan cI cZ cO apl pl ++ cw_Board cI cZ cO atb apl tb_44) hD hS hA [0, 1, 2, 3, 4, 5, 6, 7, 8, 9, 10, 11, 12, 13, 14, 15, 16, 31, 32, 33, 34, 35, 36] rfl
        refine va_callv (va_runV (As := [.int x1]) (rest := []) ⟨hx, hb, hml, hown, hts⟩ (ct_Board_giveBackLast l dC dI cI cZ cO apl atb H.size pl tb_44 x1 hR_tb_44 hR_pl (by omega)) (cwV 1 hts (ng_V tw_390 tw_264 tw_265 tw_3 tw_266) rfl rfl rfl (by decide +kernel) ⟨Nat.le_of_ble_eq_true rfl, Nat.le_of_ble_eq_true rfl⟩) ⟨fun a U g mk q => by obtain ⟨q0, q1, qP, qK, qD⟩ := q; exact ⟨q0, q1, qP, va_K.moved (u := U) (U := U.calling g mk a) (Vm.Alike.refl U.vm) qK, qD⟩, va_recv hK hPc (ci := 1) (q0 := 17) rfl rfl, fun U hU hW => ⟨rfl, by rw [hU], by rw [hU]; exact hPc, va_K.moved hW.alike hK, hDc.weaken (fun _ _ _ _ => trivial)⟩⟩ rfl rfl hl.1 rfl (lv_room (Nat.le_of_ble_eq_true rfl)) nd_Trial_haveTick_78 ⟨Nat.zero_le _, Nat.zero_le _⟩) hS (fun q _ h => hFc q h) hFc (fun u t H1 locs ht hvm hw hB hz1 hk1 hS => ?_)
        obtain ⟨hP1, hK1, hD1⟩ := hB
        rw [ht] at hP1
        obtain ⟨tbq_20, rfl⟩ : ∃ z, z = u := ⟨_, rfl⟩
        obtain ⟨w_21, hR_22⟩ := hw
        try rw [← w_21] at hM
        obtain ⟨hP, hD⟩ := va_join (wr := cw_Trial cI cZ cO atr apl atb trq_12) (w1 := cw_Plan cI cZ cO apl pl ++ cw_Board cI cZ cO atb apl tbq_20) hP hD [0, 1, 2, 3, 4, 5, 6, 7, 8, 9, 10, 11, 12, 13, 14, 15, 16, 31, 32, 33, 34, 35, 36] [17, 18, 19, 20, 21, 22, 23, 24, 25, 26, 27, 28, 29, 30] rfl rfl (by decide) (by decide) hk1 hFc hP1 hD1
        have hP := hP.sub (ws' := cw_Plan cI cZ cO apl pl ++ cw_Trial cI cZ cO atr apl atb trq_12 ++ cw_Board cI cZ cO atb apl tbq_20) [14, 15, 16, 17, 18, 19, 20, 21, 22, 23, 24, 25, 26, 27, 28, 29, 30, 0, 1, 2, 3, 4, 5, 6, 7, 8, 9, 10, 11, 12, 13, 31, 32, 33, 34, 35, 36] rfl
        have hD := hD.sub (ws' := cw_Plan cI cZ cO apl pl ++ cw_Trial cI cZ cO atr apl atb trq_12 ++ cw_Board cI cZ cO atb apl tbq_20) [14, 15, 16, 17, 18, 19, 20, 21, 22, 23, 24, 25, 26, 27, 28, 29, 30, 0, 1, 2, 3, 4, 5, 6, 7, 8, 9, 10, 11, 12, 13, 31, 32, 33, 34, 35, 36] (by decide) rfl
        generalize H1 = H at hP hS ⊢
        exact hj_81 trq_12 tbq_20 hR_22 hM _ _ hP hD hS _ (lv_sub hl [0, 1] rfl)
  refine lv_aload_n hx hb nd_Trial_haveTick_0 rfl (lv_at hl 0 rfl) ?_
  refine lv_iload_n hx hb nd_Trial_haveTick_1 rfl (lv_at hl 1 rfl) ?_
  refine lv_aload_n hx hb nd_Trial_haveTick_2 rfl (lv_at hl 0 rfl) ?_
  refine va_get (D := (dC, dI)) (ci := 3) (v := .ref (atr 1)) (C := "CeilingRows$Trial") (T := nf_Trial) (N := 5) hx hb hts nin_Trial hown hK hP 17 rfl rfl 2 (by decide) (hts _ tw_124) (fun _ h9 => h9) rfl nd_Trial_haveTick_3 ?_
  refine lv_iload_n hx hb nd_Trial_haveTick_6 rfl (lv_at hl 1 rfl) ?_
  have b_23 : vp_in x1 11 := vp_in_iff.mpr (by omega)
  refine va_iald hx hb hK hP 18 0 rfl rfl b_23 nd_Trial_haveTick_7 ?_
  have hPc := hP
  have hDc := hD
  have hFc := va_free (wc := cw_Plan cI cZ cO apl pl ++ cw_Trial cI cZ cO atr apl atb tr ++ cw_Board cI cZ cO atb apl tb) hD hS hA [0, 1, 2, 3, 4, 5, 6, 7, 8, 9, 10, 11, 12, 13, 14, 15, 16, 17, 18, 19, 20, 21, 22, 23, 24, 25, 26, 27, 28, 29, 30, 31, 32, 33, 34, 35, 36] rfl
  refine va_calli (va_runV (As := [.int x1, .int (tr 1 x1.toNatClampNeg)]) (rest := []) ⟨hx, hb, hml, hown, hts⟩ (ct_Trial_resourceAt l dC dI cI cZ cO apl atr atb s.heap.size pl tr tb x1 (tr 1 x1.toNatClampNeg) hR_tb hR_pl (by omega)) (cwV 2 hts (ng_V tw_372 tw_374 tp_13 tw_5 tw_375) rfl rfl rfl (by decide +kernel) ⟨Nat.le_of_ble_eq_true rfl, Nat.le_of_ble_eq_true rfl⟩) ⟨fun a U g mk q => by obtain ⟨q0, q1, qP, qK, qD⟩ := q; exact ⟨q0, q1, qP, va_K.moved (u := U) (U := U.calling g mk a) (Vm.Alike.refl U.vm) qK, qD⟩, va_recv hK hPc (ci := 3) (q0 := 17) rfl rfl, fun U hU hW => ⟨rfl, by rw [hU], by rw [hU]; exact hPc, va_K.moved hW.alike hK, hDc.weaken (fun _ _ _ _ => trivial)⟩⟩ rfl rfl hl.1 rfl (lv_room (Nat.le_of_ble_eq_true rfl)) nd_Trial_haveTick_8 ⟨Nat.zero_le _, Nat.zero_le _⟩) hS (fun q _ h => hFc q h) hFc (fun r_24 u t H1 locs ht hvm hw hB hz1 hk1 hS => ?_)
  obtain ⟨hP1, hK1, hD1⟩ := hB
  rw [ht] at hP1
  obtain ⟨w_25, f_26⟩ := hw
  try rw [← w_25] at hM
  have hP := hP1
  have hD := cr_Dw hD1 hFc
  generalize H1 = H at hP hS ⊢
  refine lv_istore_n (lv' := [(2, .int r_24), (0, .ref (atr 0)), (1, .int x1)]) hx hb nd_Trial_haveTick_11 rfl hl (by decide) rfl (fun ls hl => ?_)
  refine lv_iload_n hx hb nd_Trial_haveTick_12 rfl (lv_at hl 0 rfl) ?_
  refine lv_if_eq (tgt := 44) hx hb nd_Trial_haveTick_13 (by decide) (fun c_27 => ?_) (fun c_27 => ?_)
  · have c_27t := cr_eq c_27
    rw [if_pos c_27] at hM
    exact hj_44 tr tb r_24 hR_tb (by omega) hM _ _ hP hD hS _ (lv_sub hl [1, 2, 0] rfl)
  · have c_27t := cr_ne c_27
    rw [if_neg c_27] at hM
    refine lv_aload_n hx hb nd_Trial_haveTick_16 rfl (lv_at hl 1 rfl) ?_
    refine va_get (D := (dC, dI)) (ci := 3) (v := .ref (atb 0)) (C := "CeilingRows$Trial") (T := nf_Trial) (N := 5) hx hb hts nin_Trial hown hK hP 17 rfl rfl 1 (by decide) (hts _ tw_123) (fun _ h9 => h9) rfl nd_Trial_haveTick_17 ?_
    refine va_get (D := (dC, dI)) (ci := 1) (v := .ref (atb 4)) (C := "CeilingRows$Board") (T := nf_Board) (N := 7) hx hb hts nin_Board hown hK hP 31 rfl rfl 5 (by decide) (hts _ tw_76) (fun _ h9 => h9) rfl nd_Trial_haveTick_20 ?_
    refine lv_iload_n hx hb nd_Trial_haveTick_23 rfl (lv_at hl 0 rfl) ?_
    have b_28 : vp_in r_24 9 := vp_in_iff.mpr (by omega)
    refine va_iald hx hb hK hP 35 0 rfl rfl b_28 nd_Trial_haveTick_24 ?_
    refine lv_iload_n hx hb nd_Trial_haveTick_25 rfl (lv_at hl 2 rfl) ?_
    refine lv_icmp_eq (tgt := 38) hx hb nd_Trial_haveTick_26 (by decide) (fun c_29 => ?_) (fun c_29 => ?_)
    · have c_29t := cr_eq c_29
      rw [if_pos c_29] at hM
      refine lv_aload_n hx hb nd_Trial_haveTick_38 rfl (lv_at hl 1 rfl) ?_
      refine lv_iload_n hx hb nd_Trial_haveTick_39 rfl (lv_at hl 2 rfl) ?_
      refine lv_iload_n hx hb nd_Trial_haveTick_40 rfl (lv_at hl 0 rfl) ?_
      have hPc := hP
      have hDc := hD
      have hFc := va_free (wc := cw_Plan cI cZ cO apl pl ++ cw_Trial cI cZ cO atr apl atb tr ++ cw_Board cI cZ cO atb apl tb) hD hS hA [0, 1, 2, 3, 4, 5, 6, 7, 8, 9, 10, 11, 12, 13, 14, 15, 16, 17, 18, 19, 20, 21, 22, 23, 24, 25, 26, 27, 28, 29, 30, 31, 32, 33, 34, 35, 36] rfl
      refine va_callv (va_runV (As := [.int x1, .int r_24]) (rest := []) ⟨hx, hb, hml, hown, hts⟩ (ct_Trial_noteDelays l dC dI cI cZ cO apl atr atb H.size pl tr tb x1 r_24 hR_tb hR_pl (by omega)) (cwV 2 hts (ng_V tw_385 tw_387 tp_15 tw_5 tw_388) rfl rfl rfl (by decide +kernel) ⟨Nat.le_of_ble_eq_true rfl, Nat.le_of_ble_eq_true rfl⟩) ⟨fun a U g mk q => by obtain ⟨q0, q1, qP, qK, qD⟩ := q; exact ⟨q0, q1, qP, va_K.moved (u := U) (U := U.calling g mk a) (Vm.Alike.refl U.vm) qK, qD⟩, va_recv hK hPc (ci := 3) (q0 := 17) rfl rfl, fun U hU hW => ⟨rfl, by rw [hU], by rw [hU]; exact hPc, va_K.moved hW.alike hK, hDc.weaken (fun _ _ _ _ => trivial)⟩⟩ rfl rfl hl.1 rfl (lv_room (Nat.le_of_ble_eq_true rfl)) nd_Trial_haveTick_41 ⟨Nat.zero_le _, Nat.zero_le _⟩) hS (fun q _ h => hFc q h) hFc (fun u t H1 locs ht hvm hw hB hz1 hk1 hS => ?_)
      obtain ⟨hP1, hK1, hD1⟩ := hB
      rw [ht] at hP1
      obtain ⟨trq_31, rfl⟩ : ∃ z, z = u := ⟨_, rfl⟩
      have w_32 := hw
      try rw [← w_32] at hM
      have hP := hP1
      have hD := cr_Dw hD1 hFc
      generalize H1 = H at hP hS ⊢
      exact hj_44 trq_31 tb r_24 hR_tb (by omega) hM _ _ hP hD hS _ (lv_sub hl [1, 2, 0] rfl)
    · have c_29t := cr_ne c_29
      rw [if_neg c_29] at hM
      refine lv_aload_n hx hb nd_Trial_haveTick_29 rfl (lv_at hl 1 rfl) ?_
      refine va_get (D := (dC, dI)) (ci := 3) (v := .ref (atb 0)) (C := "CeilingRows$Trial") (T := nf_Trial) (N := 5) hx hb hts nin_Trial hown hK hP 17 rfl rfl 1 (by decide) (hts _ tw_123) (fun _ h9 => h9) rfl nd_Trial_haveTick_30 ?_
      refine lv_iload_n hx hb nd_Trial_haveTick_33 rfl (lv_at hl 2 rfl) ?_
      refine lv_iload_n hx hb nd_Trial_haveTick_34 rfl (lv_at hl 0 rfl) ?_
      have hPc := hP.sub (ws' := cw_Plan cI cZ cO apl pl ++ cw_Board cI cZ cO atb apl tb) [0, 1, 2, 3, 4, 5, 6, 7, 8, 9, 10, 11, 12, 13, 14, 15, 16, 31, 32, 33, 34, 35, 36] rfl
      have hDc := hD.sub (ws' := cw_Plan cI cZ cO apl pl ++ cw_Board cI cZ cO atb apl tb) [0, 1, 2, 3, 4, 5, 6, 7, 8, 9, 10, 11, 12, 13, 14, 15, 16, 31, 32, 33, 34, 35, 36] (by decide) rfl
      have hFc := va_free (wc := cw_Plan cI cZ cO apl pl ++ cw_Board cI cZ cO atb apl tb) hD hS hA [0, 1, 2, 3, 4, 5, 6, 7, 8, 9, 10, 11, 12, 13, 14, 15, 16, 31, 32, 33, 34, 35, 36] rfl
      refine va_callv (va_runV (As := [.int x1, .int r_24]) (rest := []) ⟨hx, hb, hml, hown, hts⟩ (ct_Board_take l dC dI cI cZ cO apl atb H.size pl tb x1 r_24 hR_tb hR_pl (by omega) (by omega)) (cwV 2 hts (ng_V tw_384 tw_256 tw_257 tw_3 tw_258) rfl rfl rfl (by decide +kernel) ⟨Nat.le_of_ble_eq_true rfl, Nat.le_of_ble_eq_true rfl⟩) ⟨fun a U g mk q => by obtain ⟨q0, q1, qP, qK, qD⟩ := q; exact ⟨q0, q1, qP, va_K.moved (u := U) (U := U.calling g mk a) (Vm.Alike.refl U.vm) qK, qD⟩, va_recv hK hPc (ci := 1) (q0 := 17) rfl rfl, fun U hU hW => ⟨rfl, by rw [hU], by rw [hU]; exact hPc, va_K.moved hW.alike hK, hDc.weaken (fun _ _ _ _ => trivial)⟩⟩ rfl rfl hl.1 rfl (lv_room (Nat.le_of_ble_eq_true rfl)) nd_Trial_haveTick_35 ⟨Nat.zero_le _, Nat.zero_le _⟩) hS (fun q _ h => hFc q h) hFc (fun u t H1 locs ht hvm hw hB hz1 hk1 hS => ?_)
      obtain ⟨hP1, hK1, hD1⟩ := hB
      rw [ht] at hP1
      obtain ⟨tbq_34, rfl⟩ : ∃ z, z = u := ⟨_, rfl⟩
      obtain ⟨w_35, hR_36⟩ := hw
      try rw [← w_35] at hM
      obtain ⟨hP, hD⟩ := va_join (wr := cw_Trial cI cZ cO atr apl atb tr) (w1 := cw_Plan cI cZ cO apl pl ++ cw_Board cI cZ cO atb apl tbq_34) hP hD [0, 1, 2, 3, 4, 5, 6, 7, 8, 9, 10, 11, 12, 13, 14, 15, 16, 31, 32, 33, 34, 35, 36] [17, 18, 19, 20, 21, 22, 23, 24, 25, 26, 27, 28, 29, 30] rfl rfl (by decide) (by decide) hk1 hFc hP1 hD1
      have hP := hP.sub (ws' := cw_Plan cI cZ cO apl pl ++ cw_Trial cI cZ cO atr apl atb tr ++ cw_Board cI cZ cO atb apl tbq_34) [14, 15, 16, 17, 18, 19, 20, 21, 22, 23, 24, 25, 26, 27, 28, 29, 30, 0, 1, 2, 3, 4, 5, 6, 7, 8, 9, 10, 11, 12, 13, 31, 32, 33, 34, 35, 36] rfl
      have hD := hD.sub (ws' := cw_Plan cI cZ cO apl pl ++ cw_Trial cI cZ cO atr apl atb tr ++ cw_Board cI cZ cO atb apl tbq_34) [14, 15, 16, 17, 18, 19, 20, 21, 22, 23, 24, 25, 26, 27, 28, 29, 30, 0, 1, 2, 3, 4, 5, 6, 7, 8, 9, 10, 11, 12, 13, 31, 32, 33, 34, 35, 36] (by decide) rfl
      generalize H1 = H at hP hS ⊢
      refine lv_aload_n hx hb nd_Trial_haveTick_38 rfl (lv_at hl 1 rfl) ?_
      refine lv_iload_n hx hb nd_Trial_haveTick_39 rfl (lv_at hl 2 rfl) ?_
      refine lv_iload_n hx hb nd_Trial_haveTick_40 rfl (lv_at hl 0 rfl) ?_
      have hPc := hP
      have hDc := hD
      have hFc := va_free (wc := cw_Plan cI cZ cO apl pl ++ cw_Trial cI cZ cO atr apl atb tr ++ cw_Board cI cZ cO atb apl tbq_34) hD hS hA [0, 1, 2, 3, 4, 5, 6, 7, 8, 9, 10, 11, 12, 13, 14, 15, 16, 17, 18, 19, 20, 21, 22, 23, 24, 25, 26, 27, 28, 29, 30, 31, 32, 33, 34, 35, 36] rfl
      refine va_callv (va_runV (As := [.int x1, .int r_24]) (rest := []) ⟨hx, hb, hml, hown, hts⟩ (ct_Trial_noteDelays l dC dI cI cZ cO apl atr atb H.size pl tr tbq_34 x1 r_24 hR_36 hR_pl (by omega)) (cwV 2 hts (ng_V tw_385 tw_387 tp_15 tw_5 tw_388) rfl rfl rfl (by decide +kernel) ⟨Nat.le_of_ble_eq_true rfl, Nat.le_of_ble_eq_true rfl⟩) ⟨fun a U g mk q => by obtain ⟨q0, q1, qP, qK, qD⟩ := q; exact ⟨q0, q1, qP, va_K.moved (u := U) (U := U.calling g mk a) (Vm.Alike.refl U.vm) qK, qD⟩, va_recv hK hPc (ci := 3) (q0 := 17) rfl rfl, fun U hU hW => ⟨rfl, by rw [hU], by rw [hU]; exact hPc, va_K.moved hW.alike hK, hDc.weaken (fun _ _ _ _ => trivial)⟩⟩ rfl rfl hl.1 rfl (lv_room (Nat.le_of_ble_eq_true rfl)) nd_Trial_haveTick_41 ⟨Nat.zero_le _, Nat.zero_le _⟩) hS (fun q _ h => hFc q h) hFc (fun u t H1 locs ht hvm hw hB hz1 hk1 hS => ?_)
      obtain ⟨hP1, hK1, hD1⟩ := hB
      rw [ht] at hP1
      obtain ⟨trq_38, rfl⟩ : ∃ z, z = u := ⟨_, rfl⟩
      have w_39 := hw
      try rw [← w_39] at hM
      have hP := hP1
      have hD := cr_Dw hD1 hFc
      generalize H1 = H at hP hS ⊢
      exact hj_44 trq_38 tbq_34 r_24 hR_36 (by omega) hM _ _ hP hD hS _ (lv_sub hl [1, 2, 0] rfl)

theorem nd_Trial_mostDelays_0 : decode prog_5_method_2_code 0 = .ok (.aload_n 0, 1) := by decide +kernel
theorem nd_Trial_mostDelays_1 : decode prog_5_method_2_code 1 = .ok (.invokevirtual 33, 3) := by decide +kernel
theorem nd_Trial_mostDelays_4 : decode prog_5_method_2_code 4 = .ok (.iconst 0, 1) := by decide +kernel
theorem nd_Trial_mostDelays_5 : decode prog_5_method_2_code 5 = .ok (.istore_n 3, 1) := by decide +kernel
theorem nd_Trial_mostDelays_6 : decode prog_5_method_2_code 6 = .ok (.iload_n 3, 1) := by decide +kernel
theorem nd_Trial_mostDelays_7 : decode prog_5_method_2_code 7 = .ok (.sipush 338, 3) := by decide +kernel
theorem nd_Trial_mostDelays_10 : decode prog_5_method_2_code 10 = .ok (.if_icmp .ge (66), 3) := by decide +kernel
theorem nd_Trial_mostDelays_13 : decode prog_5_method_2_code 13 = .ok (.aload_n 0, 1) := by decide +kernel
theorem nd_Trial_mostDelays_14 : decode prog_5_method_2_code 14 = .ok (.getfield 36, 3) := by decide +kernel
theorem nd_Trial_mostDelays_17 : decode prog_5_method_2_code 17 = .ok (.aload_n 0, 1) := by decide +kernel
theorem nd_Trial_mostDelays_18 : decode prog_5_method_2_code 18 = .ok (.getfield 20, 3) := by decide +kernel
theorem nd_Trial_mostDelays_21 : decode prog_5_method_2_code 21 = .ok (.getfield 40, 3) := by decide +kernel
theorem nd_Trial_mostDelays_24 : decode prog_5_method_2_code 24 = .ok (.if_icmp .ge (52), 3) := by decide +kernel
theorem nd_Trial_mostDelays_27 : decode prog_5_method_2_code 27 = .ok (.aload_n 0, 1) := by decide +kernel
theorem nd_Trial_mostDelays_28 : decode prog_5_method_2_code 28 = .ok (.lload_n 1, 1) := by decide +kernel
theorem nd_Trial_mostDelays_29 : decode prog_5_method_2_code 29 = .ok (.iload_n 3, 1) := by decide +kernel
theorem nd_Trial_mostDelays_30 : decode prog_5_method_2_code 30 = .ok (.invokevirtual 45, 3) := by decide +kernel
theorem nd_Trial_mostDelays_33 : decode prog_5_method_2_code 33 = .ok (.iconst 1, 1) := by decide +kernel
theorem nd_Trial_mostDelays_34 : decode prog_5_method_2_code 34 = .ok (.istore 4, 2) := by decide +kernel
theorem nd_Trial_mostDelays_36 : decode prog_5_method_2_code 36 = .ok (.iload 4, 2) := by decide +kernel
theorem nd_Trial_mostDelays_38 : decode prog_5_method_2_code 38 = .ok (.iconst 3, 1) := by decide +kernel
theorem nd_Trial_mostDelays_39 : decode prog_5_method_2_code 39 = .ok (.if_icmp .gt (31), 3) := by decide +kernel
theorem nd_Trial_mostDelays_42 : decode prog_5_method_2_code 42 = .ok (.aload_n 0, 1) := by decide +kernel
theorem nd_Trial_mostDelays_43 : decode prog_5_method_2_code 43 = .ok (.getfield 29, 3) := by decide +kernel
theorem nd_Trial_mostDelays_46 : decode prog_5_method_2_code 46 = .ok (.iload 4, 2) := by decide +kernel
theorem nd_Trial_mostDelays_48 : decode prog_5_method_2_code 48 = .ok (.invokevirtual 49, 3) := by decide +kernel
theorem nd_Trial_mostDelays_51 : decode prog_5_method_2_code 51 = .ok (.istore 5, 2) := by decide +kernel
theorem nd_Trial_mostDelays_53 : decode prog_5_method_2_code 53 = .ok (.iload 5, 2) := by decide +kernel
theorem nd_Trial_mostDelays_55 : decode prog_5_method_2_code 55 = .ok (.ifCond .eq (9), 3) := by decide +kernel
theorem nd_Trial_mostDelays_58 : decode prog_5_method_2_code 58 = .ok (.aload_n 0, 1) := by decide +kernel
theorem nd_Trial_mostDelays_59 : decode prog_5_method_2_code 59 = .ok (.iload 5, 2) := by decide +kernel
theorem nd_Trial_mostDelays_61 : decode prog_5_method_2_code 61 = .ok (.invokevirtual 53, 3) := by decide +kernel
theorem nd_Trial_mostDelays_64 : decode prog_5_method_2_code 64 = .ok (.iinc 4 1, 3) := by decide +kernel
theorem nd_Trial_mostDelays_67 : decode prog_5_method_2_code 67 = .ok (.goto (-31), 3) := by decide +kernel
theorem nd_Trial_mostDelays_70 : decode prog_5_method_2_code 70 = .ok (.iinc 3 1, 3) := by decide +kernel
theorem nd_Trial_mostDelays_73 : decode prog_5_method_2_code 73 = .ok (.goto (-67), 3) := by decide +kernel
theorem nd_Trial_mostDelays_76 : decode prog_5_method_2_code 76 = .ok (.iconst 0, 1) := by decide +kernel
theorem nd_Trial_mostDelays_77 : decode prog_5_method_2_code 77 = .ok (.istore_n 3, 1) := by decide +kernel
theorem nd_Trial_mostDelays_78 : decode prog_5_method_2_code 78 = .ok (.iconst 1, 1) := by decide +kernel
theorem nd_Trial_mostDelays_79 : decode prog_5_method_2_code 79 = .ok (.istore 4, 2) := by decide +kernel
theorem nd_Trial_mostDelays_81 : decode prog_5_method_2_code 81 = .ok (.iload 4, 2) := by decide +kernel
theorem nd_Trial_mostDelays_83 : decode prog_5_method_2_code 83 = .ok (.aload_n 0, 1) := by decide +kernel
theorem nd_Trial_mostDelays_84 : decode prog_5_method_2_code 84 = .ok (.getfield 20, 3) := by decide +kernel
theorem nd_Trial_mostDelays_87 : decode prog_5_method_2_code 87 = .ok (.getfield 40, 3) := by decide +kernel
theorem nd_Trial_mostDelays_90 : decode prog_5_method_2_code 90 = .ok (.if_icmp .gt (20), 3) := by decide +kernel
theorem nd_Trial_mostDelays_93 : decode prog_5_method_2_code 93 = .ok (.iload_n 3, 1) := by decide +kernel
theorem nd_Trial_mostDelays_94 : decode prog_5_method_2_code 94 = .ok (.aload_n 0, 1) := by decide +kernel
theorem nd_Trial_mostDelays_95 : decode prog_5_method_2_code 95 = .ok (.iload 4, 2) := by decide +kernel
theorem nd_Trial_mostDelays_97 : decode prog_5_method_2_code 97 = .ok (.invokevirtual 57, 3) := by decide +kernel
theorem nd_Trial_mostDelays_100 : decode prog_5_method_2_code 100 = .ok (.invokestatic 60, 3) := by decide +kernel
theorem nd_Trial_mostDelays_103 : decode prog_5_method_2_code 103 = .ok (.istore_n 3, 1) := by decide +kernel
theorem nd_Trial_mostDelays_104 : decode prog_5_method_2_code 104 = .ok (.iinc 4 1, 3) := by decide +kernel
theorem nd_Trial_mostDelays_107 : decode prog_5_method_2_code 107 = .ok (.goto (-26), 3) := by decide +kernel
theorem nd_Trial_mostDelays_110 : decode prog_5_method_2_code 110 = .ok (.iload_n 3, 1) := by decide +kernel
theorem nd_Trial_mostDelays_111 : decode prog_5_method_2_code 111 = .ok (.ireturn, 1) := by decide +kernel
abbrev pq_Trial_mostDelays (dC : Nat → ClassId) (dI : Nat → Nat → Nat) (cI cZ cO : ClassId) (apl atr atb : Nat → Nat) (pl : cr_S) (tr : cr_S) (tb : cr_S) (x1 : Int64) (A : Nat → Prop) : Array Value → State → Outcome → State → Prop :=
  va_Qi (fun (r : Int32) (u : cr_S × cr_S) => r = (md_Trial_mostDelays pl tr tb x1).1 ∧ u.1 = (md_Trial_mostDelays pl tr tb x1).2.1 ∧ u.2 = (md_Trial_mostDelays pl tr tb x1).2.2 ∧ cr_RBoard u.2) (fun (u : cr_S × cr_S) t => va_P (dC, dI) vwCl (cw_Plan cI cZ cO apl pl ++ cw_Trial cI cZ cO atr apl atb u.1 ++ cw_Board cI cZ cO atb apl u.2) t.heap ∧ va_K (dC, dI) vwCl [(cI, .int), (cZ, .boolean), (cO, .array .int)] t ∧ va_D A (cw_Plan cI cZ cO apl pl ++ cw_Trial cI cZ cO atr apl atb u.1 ++ cw_Board cI cZ cO atb apl u.2)) A
set_option maxHeartbeats 4000000 in
set_option maxRecDepth 100000 in
theorem ct_Trial_mostDelays (l : Launch) (dC : Nat → ClassId) (dI : Nat → Nat → Nat) (cI cZ cO : ClassId) (apl atr atb : Nat → Nat) (sz : Nat) (pl : cr_S) (tr : cr_S) (tb : cr_S) (x1 : Int64) (hR_tb : cr_RBoard tb) (hR_pl : cr_RPlan pl) : Met l ny_Trial_mostDelays nw_Trial_mostDelays ({ frames := 4, cells := 0, slots := 0, locals := 90 } : Room) (va_Pc [.ref (atr 0), .long x1] (fun U => U.heap.size = sz ∧ va_P (dC, dI) vwCl (cw_Plan cI cZ cO apl pl ++ cw_Trial cI cZ cO atr apl atb tr ++ cw_Board cI cZ cO atb apl tb) U.heap ∧ va_K (dC, dI) vwCl [(cI, .int), (cZ, .boolean), (cO, .array .int)] U ∧ va_D (fun _ => True) (cw_Plan cI cZ cO apl pl ++ cw_Trial cI cZ cO atr apl atb tr ++ cw_Board cI cZ cO atb apl tb))) (pq_Trial_mostDelays dC dI cI cZ cO apl atr atb pl tr tb x1 (va_A (cw_Plan cI cZ cO apl pl ++ cw_Trial cI cZ cO atr apl atb tr ++ cw_Board cI cZ cO atb apl tb) sz)) 0 0 (va_A (cw_Plan cI cZ cO apl pl ++ cw_Trial cI cZ cO atr apl atb tr ++ cw_Board cI cZ cO atb apl tb) sz) := by
  refine Met.ofW (cc := prog_5_method_2_code) (maxL := 6) (ret := (some .int)) (by decide) rfl ?_
  intro p e s m args below meth c s₁ B hml hv
  obtain ⟨rfl, hsz, hP, hK, hD0⟩ := hv
  have hx := B.exec
  have hb := B.bytes
  have hr := B.returns
  have hts0 := atoms_spec (ws := nw_Trial_mostDelays) B.pre
  have hts : ∀ w ∈ ng_tbl, w.before ([.ref (atr 0), .long x1] : List Value).toArray s = true := fun w h => hts0 w (List.mem_cons_of_mem _ h)
  have hown : s.vm.findClass "CeilingRows$Trial" = some m.cls := findClass_of_methodNamed B.named
  have hlocks := B.notSynchronized
  subst hsz
  have hD := hD0.self (sz := s.heap.size)
  generalize hAe : va_A (cw_Plan cI cZ cO apl pl ++ cw_Trial cI cZ cO atr apl atb tr ++ cw_Board cI cZ cO atb apl tb) s.heap.size = A at hD ⊢
  have hA : ∀ q : Nat, s.heap.size ≤ q → A q := fun q h => by rw [← hAe]; exact Or.inr h
  have hS : va_S A s.heap s.heap [] := va_S.rf
  have hP : va_P (dC, dI) vwCl (cw_Plan cI cZ cO apl pl ++ cw_Trial cI cZ cO atr apl atb tr ++ cw_Board cI cZ cO atb apl tb) s.heap := hP
  have hl := lv_entry ([.ref (atr 0), .long x1]) (n := 6) (Nat.le_of_ble_eq_true rfl)
  rw [lg_entry_eq]
  generalize (lg_sl ([.ref (atr 0), .long x1]) ++ List.replicate (6 - (lg_sl ([.ref (atr 0), .long x1])).length) Slot.unset).toArray = ls at hl ⊢
  have hl : lv_has ls 6 [(0, .ref (atr 0)), (1, .long x1)] := hl
  have k_0 : (0 : Int32).toInt = 0 := by decide
  have k_1 : (1 : Int32).toInt = 1 := by decide
  have k_3 : (3 : Int32).toInt = 3 := by decide
  have k_338 : (338 : Int32).toInt = 338 := by decide
  obtain ⟨tgt, hT⟩ : ∃ z, md_Trial_mostDelays pl tr tb x1 = z := ⟨_, rfl⟩
  have hM := hT
  unfold md_Trial_mostDelays at hM
  refine lv_aload_n hx hb nd_Trial_mostDelays_0 rfl (lv_at hl 0 rfl) ?_
  have hPc := hP
  have hDc := hD
  have hFc := va_free (wc := cw_Plan cI cZ cO apl pl ++ cw_Trial cI cZ cO atr apl atb tr ++ cw_Board cI cZ cO atb apl tb) hD hS hA [0, 1, 2, 3, 4, 5, 6, 7, 8, 9, 10, 11, 12, 13, 14, 15, 16, 17, 18, 19, 20, 21, 22, 23, 24, 25, 26, 27, 28, 29, 30, 31, 32, 33, 34, 35, 36] rfl
  refine va_callv (va_runV (As := []) (rest := []) ⟨hx, hb, hml, hown, hts⟩ (ct_Trial_clear l dC dI cI cZ cO apl atr atb s.heap.size pl tr tb  hR_tb hR_pl) (cwV 0 hts (ng_V tw_349 tw_351 tp_10 tw_5 tw_352) rfl rfl rfl (by decide +kernel) ⟨Nat.le_of_ble_eq_true rfl, Nat.le_of_ble_eq_true rfl⟩) ⟨fun a U g mk q => by obtain ⟨q0, q1, qP, qK, qD⟩ := q; exact ⟨q0, q1, qP, va_K.moved (u := U) (U := U.calling g mk a) (Vm.Alike.refl U.vm) qK, qD⟩, va_recv hK hPc (ci := 3) (q0 := 17) rfl rfl, fun U hU hW => ⟨rfl, by rw [hU], by rw [hU]; exact hPc, va_K.moved hW.alike hK, hDc.weaken (fun _ _ _ _ => trivial)⟩⟩ rfl rfl hl.1 rfl (lv_room (Nat.le_of_ble_eq_true rfl)) nd_Trial_mostDelays_1 ⟨Nat.zero_le _, Nat.zero_le _⟩) hS (fun q _ h => hFc q h) hFc (fun u t H1 locs ht hvm hw hB hz1 hk1 hS => ?_)
  obtain ⟨hP1, hK1, hD1⟩ := hB
  rw [ht] at hP1
  obtain ⟨trq_2, tbq_4⟩ := u
  dsimp only at hw hP1 hD1
  obtain ⟨w_3, w_5, hR_6⟩ := hw
  try rw [← w_3] at hM
  try rw [← w_5] at hM
  have hP := hP1
  have hD := cr_Dw hD1 hFc
  generalize H1 = H at hP hS ⊢
  refine lv_iconst (v := 0) hx hb nd_Trial_mostDelays_4 (by decide) ?_
  refine lv_istore_n (lv' := [(3, .int (0 : Int32)), (0, .ref (atr 0)), (1, .long x1)]) hx hb nd_Trial_mostDelays_5 rfl hl (by decide) rfl (fun ls hl => ?_)
  have hl := lv_sub hl [1, 2, 0] rfl
  have lp_6 : ∀ (n_6 : Nat) (tr_6 : cr_S) (tb_6 : cr_S) (v3_6 : Int32), (cr_RBoard tb_6) → (0 ≤ v3_6.toInt ∧ v3_6.toInt ≤ 338) → (338 < v3_6.toInt + (n_6 : Int)) → lo_Trial_mostDelays_6 pl x1 n_6 tr_6 tb_6 v3_6 = tgt → ∀ (H : Heap) (locs : List Loc), va_P (dC, dI) vwCl (cw_Plan cI cZ cO apl pl ++ cw_Trial cI cZ cO atr apl atb tr_6 ++ cw_Board cI cZ cO atb apl tb_6) H → va_D A (cw_Plan cI cZ cO apl pl ++ cw_Trial cI cZ cO atr apl atb tr_6 ++ cw_Board cI cZ cO atb apl tb_6) → va_S A s.heap H locs → ∀ ls : Array Slot, lv_has ls 6 [(0, .ref (atr 0)), (1, .long x1), (3, .int v3_6)] → W p l e (headSpec nw_Trial_mostDelays ({ frames := 4, cells := 0, slots := 0, locals := 90 } : Room)).room s m ([.ref (atr 0), .long x1] : List Value).toArray below meth c H locs 0 0 (MQ below (pq_Trial_mostDelays dC dI cI cZ cO apl atr atb pl tr tb x1 A) ([.ref (atr 0), .long x1] : List Value).toArray s 0 0 A) (F0 m 6 ls []) := by
    intro n_6
    induction n_6 with
    | zero =>
      intro tr_6 tb_6 v3_6 hR_tb_6 hv3_6 hn_6
      exfalso; omega
    | succ n_6 ih_6 =>
      intro tr_6 tb_6 v3_6 hR_tb_6 hv3_6 hn_6 hM H locs hP hD hS ls hl
      have hn_6 : 338 < v3_6.toInt + ((n_6 : Int) + 1) := by omega
      rw [lo_Trial_mostDelays_6] at hM
      refine lv_iload_n hx hb nd_Trial_mostDelays_6 rfl (lv_at hl 2 rfl) ?_
      refine lv_sipush (v := 338) hx hb nd_Trial_mostDelays_7 (by decide) ?_
      refine lv_icmp_ge (tgt := 76) hx hb nd_Trial_mostDelays_10 (by decide) (fun c_7 => ?_) (fun c_7 => ?_)
      · have c_7t := cr_le c_7
        rw [if_pos c_7] at hM
        refine lv_iconst (v := 0) hx hb nd_Trial_mostDelays_76 (by decide) ?_
        refine lv_istore_n (lv' := [(3, .int (0 : Int32)), (0, .ref (atr 0)), (1, .long x1)]) hx hb nd_Trial_mostDelays_77 rfl hl (by decide) rfl (fun ls hl => ?_)
        refine lv_iconst (v := 1) hx hb nd_Trial_mostDelays_78 (by decide) ?_
        refine lv_istore (lv' := [(4, .int (1 : Int32)), (3, .int (0 : Int32)), (0, .ref (atr 0)), (1, .long x1)]) hx hb nd_Trial_mostDelays_79 hl (by decide) rfl (fun ls hl => ?_)
        have hl := lv_sub hl [2, 1, 0] rfl
        have lp_81 : ∀ (n_81 : Nat) (v3_81 : Int32) (v4_81 : Int32), (1 ≤ v4_81.toInt ∧ v4_81.toInt ≤ 11) → (11 < v4_81.toInt + (n_81 : Int)) → lo_Trial_mostDelays_81 pl tr_6 tb_6 x1 n_81 v3_81 v4_81 = tgt → ∀ (H : Heap) (locs : List Loc), va_P (dC, dI) vwCl (cw_Plan cI cZ cO apl pl ++ cw_Trial cI cZ cO atr apl atb tr_6 ++ cw_Board cI cZ cO atb apl tb_6) H → va_D A (cw_Plan cI cZ cO apl pl ++ cw_Trial cI cZ cO atr apl atb tr_6 ++ cw_Board cI cZ cO atb apl tb_6) → va_S A s.heap H locs → ∀ ls : Array Slot, lv_has ls 6 [(0, .ref (atr 0)), (3, .int v3_81), (4, .int v4_81)] → W p l e (headSpec nw_Trial_mostDelays ({ frames := 4, cells := 0, slots := 0, locals := 90 } : Room)).room s m ([.ref (atr 0), .long x1] : List Value).toArray below meth c H locs 0 0 (MQ below (pq_Trial_mostDelays dC dI cI cZ cO apl atr atb pl tr tb x1 A) ([.ref (atr 0), .long x1] : List Value).toArray s 0 0 A) (F0 m 81 ls []) := by
          intro n_81
          induction n_81 with
          | zero =>
            intro v3_81 v4_81 hv4_81 hn_81
            exfalso; omega
          | succ n_81 ih_81 =>
            intro v3_81 v4_81 hv4_81 hn_81 hM H locs hP hD hS ls hl
            have hn_81 : 11 < v4_81.toInt + ((n_81 : Int) + 1) := by omega
            rw [lo_Trial_mostDelays_81] at hM
            refine lv_iload hx hb nd_Trial_mostDelays_81 (lv_at hl 2 rfl) ?_
            refine lv_aload_n hx hb nd_Trial_mostDelays_83 rfl (lv_at hl 0 rfl) ?_
            refine va_get (D := (dC, dI)) (ci := 3) (v := .ref (apl 0)) (C := "CeilingRows$Trial") (T := nf_Trial) (N := 5) hx hb hts nin_Trial hown hK hP 17 rfl rfl 0 (by decide) (hts _ tw_122) (fun _ h9 => h9) rfl nd_Trial_mostDelays_84 ?_
            refine va_get (D := (dC, dI)) (ci := 0) (v := .int (pl 0 0)) (C := "CeilingRows$Plan") (T := nf_Plan) (N := 7) hx hb hts nin_Plan hown hK hP 0 rfl rfl 0 (by decide) (hts _ tw_27) (fun _ h9 => h9) rfl nd_Trial_mostDelays_87 ?_
            have f_8 := cr_rfo hR_pl.1
            refine lv_icmp_gt (tgt := 110) hx hb nd_Trial_mostDelays_90 (by decide) (fun c_9 => ?_) (fun c_9 => ?_)
            · have c_9t := cr_lt c_9
              rw [if_pos c_9] at hM
              refine lv_iload_n hx hb nd_Trial_mostDelays_110 rfl (lv_at hl 1 rfl) ?_
              exact W.iret (v := v3_81) hx hb hr (fun t ht hW => ⟨⟨v3_81, (tr_6, tb_6), rfl, ⟨by rw [hT, ← hM], by rw [hT, ← hM], by rw [hT, ← hM], hR_tb_6⟩, by rw [ht]; exact hP, va_K.moved hW.alike hK, hD⟩, hS.F ht⟩) hS.2.2 nd_Trial_mostDelays_111
            · have c_9t := cr_nlt c_9
              rw [if_neg c_9] at hM
              refine lv_iload_n hx hb nd_Trial_mostDelays_93 rfl (lv_at hl 1 rfl) ?_
              refine lv_aload_n hx hb nd_Trial_mostDelays_94 rfl (lv_at hl 0 rfl) ?_
              refine lv_iload hx hb nd_Trial_mostDelays_95 (lv_at hl 2 rfl) ?_
              have hPc := hP
              have hDc := hD
              have hFc := va_free (wc := cw_Plan cI cZ cO apl pl ++ cw_Trial cI cZ cO atr apl atb tr_6 ++ cw_Board cI cZ cO atb apl tb_6) hD hS hA [0, 1, 2, 3, 4, 5, 6, 7, 8, 9, 10, 11, 12, 13, 14, 15, 16, 17, 18, 19, 20, 21, 22, 23, 24, 25, 26, 27, 28, 29, 30, 31, 32, 33, 34, 35, 36] rfl
              refine va_calli (va_runV (As := [.int v4_81]) (rest := [.int v3_81]) ⟨hx, hb, hml, hown, hts⟩ (ct_Trial_countDelays l dC dI cI cZ cO apl atr atb H.size pl tr_6 tb_6 v4_81 hR_tb_6 hR_pl (by omega)) (cwV 1 hts (ng_V tw_396 tw_398 tp_17 tw_5 tw_399) rfl rfl rfl (by decide +kernel) ⟨Nat.le_of_ble_eq_true rfl, Nat.le_of_ble_eq_true rfl⟩) ⟨fun a U g mk q => by obtain ⟨q0, q1, qP, qK, qD⟩ := q; exact ⟨q0, q1, qP, va_K.moved (u := U) (U := U.calling g mk a) (Vm.Alike.refl U.vm) qK, qD⟩, va_recv hK hPc (ci := 3) (q0 := 17) rfl rfl, fun U hU hW => ⟨rfl, by rw [hU], by rw [hU]; exact hPc, va_K.moved hW.alike hK, hDc.weaken (fun _ _ _ _ => trivial)⟩⟩ rfl rfl hl.1 rfl (lv_room (Nat.le_of_ble_eq_true rfl)) nd_Trial_mostDelays_97 ⟨Nat.zero_le _, Nat.zero_le _⟩) hS (fun q _ h => hFc q h) hFc (fun r_10 u t H1 locs ht hvm hw hB hz1 hk1 hS => ?_)
              obtain ⟨hP1, hK1, hD1⟩ := hB
              rw [ht] at hP1
              have w_11 := hw
              try rw [← w_11] at hM
              have hP := hP1
              have hD := cr_Dw hD1 hFc
              generalize H1 = H at hP hS ⊢
              refine va_mmax hx hb (by rw [hml]; exact hl.1.symm) hown (hts _ tw_406) (hts _ tw_207) (hts _ tw_7) (hts _ tw_208) (Nat.le_of_ble_eq_true rfl) (Nat.le_of_ble_eq_true rfl) (Nat.zero_le _) (Nat.zero_le _) nd_Trial_mostDelays_100 ?_
              refine lv_istore_n (lv' := [(3, .int (cr_max v3_81 r_10)), (0, .ref (atr 0)), (4, .int v4_81)]) hx hb nd_Trial_mostDelays_103 rfl hl (by decide) rfl (fun ls hl => ?_)
              have e_12 : (v4_81 + (1 : Int32)).toInt = v4_81.toInt + (1 : Int32).toInt := cr_add (by omega)
              refine lv_iinc (v := (v4_81 + (1 : Int32))) (lv' := [(4, .int (v4_81 + (1 : Int32))), (3, .int (cr_max v3_81 r_10)), (0, .ref (atr 0))]) hx hb nd_Trial_mostDelays_104 hl (k := 2) rfl (by rfl) (by decide) rfl (fun ls hl => ?_)
              refine lv_goto (tgt := 81) hx hb nd_Trial_mostDelays_107 (by decide) ?_
              exact ih_81 (cr_max v3_81 r_10) (v4_81 + (1 : Int32)) (by omega) (by omega) hM _ _ hP hD hS _ (lv_sub hl [2, 1, 0] rfl)
        exact lp_81 11 (0 : Int32) (1 : Int32) (by omega) (by omega) hM _ _ hP hD hS _ hl
      · have c_7t := cr_nle c_7
        rw [if_neg c_7] at hM
        refine lv_aload_n hx hb nd_Trial_mostDelays_13 rfl (lv_at hl 0 rfl) ?_
        refine va_get (D := (dC, dI)) (ci := 3) (v := .int (tr_6 0 0)) (C := "CeilingRows$Trial") (T := nf_Trial) (N := 5) hx hb hts nin_Trial hown hK hP 17 rfl rfl 4 (by decide) (hts _ tw_126) (fun _ h9 => h9) rfl nd_Trial_mostDelays_14 ?_
        refine lv_aload_n hx hb nd_Trial_mostDelays_17 rfl (lv_at hl 0 rfl) ?_
        refine va_get (D := (dC, dI)) (ci := 3) (v := .ref (apl 0)) (C := "CeilingRows$Trial") (T := nf_Trial) (N := 5) hx hb hts nin_Trial hown hK hP 17 rfl rfl 0 (by decide) (hts _ tw_122) (fun _ h9 => h9) rfl nd_Trial_mostDelays_18 ?_
        refine va_get (D := (dC, dI)) (ci := 0) (v := .int (pl 0 0)) (C := "CeilingRows$Plan") (T := nf_Plan) (N := 7) hx hb hts nin_Plan hown hK hP 0 rfl rfl 0 (by decide) (hts _ tw_27) (fun _ h9 => h9) rfl nd_Trial_mostDelays_21 ?_
        have f_13 := cr_rfo hR_pl.1
        refine lv_icmp_ge (tgt := 76) hx hb nd_Trial_mostDelays_24 (by decide) (fun c_14 => ?_) (fun c_14 => ?_)
        · have c_14t := cr_le c_14
          rw [if_pos c_14] at hM
          refine lv_iconst (v := 0) hx hb nd_Trial_mostDelays_76 (by decide) ?_
          refine lv_istore_n (lv' := [(3, .int (0 : Int32)), (0, .ref (atr 0)), (1, .long x1)]) hx hb nd_Trial_mostDelays_77 rfl hl (by decide) rfl (fun ls hl => ?_)
          refine lv_iconst (v := 1) hx hb nd_Trial_mostDelays_78 (by decide) ?_
          refine lv_istore (lv' := [(4, .int (1 : Int32)), (3, .int (0 : Int32)), (0, .ref (atr 0)), (1, .long x1)]) hx hb nd_Trial_mostDelays_79 hl (by decide) rfl (fun ls hl => ?_)
          have hl := lv_sub hl [2, 1, 0] rfl
          have lp_81 : ∀ (n_81 : Nat) (v3_81 : Int32) (v4_81 : Int32), (1 ≤ v4_81.toInt ∧ v4_81.toInt ≤ 11) → (11 < v4_81.toInt + (n_81 : Int)) → lo_Trial_mostDelays_81 pl tr_6 tb_6 x1 n_81 v3_81 v4_81 = tgt → ∀ (H : Heap) (locs : List Loc), va_P (dC, dI) vwCl (cw_Plan cI cZ cO apl pl ++ cw_Trial cI cZ cO atr apl atb tr_6 ++ cw_Board cI cZ cO atb apl tb_6) H → va_D A (cw_Plan cI cZ cO apl pl ++ cw_Trial cI cZ cO atr apl atb tr_6 ++ cw_Board cI cZ cO atb apl tb_6) → va_S A s.heap H locs → ∀ ls : Array Slot, lv_has ls 6 [(0, .ref (atr 0)), (3, .int v3_81), (4, .int v4_81)] → W p l e (headSpec nw_Trial_mostDelays ({ frames := 4, cells := 0, slots := 0, locals := 90 } : Room)).room s m ([.ref (atr 0), .long x1] : List Value).toArray below meth c H locs 0 0 (MQ below (pq_Trial_mostDelays dC dI cI cZ cO apl atr atb pl tr tb x1 A) ([.ref (atr 0), .long x1] : List Value).toArray s 0 0 A) (F0 m 81 ls []) := by
            intro n_81
            induction n_81 with
            | zero =>
              intro v3_81 v4_81 hv4_81 hn_81
              exfalso; omega
            | succ n_81 ih_81 =>
              intro v3_81 v4_81 hv4_81 hn_81 hM H locs hP hD hS ls hl
              have hn_81 : 11 < v4_81.toInt + ((n_81 : Int) + 1) := by omega
              rw [lo_Trial_mostDelays_81] at hM
              refine lv_iload hx hb nd_Trial_mostDelays_81 (lv_at hl 2 rfl) ?_
              refine lv_aload_n hx hb nd_Trial_mostDelays_83 rfl (lv_at hl 0 rfl) ?_
              refine va_get (D := (dC, dI)) (ci := 3) (v := .ref (apl 0)) (C := "CeilingRows$Trial") (T := nf_Trial) (N := 5) hx hb hts nin_Trial hown hK hP 17 rfl rfl 0 (by decide) (hts _ tw_122) (fun _ h9 => h9) rfl nd_Trial_mostDelays_84 ?_
              refine va_get (D := (dC, dI)) (ci := 0) (v := .int (pl 0 0)) (C := "CeilingRows$Plan") (T := nf_Plan) (N := 7) hx hb hts nin_Plan hown hK hP 0 rfl rfl 0 (by decide) (hts _ tw_27) (fun _ h9 => h9) rfl nd_Trial_mostDelays_87 ?_
              have f_15 := cr_rfo hR_pl.1
              refine lv_icmp_gt (tgt := 110) hx hb nd_Trial_mostDelays_90 (by decide) (fun c_16 => ?_) (fun c_16 => ?_)
              · have c_16t := cr_lt c_16
                rw [if_pos c_16] at hM
                refine lv_iload_n hx hb nd_Trial_mostDelays_110 rfl (lv_at hl 1 rfl) ?_
                exact W.iret (v := v3_81) hx hb hr (fun t ht hW => ⟨⟨v3_81, (tr_6, tb_6), rfl, ⟨by rw [hT, ← hM], by rw [hT, ← hM], by rw [hT, ← hM], hR_tb_6⟩, by rw [ht]; exact hP, va_K.moved hW.alike hK, hD⟩, hS.F ht⟩) hS.2.2 nd_Trial_mostDelays_111
              · have c_16t := cr_nlt c_16
                rw [if_neg c_16] at hM
                refine lv_iload_n hx hb nd_Trial_mostDelays_93 rfl (lv_at hl 1 rfl) ?_
                refine lv_aload_n hx hb nd_Trial_mostDelays_94 rfl (lv_at hl 0 rfl) ?_
                refine lv_iload hx hb nd_Trial_mostDelays_95 (lv_at hl 2 rfl) ?_
                have hPc := hP
                have hDc := hD
                have hFc := va_free (wc := cw_Plan cI cZ cO apl pl ++ cw_Trial cI cZ cO atr apl atb tr_6 ++ cw_Board cI cZ cO atb apl tb_6) hD hS hA [0, 1, 2, 3, 4, 5, 6, 7, 8, 9, 10, 11, 12, 13, 14, 15, 16, 17, 18, 19, 20, 21, 22, 23, 24, 25, 26, 27, 28, 29, 30, 31, 32, 33, 34, 35, 36] rfl
                refine va_calli (va_runV (As := [.int v4_81]) (rest := [.int v3_81]) ⟨hx, hb, hml, hown, hts⟩ (ct_Trial_countDelays l dC dI cI cZ cO apl atr atb H.size pl tr_6 tb_6 v4_81 hR_tb_6 hR_pl (by omega)) (cwV 1 hts (ng_V tw_396 tw_398 tp_17 tw_5 tw_399) rfl rfl rfl (by decide +kernel) ⟨Nat.le_of_ble_eq_true rfl, Nat.le_of_ble_eq_true rfl⟩) ⟨fun a U g mk q => by obtain ⟨q0, q1, qP, qK, qD⟩ := q; exact ⟨q0, q1, qP, va_K.moved (u := U) (U := U.calling g mk a) (Vm.Alike.refl U.vm) qK, qD⟩, va_recv hK hPc (ci := 3) (q0 := 17) rfl rfl, fun U hU hW => ⟨rfl, by rw [hU], by rw [hU]; exact hPc, va_K.moved hW.alike hK, hDc.weaken (fun _ _ _ _ => trivial)⟩⟩ rfl rfl hl.1 rfl (lv_room (Nat.le_of_ble_eq_true rfl)) nd_Trial_mostDelays_97 ⟨Nat.zero_le _, Nat.zero_le _⟩) hS (fun q _ h => hFc q h) hFc (fun r_17 u t H1 locs ht hvm hw hB hz1 hk1 hS => ?_)
                obtain ⟨hP1, hK1, hD1⟩ := hB
                rw [ht] at hP1
                have w_18 := hw
                try rw [← w_18] at hM
                have hP := hP1
                have hD := cr_Dw hD1 hFc
                generalize H1 = H at hP hS ⊢
                refine va_mmax hx hb (by rw [hml]; exact hl.1.symm) hown (hts _ tw_406) (hts _ tw_207) (hts _ tw_7) (hts _ tw_208) (Nat.le_of_ble_eq_true rfl) (Nat.le_of_ble_eq_true rfl) (Nat.zero_le _) (Nat.zero_le _) nd_Trial_mostDelays_100 ?_
                refine lv_istore_n (lv' := [(3, .int (cr_max v3_81 r_17)), (0, .ref (atr 0)), (4, .int v4_81)]) hx hb nd_Trial_mostDelays_103 rfl hl (by decide) rfl (fun ls hl => ?_)
                have e_19 : (v4_81 + (1 : Int32)).toInt = v4_81.toInt + (1 : Int32).toInt := cr_add (by omega)
                refine lv_iinc (v := (v4_81 + (1 : Int32))) (lv' := [(4, .int (v4_81 + (1 : Int32))), (3, .int (cr_max v3_81 r_17)), (0, .ref (atr 0))]) hx hb nd_Trial_mostDelays_104 hl (k := 2) rfl (by rfl) (by decide) rfl (fun ls hl => ?_)
                refine lv_goto (tgt := 81) hx hb nd_Trial_mostDelays_107 (by decide) ?_
                exact ih_81 (cr_max v3_81 r_17) (v4_81 + (1 : Int32)) (by omega) (by omega) hM _ _ hP hD hS _ (lv_sub hl [2, 1, 0] rfl)
          exact lp_81 11 (0 : Int32) (1 : Int32) (by omega) (by omega) hM _ _ hP hD hS _ hl
        · have c_14t := cr_nle c_14
          rw [if_neg c_14] at hM
          refine lv_aload_n hx hb nd_Trial_mostDelays_27 rfl (lv_at hl 0 rfl) ?_
          refine lv_lload_n hx hb nd_Trial_mostDelays_28 rfl (lv_at hl 1 rfl) ?_
          refine lv_iload_n hx hb nd_Trial_mostDelays_29 rfl (lv_at hl 2 rfl) ?_
          have hPc := hP
          have hDc := hD
          have hFc := va_free (wc := cw_Plan cI cZ cO apl pl ++ cw_Trial cI cZ cO atr apl atb tr_6 ++ cw_Board cI cZ cO atb apl tb_6) hD hS hA [0, 1, 2, 3, 4, 5, 6, 7, 8, 9, 10, 11, 12, 13, 14, 15, 16, 17, 18, 19, 20, 21, 22, 23, 24, 25, 26, 27, 28, 29, 30, 31, 32, 33, 34, 35, 36] rfl
          refine va_callv (va_runV (As := [.long x1, .int v3_6]) (rest := []) ⟨hx, hb, hml, hown, hts⟩ (ct_Trial_startThoseDue l dC dI cI cZ cO apl atr atb H.size pl tr_6 tb_6 x1 v3_6 hR_tb_6 hR_pl) (cwV 2 hts (ng_V tw_361 tw_363 tp_11 tw_5 tw_364) rfl rfl rfl (by decide +kernel) ⟨Nat.le_of_ble_eq_true rfl, Nat.le_of_ble_eq_true rfl⟩) ⟨fun a U g mk q => by obtain ⟨q0, q1, qP, qK, qD⟩ := q; exact ⟨q0, q1, qP, va_K.moved (u := U) (U := U.calling g mk a) (Vm.Alike.refl U.vm) qK, qD⟩, va_recv hK hPc (ci := 3) (q0 := 17) rfl rfl, fun U hU hW => ⟨rfl, by rw [hU], by rw [hU]; exact hPc, va_K.moved hW.alike hK, hDc.weaken (fun _ _ _ _ => trivial)⟩⟩ rfl rfl hl.1 rfl (lv_room (Nat.le_of_ble_eq_true rfl)) nd_Trial_mostDelays_30 ⟨Nat.zero_le _, Nat.zero_le _⟩) hS (fun q _ h => hFc q h) hFc (fun u t H1 locs ht hvm hw hB hz1 hk1 hS => ?_)
          obtain ⟨hP1, hK1, hD1⟩ := hB
          rw [ht] at hP1
          obtain ⟨tbq_21, rfl⟩ : ∃ z, z = u := ⟨_, rfl⟩
          obtain ⟨w_22, hR_23⟩ := hw
          try rw [← w_22] at hM
          have hP := hP1
          have hD := cr_Dw hD1 hFc
          generalize H1 = H at hP hS ⊢
          refine lv_iconst (v := 1) hx hb nd_Trial_mostDelays_33 (by decide) ?_
          refine lv_istore (lv' := [(4, .int (1 : Int32)), (0, .ref (atr 0)), (1, .long x1), (3, .int v3_6)]) hx hb nd_Trial_mostDelays_34 hl (by decide) rfl (fun ls hl => ?_)
          have hl := lv_sub hl [1, 2, 3, 0] rfl
          obtain ⟨ti_36, hti_36⟩ : ∃ z, lo_Trial_mostDelays_36 pl x1 v3_6 4 tr_6 tbq_21 (1 : Int32) = z := ⟨_, rfl⟩
          try rw [hti_36] at hM
          have hex_36 : (cr_RBoard ti_36.2) → ∀ (H : Heap) (locs : List Loc), va_P (dC, dI) vwCl (cw_Plan cI cZ cO apl pl ++ cw_Trial cI cZ cO atr apl atb ti_36.1 ++ cw_Board cI cZ cO atb apl ti_36.2) H → va_D A (cw_Plan cI cZ cO apl pl ++ cw_Trial cI cZ cO atr apl atb ti_36.1 ++ cw_Board cI cZ cO atb apl ti_36.2) → va_S A s.heap H locs → ∀ ls : Array Slot, lv_has ls 6 [(0, .ref (atr 0)), (1, .long x1), (3, .int v3_6)] → W p l e (headSpec nw_Trial_mostDelays ({ frames := 4, cells := 0, slots := 0, locals := 90 } : Room)).room s m ([.ref (atr 0), .long x1] : List Value).toArray below meth c H locs 0 0 (MQ below (pq_Trial_mostDelays dC dI cI cZ cO apl atr atb pl tr tb x1 A) ([.ref (atr 0), .long x1] : List Value).toArray s 0 0 A) (F0 m 70 ls []) := by
            intro hRx_tb_36 H locs hP hD hS ls hl
            have e_24 : (v3_6 + (1 : Int32)).toInt = v3_6.toInt + (1 : Int32).toInt := cr_add (by omega)
            refine lv_iinc (v := (v3_6 + (1 : Int32))) (lv' := [(3, .int (v3_6 + (1 : Int32))), (0, .ref (atr 0)), (1, .long x1)]) hx hb nd_Trial_mostDelays_70 hl (k := 2) rfl (by rfl) (by decide) rfl (fun ls hl => ?_)
            refine lv_goto (tgt := 6) hx hb nd_Trial_mostDelays_73 (by decide) ?_
            exact ih_6 ti_36.1 ti_36.2 (v3_6 + (1 : Int32)) hRx_tb_36 (by omega) (by omega) hM _ _ hP hD hS _ (lv_sub hl [1, 2, 0] rfl)
          have lp_36 : ∀ (n_36 : Nat) (tr_36 : cr_S) (tb_36 : cr_S) (v4_36 : Int32), (cr_RBoard tb_36) → (1 ≤ v4_36.toInt ∧ v4_36.toInt ≤ 4) → (4 < v4_36.toInt + (n_36 : Int)) → lo_Trial_mostDelays_36 pl x1 v3_6 n_36 tr_36 tb_36 v4_36 = ti_36 → ∀ (H : Heap) (locs : List Loc), va_P (dC, dI) vwCl (cw_Plan cI cZ cO apl pl ++ cw_Trial cI cZ cO atr apl atb tr_36 ++ cw_Board cI cZ cO atb apl tb_36) H → va_D A (cw_Plan cI cZ cO apl pl ++ cw_Trial cI cZ cO atr apl atb tr_36 ++ cw_Board cI cZ cO atb apl tb_36) → va_S A s.heap H locs → ∀ ls : Array Slot, lv_has ls 6 [(0, .ref (atr 0)), (1, .long x1), (3, .int v3_6), (4, .int v4_36)] → W p l e (headSpec nw_Trial_mostDelays ({ frames := 4, cells := 0, slots := 0, locals := 90 } : Room)).room s m ([.ref (atr 0), .long x1] : List Value).toArray below meth c H locs 0 0 (MQ below (pq_Trial_mostDelays dC dI cI cZ cO apl atr atb pl tr tb x1 A) ([.ref (atr 0), .long x1] : List Value).toArray s 0 0 A) (F0 m 36 ls []) := by
            try clear hM
            intro n_36
            induction n_36 with
            | zero =>
              intro tr_36 tb_36 v4_36 hR_tb_36 hv4_36 hn_36
              exfalso; omega
            | succ n_36 ih_36 =>
              intro tr_36 tb_36 v4_36 hR_tb_36 hv4_36 hn_36 hM H locs hP hD hS ls hl
              have hn_36 : 4 < v4_36.toInt + ((n_36 : Int) + 1) := by omega
              rw [lo_Trial_mostDelays_36] at hM
              refine lv_iload hx hb nd_Trial_mostDelays_36 (lv_at hl 3 rfl) ?_
              refine lv_iconst (v := 3) hx hb nd_Trial_mostDelays_38 (by decide) ?_
              refine lv_icmp_gt (tgt := 70) hx hb nd_Trial_mostDelays_39 (by decide) (fun c_25 => ?_) (fun c_25 => ?_)
              · have c_25t := cr_lt c_25
                rw [if_pos c_25] at hM
                subst hM
                exact hex_36 hR_tb_36 _ _ hP hD hS _ (lv_sub hl [0, 1, 2] rfl)
              · have c_25t := cr_nlt c_25
                rw [if_neg c_25] at hM
                refine lv_aload_n hx hb nd_Trial_mostDelays_42 rfl (lv_at hl 0 rfl) ?_
                refine va_get (D := (dC, dI)) (ci := 3) (v := .ref (atb 0)) (C := "CeilingRows$Trial") (T := nf_Trial) (N := 5) hx hb hts nin_Trial hown hK hP 17 rfl rfl 1 (by decide) (hts _ tw_123) (fun _ h9 => h9) rfl nd_Trial_mostDelays_43 ?_
                refine lv_iload hx hb nd_Trial_mostDelays_46 (lv_at hl 3 rfl) ?_
                have hPc := hP.sub (ws' := cw_Plan cI cZ cO apl pl ++ cw_Board cI cZ cO atb apl tb_36) [0, 1, 2, 3, 4, 5, 6, 7, 8, 9, 10, 11, 12, 13, 14, 15, 16, 31, 32, 33, 34, 35, 36] rfl
                have hDc := hD.sub (ws' := cw_Plan cI cZ cO apl pl ++ cw_Board cI cZ cO atb apl tb_36) [0, 1, 2, 3, 4, 5, 6, 7, 8, 9, 10, 11, 12, 13, 14, 15, 16, 31, 32, 33, 34, 35, 36] (by decide) rfl
                have hFc := va_free (wc := cw_Plan cI cZ cO apl pl ++ cw_Board cI cZ cO atb apl tb_36) hD hS hA [0, 1, 2, 3, 4, 5, 6, 7, 8, 9, 10, 11, 12, 13, 14, 15, 16, 31, 32, 33, 34, 35, 36] rfl
                refine va_calli (va_runV (As := [.int v4_36]) (rest := []) ⟨hx, hb, hml, hown, hts⟩ (ct_Board_firstOn l dC dI cI cZ cO apl atb H.size pl tb_36 v4_36 hR_tb_36 hR_pl) (cwV 1 hts (ng_V tw_367 tw_239 tw_240 tw_3 tw_241) rfl rfl rfl (by decide +kernel) ⟨Nat.le_of_ble_eq_true rfl, Nat.le_of_ble_eq_true rfl⟩) ⟨fun a U g mk q => by obtain ⟨q0, q1, qP, qK, qD⟩ := q; exact ⟨q0, q1, qP, va_K.moved (u := U) (U := U.calling g mk a) (Vm.Alike.refl U.vm) qK, qD⟩, va_recv hK hPc (ci := 1) (q0 := 17) rfl rfl, fun U hU hW => ⟨rfl, by rw [hU], by rw [hU]; exact hPc, va_K.moved hW.alike hK, hDc.weaken (fun _ _ _ _ => trivial)⟩⟩ rfl rfl hl.1 rfl (lv_room (Nat.le_of_ble_eq_true rfl)) nd_Trial_mostDelays_48 ⟨Nat.zero_le _, Nat.zero_le _⟩) hS (fun q _ h => hFc q h) hFc (fun r_26 u t H1 locs ht hvm hw hB hz1 hk1 hS => ?_)
                obtain ⟨hP1, hK1, hD1⟩ := hB
                rw [ht] at hP1
                obtain ⟨w_27, f_28⟩ := hw
                try rw [← w_27] at hM
                obtain ⟨hP, hD⟩ := va_join (wr := cw_Trial cI cZ cO atr apl atb tr_36) (w1 := cw_Plan cI cZ cO apl pl ++ cw_Board cI cZ cO atb apl tb_36) hP hD [0, 1, 2, 3, 4, 5, 6, 7, 8, 9, 10, 11, 12, 13, 14, 15, 16, 31, 32, 33, 34, 35, 36] [17, 18, 19, 20, 21, 22, 23, 24, 25, 26, 27, 28, 29, 30] rfl rfl (by decide) (by decide) hk1 hFc hP1 hD1
                have hP := hP.sub (ws' := cw_Plan cI cZ cO apl pl ++ cw_Trial cI cZ cO atr apl atb tr_36 ++ cw_Board cI cZ cO atb apl tb_36) [14, 15, 16, 17, 18, 19, 20, 21, 22, 23, 24, 25, 26, 27, 28, 29, 30, 0, 1, 2, 3, 4, 5, 6, 7, 8, 9, 10, 11, 12, 13, 31, 32, 33, 34, 35, 36] rfl
                have hD := hD.sub (ws' := cw_Plan cI cZ cO apl pl ++ cw_Trial cI cZ cO atr apl atb tr_36 ++ cw_Board cI cZ cO atb apl tb_36) [14, 15, 16, 17, 18, 19, 20, 21, 22, 23, 24, 25, 26, 27, 28, 29, 30, 0, 1, 2, 3, 4, 5, 6, 7, 8, 9, 10, 11, 12, 13, 31, 32, 33, 34, 35, 36] (by decide) rfl
                generalize H1 = H at hP hS ⊢
                refine lv_istore (lv' := [(5, .int r_26), (0, .ref (atr 0)), (1, .long x1), (3, .int v3_6), (4, .int v4_36)]) hx hb nd_Trial_mostDelays_51 hl (by decide) rfl (fun ls hl => ?_)
                refine lv_iload hx hb nd_Trial_mostDelays_53 (lv_at hl 0 rfl) ?_
                refine lv_if_eq (tgt := 64) hx hb nd_Trial_mostDelays_55 (by decide) (fun c_29 => ?_) (fun c_29 => ?_)
                · have c_29t := cr_eq c_29
                  rw [if_pos c_29] at hM
                  have e_30 : (v4_36 + (1 : Int32)).toInt = v4_36.toInt + (1 : Int32).toInt := cr_add (by omega)
                  refine lv_iinc (v := (v4_36 + (1 : Int32))) (lv' := [(4, .int (v4_36 + (1 : Int32))), (5, .int r_26), (0, .ref (atr 0)), (1, .long x1), (3, .int v3_6)]) hx hb nd_Trial_mostDelays_64 hl (k := 4) rfl (by rfl) (by decide) rfl (fun ls hl => ?_)
                  refine lv_goto (tgt := 36) hx hb nd_Trial_mostDelays_67 (by decide) ?_
                  exact ih_36 tr_36 tb_36 (v4_36 + (1 : Int32)) hR_tb_36 (by omega) (by omega) hM _ _ hP hD hS _ (lv_sub hl [2, 3, 4, 0] rfl)
                · have c_29t := cr_ne c_29
                  rw [if_neg c_29] at hM
                  refine lv_aload_n hx hb nd_Trial_mostDelays_58 rfl (lv_at hl 1 rfl) ?_
                  refine lv_iload hx hb nd_Trial_mostDelays_59 (lv_at hl 0 rfl) ?_
                  have hPc := hP
                  have hDc := hD
                  have hFc := va_free (wc := cw_Plan cI cZ cO apl pl ++ cw_Trial cI cZ cO atr apl atb tr_36 ++ cw_Board cI cZ cO atb apl tb_36) hD hS hA [0, 1, 2, 3, 4, 5, 6, 7, 8, 9, 10, 11, 12, 13, 14, 15, 16, 17, 18, 19, 20, 21, 22, 23, 24, 25, 26, 27, 28, 29, 30, 31, 32, 33, 34, 35, 36] rfl
                  refine va_callv (va_runV (As := [.int r_26]) (rest := []) ⟨hx, hb, hml, hown, hts⟩ (ct_Trial_haveTick l dC dI cI cZ cO apl atr atb H.size pl tr_36 tb_36 r_26 hR_tb_36 hR_pl (by omega)) (cwV 1 hts (ng_V tw_368 tw_370 tp_12 tw_5 tw_371) rfl rfl rfl (by decide +kernel) ⟨Nat.le_of_ble_eq_true rfl, Nat.le_of_ble_eq_true rfl⟩) ⟨fun a U g mk q => by obtain ⟨q0, q1, qP, qK, qD⟩ := q; exact ⟨q0, q1, qP, va_K.moved (u := U) (U := U.calling g mk a) (Vm.Alike.refl U.vm) qK, qD⟩, va_recv hK hPc (ci := 3) (q0 := 17) rfl rfl, fun U hU hW => ⟨rfl, by rw [hU], by rw [hU]; exact hPc, va_K.moved hW.alike hK, hDc.weaken (fun _ _ _ _ => trivial)⟩⟩ rfl rfl hl.1 rfl (lv_room (Nat.le_of_ble_eq_true rfl)) nd_Trial_mostDelays_61 ⟨Nat.zero_le _, Nat.zero_le _⟩) hS (fun q _ h => hFc q h) hFc (fun u t H1 locs ht hvm hw hB hz1 hk1 hS => ?_)
                  obtain ⟨hP1, hK1, hD1⟩ := hB
                  rw [ht] at hP1
                  obtain ⟨trq_32, tbq_34⟩ := u
                  dsimp only at hw hP1 hD1
                  obtain ⟨w_33, w_35, hR_36⟩ := hw
                  try rw [← w_33] at hM
                  try rw [← w_35] at hM
                  have hP := hP1
                  have hD := cr_Dw hD1 hFc
                  generalize H1 = H at hP hS ⊢
                  have e_37 : (v4_36 + (1 : Int32)).toInt = v4_36.toInt + (1 : Int32).toInt := cr_add (by omega)
                  refine lv_iinc (v := (v4_36 + (1 : Int32))) (lv' := [(4, .int (v4_36 + (1 : Int32))), (5, .int r_26), (0, .ref (atr 0)), (1, .long x1), (3, .int v3_6)]) hx hb nd_Trial_mostDelays_64 hl (k := 4) rfl (by rfl) (by decide) rfl (fun ls hl => ?_)
                  refine lv_goto (tgt := 36) hx hb nd_Trial_mostDelays_67 (by decide) ?_
                  exact ih_36 trq_32 tbq_34 (v4_36 + (1 : Int32)) hR_36 (by omega) (by omega) hM _ _ hP hD hS _ (lv_sub hl [2, 3, 4, 0] rfl)
          exact lp_36 4 tr_6 tbq_21 (1 : Int32) hR_23 (by omega) (by omega) hti_36 _ _ hP hD hS _ hl
  exact lp_6 339 trq_2 tbq_4 (0 : Int32) hR_6 (by omega) (by omega) hM _ _ hP hD hS _ hl
