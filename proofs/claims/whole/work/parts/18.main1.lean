theorem nd_Main_isCore_0 : decode prog_1_method_14_code 0 = .ok (.iload_n 0, 1) := by decide +kernel
theorem nd_Main_isCore_1 : decode prog_1_method_14_code 1 = .ok (.iconst 1, 1) := by decide +kernel
theorem nd_Main_isCore_2 : decode prog_1_method_14_code 2 = .ok (.if_icmp .lt (12), 3) := by decide +kernel
theorem nd_Main_isCore_5 : decode prog_1_method_14_code 5 = .ok (.iload_n 0, 1) := by decide +kernel
theorem nd_Main_isCore_6 : decode prog_1_method_14_code 6 = .ok (.iconst 3, 1) := by decide +kernel
theorem nd_Main_isCore_7 : decode prog_1_method_14_code 7 = .ok (.if_icmp .gt (7), 3) := by decide +kernel
theorem nd_Main_isCore_10 : decode prog_1_method_14_code 10 = .ok (.iconst 1, 1) := by decide +kernel
theorem nd_Main_isCore_11 : decode prog_1_method_14_code 11 = .ok (.goto (4), 3) := by decide +kernel
theorem nd_Main_isCore_14 : decode prog_1_method_14_code 14 = .ok (.iconst 0, 1) := by decide +kernel
theorem nd_Main_isCore_15 : decode prog_1_method_14_code 15 = .ok (.ireturn, 1) := by decide +kernel
abbrev pq_Main_isCore (dC : Nat → ClassId) (dI : Nat → Nat → Nat) (cI cZ cO : ClassId)   (x0 : Int32) (A : Nat → Prop) : Array Value → State → Outcome → State → Prop :=
  va_Qi (fun (r : Int32) (_ : Unit) => r = md_Main_isCore  x0 ∧ (r.toInt = 0 ∨ (1 ≤ x0.toInt ∧ x0.toInt ≤ 3))) (fun (_ : Unit) t => va_P (dC, dI) vwCl ([]) t.heap ∧ va_K (dC, dI) vwCl [(cI, .int), (cZ, .boolean), (cO, .array .int)] t ∧ va_D A ([])) A
set_option maxHeartbeats 4000000 in
set_option maxRecDepth 100000 in
theorem ct_Main_isCore (l : Launch) (dC : Nat → ClassId) (dI : Nat → Nat → Nat) (cI cZ cO : ClassId)  (sz : Nat)  (x0 : Int32)  : Met l ny_Main_isCore nw_Main_isCore ({ frames := 0, cells := 0, slots := 0, locals := 0 } : Room) (va_Pc [.int x0] (fun U => U.heap.size = sz ∧ va_P (dC, dI) vwCl ([]) U.heap ∧ va_K (dC, dI) vwCl [(cI, .int), (cZ, .boolean), (cO, .array .int)] U ∧ va_D (fun _ => True) ([]))) (pq_Main_isCore dC dI cI cZ cO  x0 (va_A ([]) sz)) 0 0 (va_A ([]) sz) := by
  refine Met.ofW (cc := prog_1_method_14_code) (maxL := 1) (ret := (some .boolean)) (by decide) rfl ?_
  intro p e s m args below meth c s₁ B hml hv
  obtain ⟨rfl, hsz, hP, hK, hD0⟩ := hv
  have hx := B.exec
  have hb := B.bytes
  have hr := B.returns
  have hts0 := atoms_spec (ws := nw_Main_isCore) B.pre
  have hts : ∀ w ∈ ng_tbl, w.before ([.int x0] : List Value).toArray s = true := fun w h => hts0 w (List.mem_cons_of_mem _ h)
  have hown : s.vm.findClass "CeilingRows" = some m.cls := findClass_of_methodNamed B.named
  have hlocks := B.notSynchronized
  subst hsz
  have hD := hD0.self (sz := s.heap.size)
  generalize hAe : va_A ([]) s.heap.size = A at hD ⊢
  have hA : ∀ q : Nat, s.heap.size ≤ q → A q := fun q h => by rw [← hAe]; exact Or.inr h
  have hS : va_S A s.heap s.heap [] := va_S.rf
  have hP : va_P (dC, dI) vwCl ([]) s.heap := hP
  have hl := lv_entry ([.int x0]) (n := 1) (Nat.le_of_ble_eq_true rfl)
  rw [lg_entry_eq]
  generalize (lg_sl ([.int x0]) ++ List.replicate (1 - (lg_sl ([.int x0])).length) Slot.unset).toArray = ls at hl ⊢
  have hl : lv_has ls 1 [(0, .int x0)] := hl
  have k_0 : (0 : Int32).toInt = 0 := by decide
  have k_1 : (1 : Int32).toInt = 1 := by decide
  have k_3 : (3 : Int32).toInt = 3 := by decide
  obtain ⟨tgt, hT⟩ : ∃ z, md_Main_isCore  x0 = z := ⟨_, rfl⟩
  have hM := hT
  unfold md_Main_isCore at hM
  refine lv_iload_n hx hb nd_Main_isCore_0 rfl (lv_at hl 0 rfl) ?_
  refine lv_iconst (v := 1) hx hb nd_Main_isCore_1 (by decide) ?_
  refine lv_icmp_lt (tgt := 14) hx hb nd_Main_isCore_2 (by decide) (fun c_1 => ?_) (fun c_1 => ?_)
  · have c_1t := cr_lt c_1
    rw [if_pos c_1] at hM
    refine lv_iconst (v := 0) hx hb nd_Main_isCore_14 (by decide) ?_
    exact W.zret (v := (0 : Int32)) (ty := .boolean) hx hb hr (by decide) (fun t ht hW => ⟨⟨(0 : Int32), (), rfl, ⟨by rw [hT, ← hM], by omega⟩, by rw [ht]; exact hP, va_K.moved hW.alike hK, hD⟩, hS.F ht⟩) hS.2.2 nd_Main_isCore_15
  · have c_1t := cr_nlt c_1
    rw [if_neg c_1] at hM
    refine lv_iload_n hx hb nd_Main_isCore_5 rfl (lv_at hl 0 rfl) ?_
    refine lv_iconst (v := 3) hx hb nd_Main_isCore_6 (by decide) ?_
    refine lv_icmp_gt (tgt := 14) hx hb nd_Main_isCore_7 (by decide) (fun c_2 => ?_) (fun c_2 => ?_)
    · have c_2t := cr_lt c_2
      rw [if_pos c_2] at hM
      refine lv_iconst (v := 0) hx hb nd_Main_isCore_14 (by decide) ?_
      exact W.zret (v := (0 : Int32)) (ty := .boolean) hx hb hr (by decide) (fun t ht hW => ⟨⟨(0 : Int32), (), rfl, ⟨by rw [hT, ← hM], by omega⟩, by rw [ht]; exact hP, va_K.moved hW.alike hK, hD⟩, hS.F ht⟩) hS.2.2 nd_Main_isCore_15
    · have c_2t := cr_nlt c_2
      rw [if_neg c_2] at hM
      refine lv_iconst (v := 1) hx hb nd_Main_isCore_10 (by decide) ?_
      refine lv_goto (tgt := 15) hx hb nd_Main_isCore_11 (by decide) ?_
      exact W.zret (v := (1 : Int32)) (ty := .boolean) hx hb hr (by decide) (fun t ht hW => ⟨⟨(1 : Int32), (), rfl, ⟨by rw [hT, ← hM], by omega⟩, by rw [ht]; exact hP, va_K.moved hW.alike hK, hD⟩, hS.F ht⟩) hS.2.2 nd_Main_isCore_15

theorem nd_Main_runs_0 : decode prog_1_method_15_code 0 = .ok (.aload_n 0, 1) := by decide +kernel
theorem nd_Main_runs_1 : decode prog_1_method_15_code 1 = .ok (.getfield 12, 3) := by decide +kernel
theorem nd_Main_runs_4 : decode prog_1_method_15_code 4 = .ok (.getfield 74, 3) := by decide +kernel
theorem nd_Main_runs_7 : decode prog_1_method_15_code 7 = .ok (.iload_n 1, 1) := by decide +kernel
theorem nd_Main_runs_8 : decode prog_1_method_15_code 8 = .ok (.iaload, 1) := by decide +kernel
theorem nd_Main_runs_9 : decode prog_1_method_15_code 9 = .ok (.istore_n 2, 1) := by decide +kernel
theorem nd_Main_runs_10 : decode prog_1_method_15_code 10 = .ok (.aload_n 0, 1) := by decide +kernel
theorem nd_Main_runs_11 : decode prog_1_method_15_code 11 = .ok (.getfield 28, 3) := by decide +kernel
theorem nd_Main_runs_14 : decode prog_1_method_15_code 14 = .ok (.iload_n 2, 1) := by decide +kernel
theorem nd_Main_runs_15 : decode prog_1_method_15_code 15 = .ok (.invokevirtual 118, 3) := by decide +kernel
theorem nd_Main_runs_18 : decode prog_1_method_15_code 18 = .ok (.ifCond .ne (19), 3) := by decide +kernel
theorem nd_Main_runs_21 : decode prog_1_method_15_code 21 = .ok (.aload_n 0, 1) := by decide +kernel
theorem nd_Main_runs_22 : decode prog_1_method_15_code 22 = .ok (.getfield 21, 3) := by decide +kernel
theorem nd_Main_runs_25 : decode prog_1_method_15_code 25 = .ok (.iload_n 2, 1) := by decide +kernel
theorem nd_Main_runs_26 : decode prog_1_method_15_code 26 = .ok (.invokevirtual 134, 3) := by decide +kernel
theorem nd_Main_runs_29 : decode prog_1_method_15_code 29 = .ok (.iload_n 1, 1) := by decide +kernel
theorem nd_Main_runs_30 : decode prog_1_method_15_code 30 = .ok (.if_icmp .ne (7), 3) := by decide +kernel
theorem nd_Main_runs_33 : decode prog_1_method_15_code 33 = .ok (.iconst 1, 1) := by decide +kernel
theorem nd_Main_runs_34 : decode prog_1_method_15_code 34 = .ok (.goto (4), 3) := by decide +kernel
theorem nd_Main_runs_37 : decode prog_1_method_15_code 37 = .ok (.iconst 0, 1) := by decide +kernel
theorem nd_Main_runs_38 : decode prog_1_method_15_code 38 = .ok (.ireturn, 1) := by decide +kernel
abbrev pq_Main_runs (dC : Nat → ClassId) (dI : Nat → Nat → Nat) (cI cZ cO : ClassId) (amn apl abd alk atr atb : Nat → Nat) (mn : cr_S) (lt : Int64) (pl : cr_S) (bd : cr_S) (lk : cr_S) (tr : cr_S) (tb : cr_S) (x1 : Int32) (A : Nat → Prop) : Array Value → State → Outcome → State → Prop :=
  va_Qi (fun (r : Int32) (_ : Unit) => r = md_Main_runs mn lt pl bd lk tr tb x1) (fun (_ : Unit) t => va_P (dC, dI) vwCl (cw_Main cI cZ cO amn apl abd alk atr mn lt ++ cw_Plan cI cZ cO apl pl ++ cw_Board cI cZ cO abd apl bd ++ cw_Locks cI cZ cO alk lk ++ cw_Trial cI cZ cO atr apl atb tr ++ cw_Board cI cZ cO atb apl tb) t.heap ∧ va_K (dC, dI) vwCl [(cI, .int), (cZ, .boolean), (cO, .array .int)] t ∧ va_D A (cw_Main cI cZ cO amn apl abd alk atr mn lt ++ cw_Plan cI cZ cO apl pl ++ cw_Board cI cZ cO abd apl bd ++ cw_Locks cI cZ cO alk lk ++ cw_Trial cI cZ cO atr apl atb tr ++ cw_Board cI cZ cO atb apl tb)) A
set_option maxHeartbeats 4000000 in
set_option maxRecDepth 100000 in
theorem ct_Main_runs (l : Launch) (dC : Nat → ClassId) (dI : Nat → Nat → Nat) (cI cZ cO : ClassId) (amn apl abd alk atr atb : Nat → Nat) (sz : Nat) (mn : cr_S) (lt : Int64) (pl : cr_S) (bd : cr_S) (lk : cr_S) (tr : cr_S) (tb : cr_S) (x1 : Int32) (hR_tb : cr_RBoard tb) (hR_lk : cr_RLocks lk) (hR_bd : cr_RBoard bd) (hR_pl : cr_RPlan pl) (hx1 : 0 ≤ x1.toInt ∧ x1.toInt ≤ 10) : Met l ny_Main_runs nw_Main_runs ({ frames := 3, cells := 0, slots := 0, locals := 70 } : Room) (va_Pc [.ref (amn 0), .int x1] (fun U => U.heap.size = sz ∧ va_P (dC, dI) vwCl (cw_Main cI cZ cO amn apl abd alk atr mn lt ++ cw_Plan cI cZ cO apl pl ++ cw_Board cI cZ cO abd apl bd ++ cw_Locks cI cZ cO alk lk ++ cw_Trial cI cZ cO atr apl atb tr ++ cw_Board cI cZ cO atb apl tb) U.heap ∧ va_K (dC, dI) vwCl [(cI, .int), (cZ, .boolean), (cO, .array .int)] U ∧ va_D (fun _ => True) (cw_Main cI cZ cO amn apl abd alk atr mn lt ++ cw_Plan cI cZ cO apl pl ++ cw_Board cI cZ cO abd apl bd ++ cw_Locks cI cZ cO alk lk ++ cw_Trial cI cZ cO atr apl atb tr ++ cw_Board cI cZ cO atb apl tb))) (pq_Main_runs dC dI cI cZ cO amn apl abd alk atr atb mn lt pl bd lk tr tb x1 (va_A (cw_Main cI cZ cO amn apl abd alk atr mn lt ++ cw_Plan cI cZ cO apl pl ++ cw_Board cI cZ cO abd apl bd ++ cw_Locks cI cZ cO alk lk ++ cw_Trial cI cZ cO atr apl atb tr ++ cw_Board cI cZ cO atb apl tb) sz)) 0 0 (va_A (cw_Main cI cZ cO amn apl abd alk atr mn lt ++ cw_Plan cI cZ cO apl pl ++ cw_Board cI cZ cO abd apl bd ++ cw_Locks cI cZ cO alk lk ++ cw_Trial cI cZ cO atr apl atb tr ++ cw_Board cI cZ cO atb apl tb) sz) := by
  refine Met.ofW (cc := prog_1_method_15_code) (maxL := 3) (ret := (some .boolean)) (by decide) rfl ?_
  intro p e s m args below meth c s₁ B hml hv
  obtain ⟨rfl, hsz, hP, hK, hD0⟩ := hv
  have hx := B.exec
  have hb := B.bytes
  have hr := B.returns
  have hts0 := atoms_spec (ws := nw_Main_runs) B.pre
  have hts : ∀ w ∈ ng_tbl, w.before ([.ref (amn 0), .int x1] : List Value).toArray s = true := fun w h => hts0 w (List.mem_cons_of_mem _ h)
  have hown : s.vm.findClass "CeilingRows" = some m.cls := findClass_of_methodNamed B.named
  have hlocks := B.notSynchronized
  subst hsz
  have hD := hD0.self (sz := s.heap.size)
  generalize hAe : va_A (cw_Main cI cZ cO amn apl abd alk atr mn lt ++ cw_Plan cI cZ cO apl pl ++ cw_Board cI cZ cO abd apl bd ++ cw_Locks cI cZ cO alk lk ++ cw_Trial cI cZ cO atr apl atb tr ++ cw_Board cI cZ cO atb apl tb) s.heap.size = A at hD ⊢
  have hA : ∀ q : Nat, s.heap.size ≤ q → A q := fun q h => by rw [← hAe]; exact Or.inr h
  have hS : va_S A s.heap s.heap [] := va_S.rf
  have hP : va_P (dC, dI) vwCl (cw_Main cI cZ cO amn apl abd alk atr mn lt ++ cw_Plan cI cZ cO apl pl ++ cw_Board cI cZ cO abd apl bd ++ cw_Locks cI cZ cO alk lk ++ cw_Trial cI cZ cO atr apl atb tr ++ cw_Board cI cZ cO atb apl tb) s.heap := hP
  have hl := lv_entry ([.ref (amn 0), .int x1]) (n := 3) (Nat.le_of_ble_eq_true rfl)
  rw [lg_entry_eq]
  generalize (lg_sl ([.ref (amn 0), .int x1]) ++ List.replicate (3 - (lg_sl ([.ref (amn 0), .int x1])).length) Slot.unset).toArray = ls at hl ⊢
  have hl : lv_has ls 3 [(0, .ref (amn 0)), (1, .int x1)] := hl
  have f0_pl_0 := cr_rfo hR_pl.1
  have f0_pl_1 := cr_rfo hR_pl.2.1
  have k_0 : (0 : Int32).toInt = 0 := by decide
  have k_1 : (1 : Int32).toInt = 1 := by decide
  obtain ⟨tgt, hT⟩ : ∃ z, md_Main_runs mn lt pl bd lk tr tb x1 = z := ⟨_, rfl⟩
  have hM := hT
  unfold md_Main_runs at hM
  refine lv_aload_n hx hb nd_Main_runs_0 rfl (lv_at hl 0 rfl) ?_
  refine va_get (D := (dC, dI)) (ci := 4) (v := .ref (apl 0)) (C := "CeilingRows") (T := nf_Main) (N := 6) hx hb hts nin_Main hown hK hP 0 rfl rfl 0 (by decide) (hts _ tw_138) (fun _ h9 => h9) rfl nd_Main_runs_1 ?_
  refine va_get (D := (dC, dI)) (ci := 0) (v := .ref (apl 2)) (C := "CeilingRows$Plan") (T := nf_Plan) (N := 7) hx hb hts nin_Plan hown hK hP 2 rfl rfl 3 (by decide) (hts _ tw_38) (fun _ h9 => h9) rfl nd_Main_runs_4 ?_
  refine lv_iload_n hx hb nd_Main_runs_7 rfl (lv_at hl 1 rfl) ?_
  have b_1 : vp_in x1 11 := vp_in_iff.mpr (by omega)
  refine va_iald hx hb hK hP 4 0 rfl rfl b_1 nd_Main_runs_8 ?_
  have f_2 := cr_rgo hR_pl.2.2 (x1.toNatClampNeg)
  refine lv_istore_n (lv' := [(2, .int (pl 2 x1.toNatClampNeg)), (0, .ref (amn 0)), (1, .int x1)]) hx hb nd_Main_runs_9 rfl hl (by decide) rfl (fun ls hl => ?_)
  refine lv_aload_n hx hb nd_Main_runs_10 rfl (lv_at hl 1 rfl) ?_
  refine va_get (D := (dC, dI)) (ci := 4) (v := .ref (alk 0)) (C := "CeilingRows") (T := nf_Main) (N := 6) hx hb hts nin_Main hown hK hP 0 rfl rfl 2 (by decide) (hts _ tw_140) (fun _ h9 => h9) rfl nd_Main_runs_11 ?_
  refine lv_iload_n hx hb nd_Main_runs_14 rfl (lv_at hl 0 rfl) ?_
  have hPc := hP.sub (ws' := cw_Locks cI cZ cO alk lk) [25, 26, 27, 28] rfl
  have hDc := hD.sub (ws' := cw_Locks cI cZ cO alk lk) [25, 26, 27, 28] (by decide) rfl
  have hFc := va_free (wc := cw_Locks cI cZ cO alk lk) hD hS hA [25, 26, 27, 28] rfl
  refine va_calli (va_runV (As := [.int (pl 2 x1.toNatClampNeg)]) (rest := []) ⟨hx, hb, hml, hown, hts⟩ (ct_Locks_spins l dC dI cI cZ cO alk s.heap.size lk (pl 2 x1.toNatClampNeg) hR_lk (by omega)) (cwV 1 hts (ng_V tw_234 tw_235 tw_236 tw_4 tw_237) rfl rfl rfl (by decide +kernel) ⟨Nat.le_of_ble_eq_true rfl, Nat.le_of_ble_eq_true rfl⟩) ⟨fun a U g mk q => by obtain ⟨q0, q1, qP, qK, qD⟩ := q; exact ⟨q0, q1, qP, va_K.moved (u := U) (U := U.calling g mk a) (Vm.Alike.refl U.vm) qK, qD⟩, va_recv hK hPc (ci := 2) (q0 := 0) rfl rfl, fun U hU hW => ⟨rfl, by rw [hU], by rw [hU]; exact hPc, va_K.moved hW.alike hK, hDc.weaken (fun _ _ _ _ => trivial)⟩⟩ rfl rfl hl.1 rfl (lv_room (Nat.le_of_ble_eq_true rfl)) nd_Main_runs_15 ⟨Nat.zero_le _, Nat.zero_le _⟩) hS (fun q _ h => hFc q h) hFc (fun r_3 u t H1 locs ht hvm hw hB hz1 hk1 hS => ?_)
  obtain ⟨hP1, hK1, hD1⟩ := hB
  rw [ht] at hP1
  have w_4 := hw
  try rw [← w_4] at hM
  obtain ⟨hP, hD⟩ := va_join (wr := cw_Main cI cZ cO amn apl abd alk atr mn lt ++ cw_Plan cI cZ cO apl pl ++ cw_Board cI cZ cO abd apl bd ++ cw_Trial cI cZ cO atr apl atb tr ++ cw_Board cI cZ cO atb apl tb) (w1 := cw_Locks cI cZ cO alk lk) hP hD [25, 26, 27, 28] [0, 1, 2, 3, 4, 5, 6, 7, 8, 9, 10, 11, 12, 13, 14, 15, 16, 17, 18, 19, 20, 21, 22, 23, 24, 29, 30, 31, 32, 33, 34, 35, 36, 37, 38, 39, 40, 41, 42, 43, 44, 45, 46, 47, 48] rfl rfl (by decide) (by decide) hk1 hFc hP1 hD1
  have hP := hP.sub (ws' := cw_Main cI cZ cO amn apl abd alk atr mn lt ++ cw_Plan cI cZ cO apl pl ++ cw_Board cI cZ cO abd apl bd ++ cw_Locks cI cZ cO alk lk ++ cw_Trial cI cZ cO atr apl atb tr ++ cw_Board cI cZ cO atb apl tb) [0, 1, 2, 3, 4, 5, 6, 7, 8, 9, 10, 11, 12, 13, 14, 15, 16, 17, 18, 19, 20, 21, 22, 23, 24, 45, 46, 47, 48, 25, 26, 27, 28, 29, 30, 31, 32, 33, 34, 35, 36, 37, 38, 39, 40, 41, 42, 43, 44] rfl
  have hD := hD.sub (ws' := cw_Main cI cZ cO amn apl abd alk atr mn lt ++ cw_Plan cI cZ cO apl pl ++ cw_Board cI cZ cO abd apl bd ++ cw_Locks cI cZ cO alk lk ++ cw_Trial cI cZ cO atr apl atb tr ++ cw_Board cI cZ cO atb apl tb) [0, 1, 2, 3, 4, 5, 6, 7, 8, 9, 10, 11, 12, 13, 14, 15, 16, 17, 18, 19, 20, 21, 22, 23, 24, 45, 46, 47, 48, 25, 26, 27, 28, 29, 30, 31, 32, 33, 34, 35, 36, 37, 38, 39, 40, 41, 42, 43, 44] (by decide) rfl
  generalize H1 = H at hP hS ⊢
  refine lv_if_ne (tgt := 37) hx hb nd_Main_runs_18 (by decide) (fun c_5 => ?_) (fun c_5 => ?_)
  · have c_5t := cr_ne c_5
    rw [if_neg c_5] at hM
    refine lv_iconst (v := 0) hx hb nd_Main_runs_37 (by decide) ?_
    exact W.zret (v := (0 : Int32)) (ty := .boolean) hx hb hr (by decide) (fun t ht hW => ⟨⟨(0 : Int32), (), rfl, by rw [hT, ← hM], by rw [ht]; exact hP, va_K.moved hW.alike hK, hD⟩, hS.F ht⟩) hS.2.2 nd_Main_runs_38
  · have c_5t := cr_eq c_5
    rw [if_pos c_5] at hM
    refine lv_aload_n hx hb nd_Main_runs_21 rfl (lv_at hl 1 rfl) ?_
    refine va_get (D := (dC, dI)) (ci := 4) (v := .ref (abd 0)) (C := "CeilingRows") (T := nf_Main) (N := 6) hx hb hts nin_Main hown hK hP 0 rfl rfl 1 (by decide) (hts _ tw_139) (fun _ h9 => h9) rfl nd_Main_runs_22 ?_
    refine lv_iload_n hx hb nd_Main_runs_25 rfl (lv_at hl 0 rfl) ?_
    have hPc := hP.sub (ws' := cw_Plan cI cZ cO apl pl ++ cw_Board cI cZ cO abd apl bd) [2, 3, 4, 5, 6, 7, 8, 9, 10, 11, 12, 13, 14, 15, 16, 17, 18, 19, 20, 21, 22, 23, 24] rfl
    have hDc := hD.sub (ws' := cw_Plan cI cZ cO apl pl ++ cw_Board cI cZ cO abd apl bd) [2, 3, 4, 5, 6, 7, 8, 9, 10, 11, 12, 13, 14, 15, 16, 17, 18, 19, 20, 21, 22, 23, 24] (by decide) rfl
    have hFc := va_free (wc := cw_Plan cI cZ cO apl pl ++ cw_Board cI cZ cO abd apl bd) hD hS hA [2, 3, 4, 5, 6, 7, 8, 9, 10, 11, 12, 13, 14, 15, 16, 17, 18, 19, 20, 21, 22, 23, 24] rfl
    refine va_calli (va_runV (As := [.int (pl 2 x1.toNatClampNeg)]) (rest := []) ⟨hx, hb, hml, hown, hts⟩ (ct_Board_firstOn l dC dI cI cZ cO apl abd H.size pl bd (pl 2 x1.toNatClampNeg) hR_bd hR_pl) (cwV 1 hts (ng_V tw_238 tw_239 tw_240 tw_3 tw_241) rfl rfl rfl (by decide +kernel) ⟨Nat.le_of_ble_eq_true rfl, Nat.le_of_ble_eq_true rfl⟩) ⟨fun a U g mk q => by obtain ⟨q0, q1, qP, qK, qD⟩ := q; exact ⟨q0, q1, qP, va_K.moved (u := U) (U := U.calling g mk a) (Vm.Alike.refl U.vm) qK, qD⟩, va_recv hK hPc (ci := 1) (q0 := 17) rfl rfl, fun U hU hW => ⟨rfl, by rw [hU], by rw [hU]; exact hPc, va_K.moved hW.alike hK, hDc.weaken (fun _ _ _ _ => trivial)⟩⟩ rfl rfl hl.1 rfl (lv_room (Nat.le_of_ble_eq_true rfl)) nd_Main_runs_26 ⟨Nat.zero_le _, Nat.zero_le _⟩) hS (fun q _ h => hFc q h) hFc (fun r_6 u t H1 locs ht hvm hw hB hz1 hk1 hS => ?_)
    obtain ⟨hP1, hK1, hD1⟩ := hB
    rw [ht] at hP1
    obtain ⟨w_7, f_8⟩ := hw
    try rw [← w_7] at hM
    obtain ⟨hP, hD⟩ := va_join (wr := cw_Main cI cZ cO amn apl abd alk atr mn lt ++ cw_Locks cI cZ cO alk lk ++ cw_Trial cI cZ cO atr apl atb tr ++ cw_Board cI cZ cO atb apl tb) (w1 := cw_Plan cI cZ cO apl pl ++ cw_Board cI cZ cO abd apl bd) hP hD [2, 3, 4, 5, 6, 7, 8, 9, 10, 11, 12, 13, 14, 15, 16, 17, 18, 19, 20, 21, 22, 23, 24] [0, 1, 25, 26, 27, 28, 29, 30, 31, 32, 33, 34, 35, 36, 37, 38, 39, 40, 41, 42, 43, 44, 45, 46, 47, 48] rfl rfl (by decide) (by decide) hk1 hFc hP1 hD1
    have hP := hP.sub (ws' := cw_Main cI cZ cO amn apl abd alk atr mn lt ++ cw_Plan cI cZ cO apl pl ++ cw_Board cI cZ cO abd apl bd ++ cw_Locks cI cZ cO alk lk ++ cw_Trial cI cZ cO atr apl atb tr ++ cw_Board cI cZ cO atb apl tb) [0, 1, 26, 27, 28, 29, 30, 31, 32, 33, 34, 35, 36, 37, 38, 39, 40, 41, 42, 43, 44, 45, 46, 47, 48, 2, 3, 4, 5, 6, 7, 8, 9, 10, 11, 12, 13, 14, 15, 16, 17, 18, 19, 20, 21, 22, 23, 24, 25] rfl
    have hD := hD.sub (ws' := cw_Main cI cZ cO amn apl abd alk atr mn lt ++ cw_Plan cI cZ cO apl pl ++ cw_Board cI cZ cO abd apl bd ++ cw_Locks cI cZ cO alk lk ++ cw_Trial cI cZ cO atr apl atb tr ++ cw_Board cI cZ cO atb apl tb) [0, 1, 26, 27, 28, 29, 30, 31, 32, 33, 34, 35, 36, 37, 38, 39, 40, 41, 42, 43, 44, 45, 46, 47, 48, 2, 3, 4, 5, 6, 7, 8, 9, 10, 11, 12, 13, 14, 15, 16, 17, 18, 19, 20, 21, 22, 23, 24, 25] (by decide) rfl
    generalize H1 = H at hP hS ⊢
    refine lv_iload_n hx hb nd_Main_runs_29 rfl (lv_at hl 2 rfl) ?_
    refine lv_icmp_ne (tgt := 37) hx hb nd_Main_runs_30 (by decide) (fun c_9 => ?_) (fun c_9 => ?_)
    · have c_9t := cr_ne c_9
      rw [if_neg c_9] at hM
      refine lv_iconst (v := 0) hx hb nd_Main_runs_37 (by decide) ?_
      exact W.zret (v := (0 : Int32)) (ty := .boolean) hx hb hr (by decide) (fun t ht hW => ⟨⟨(0 : Int32), (), rfl, by rw [hT, ← hM], by rw [ht]; exact hP, va_K.moved hW.alike hK, hD⟩, hS.F ht⟩) hS.2.2 nd_Main_runs_38
    · have c_9t := cr_eq c_9
      rw [if_pos c_9] at hM
      refine lv_iconst (v := 1) hx hb nd_Main_runs_33 (by decide) ?_
      refine lv_goto (tgt := 38) hx hb nd_Main_runs_34 (by decide) ?_
      exact W.zret (v := (1 : Int32)) (ty := .boolean) hx hb hr (by decide) (fun t ht hW => ⟨⟨(1 : Int32), (), rfl, by rw [hT, ← hM], by rw [ht]; exact hP, va_K.moved hW.alike hK, hD⟩, hS.F ht⟩) hS.2.2 nd_Main_runs_38

theorem nd_Main_startTask_0 : decode prog_1_method_17_code 0 = .ok (.aload_n 0, 1) := by decide +kernel
theorem nd_Main_startTask_1 : decode prog_1_method_17_code 1 = .ok (.getfield 21, 3) := by decide +kernel
theorem nd_Main_startTask_4 : decode prog_1_method_17_code 4 = .ok (.getfield 143, 3) := by decide +kernel
theorem nd_Main_startTask_7 : decode prog_1_method_17_code 7 = .ok (.iload_n 1, 1) := by decide +kernel
theorem nd_Main_startTask_8 : decode prog_1_method_17_code 8 = .ok (.iaload, 1) := by decide +kernel
theorem nd_Main_startTask_9 : decode prog_1_method_17_code 9 = .ok (.ifCond .eq (6), 3) := by decide +kernel
theorem nd_Main_startTask_12 : decode prog_1_method_17_code 12 = .ok (.bipush (-3), 2) := by decide +kernel
theorem nd_Main_startTask_14 : decode prog_1_method_17_code 14 = .ok (.ireturn, 1) := by decide +kernel
theorem nd_Main_startTask_15 : decode prog_1_method_17_code 15 = .ok (.aload_n 0, 1) := by decide +kernel
theorem nd_Main_startTask_16 : decode prog_1_method_17_code 16 = .ok (.getfield 21, 3) := by decide +kernel
theorem nd_Main_startTask_19 : decode prog_1_method_17_code 19 = .ok (.iload_n 1, 1) := by decide +kernel
theorem nd_Main_startTask_20 : decode prog_1_method_17_code 20 = .ok (.invokevirtual 161, 3) := by decide +kernel
theorem nd_Main_startTask_23 : decode prog_1_method_17_code 23 = .ok (.aload_n 0, 1) := by decide +kernel
theorem nd_Main_startTask_24 : decode prog_1_method_17_code 24 = .ok (.iload_n 1, 1) := by decide +kernel
theorem nd_Main_startTask_25 : decode prog_1_method_17_code 25 = .ok (.invokevirtual 146, 3) := by decide +kernel
theorem nd_Main_startTask_28 : decode prog_1_method_17_code 28 = .ok (.ifCond .eq (7), 3) := by decide +kernel
theorem nd_Main_startTask_31 : decode prog_1_method_17_code 31 = .ok (.iconst 1, 1) := by decide +kernel
theorem nd_Main_startTask_32 : decode prog_1_method_17_code 32 = .ok (.goto (4), 3) := by decide +kernel
theorem nd_Main_startTask_35 : decode prog_1_method_17_code 35 = .ok (.iconst 0, 1) := by decide +kernel
theorem nd_Main_startTask_36 : decode prog_1_method_17_code 36 = .ok (.ireturn, 1) := by decide +kernel
abbrev pq_Main_startTask (dC : Nat → ClassId) (dI : Nat → Nat → Nat) (cI cZ cO : ClassId) (amn apl abd alk atr atb : Nat → Nat) (mn : cr_S) (lt : Int64) (pl : cr_S) (bd : cr_S) (lk : cr_S) (tr : cr_S) (tb : cr_S) (x1 : Int32) (A : Nat → Prop) : Array Value → State → Outcome → State → Prop :=
  va_Qi (fun (r : Int32) (bd' : cr_S) => r = (md_Main_startTask mn lt pl bd lk tr tb x1).1 ∧ bd' = (md_Main_startTask mn lt pl bd lk tr tb x1).2 ∧ cr_RBoard bd') (fun (bd' : cr_S) t => va_P (dC, dI) vwCl (cw_Main cI cZ cO amn apl abd alk atr mn lt ++ cw_Plan cI cZ cO apl pl ++ cw_Board cI cZ cO abd apl bd' ++ cw_Locks cI cZ cO alk lk ++ cw_Trial cI cZ cO atr apl atb tr ++ cw_Board cI cZ cO atb apl tb) t.heap ∧ va_K (dC, dI) vwCl [(cI, .int), (cZ, .boolean), (cO, .array .int)] t ∧ va_D A (cw_Main cI cZ cO amn apl abd alk atr mn lt ++ cw_Plan cI cZ cO apl pl ++ cw_Board cI cZ cO abd apl bd' ++ cw_Locks cI cZ cO alk lk ++ cw_Trial cI cZ cO atr apl atb tr ++ cw_Board cI cZ cO atb apl tb)) A
set_option maxHeartbeats 4000000 in
set_option maxRecDepth 100000 in
theorem ct_Main_startTask (l : Launch) (dC : Nat → ClassId) (dI : Nat → Nat → Nat) (cI cZ cO : ClassId) (amn apl abd alk atr atb : Nat → Nat) (sz : Nat) (mn : cr_S) (lt : Int64) (pl : cr_S) (bd : cr_S) (lk : cr_S) (tr : cr_S) (tb : cr_S) (x1 : Int32) (hR_tb : cr_RBoard tb) (hR_lk : cr_RLocks lk) (hR_bd : cr_RBoard bd) (hR_pl : cr_RPlan pl) (hx1 : 0 ≤ x1.toInt ∧ x1.toInt ≤ 10) : Met l ny_Main_startTask nw_Main_startTask ({ frames := 4, cells := 0, slots := 0, locals := 92 } : Room) (va_Pc [.ref (amn 0), .int x1] (fun U => U.heap.size = sz ∧ va_P (dC, dI) vwCl (cw_Main cI cZ cO amn apl abd alk atr mn lt ++ cw_Plan cI cZ cO apl pl ++ cw_Board cI cZ cO abd apl bd ++ cw_Locks cI cZ cO alk lk ++ cw_Trial cI cZ cO atr apl atb tr ++ cw_Board cI cZ cO atb apl tb) U.heap ∧ va_K (dC, dI) vwCl [(cI, .int), (cZ, .boolean), (cO, .array .int)] U ∧ va_D (fun _ => True) (cw_Main cI cZ cO amn apl abd alk atr mn lt ++ cw_Plan cI cZ cO apl pl ++ cw_Board cI cZ cO abd apl bd ++ cw_Locks cI cZ cO alk lk ++ cw_Trial cI cZ cO atr apl atb tr ++ cw_Board cI cZ cO atb apl tb))) (pq_Main_startTask dC dI cI cZ cO amn apl abd alk atr atb mn lt pl bd lk tr tb x1 (va_A (cw_Main cI cZ cO amn apl abd alk atr mn lt ++ cw_Plan cI cZ cO apl pl ++ cw_Board cI cZ cO abd apl bd ++ cw_Locks cI cZ cO alk lk ++ cw_Trial cI cZ cO atr apl atb tr ++ cw_Board cI cZ cO atb apl tb) sz)) 0 0 (va_A (cw_Main cI cZ cO amn apl abd alk atr mn lt ++ cw_Plan cI cZ cO apl pl ++ cw_Board cI cZ cO abd apl bd ++ cw_Locks cI cZ cO alk lk ++ cw_Trial cI cZ cO atr apl atb tr ++ cw_Board cI cZ cO atb apl tb) sz) := by
  refine Met.ofW (cc := prog_1_method_17_code) (maxL := 2) (ret := (some .int)) (by decide) rfl ?_
  intro p e s m args below meth c s₁ B hml hv
  obtain ⟨rfl, hsz, hP, hK, hD0⟩ := hv
  have hx := B.exec
  have hb := B.bytes
  have hr := B.returns
  have hts0 := atoms_spec (ws := nw_Main_startTask) B.pre
  have hts : ∀ w ∈ ng_tbl, w.before ([.ref (amn 0), .int x1] : List Value).toArray s = true := fun w h => hts0 w (List.mem_cons_of_mem _ h)
  have hown : s.vm.findClass "CeilingRows" = some m.cls := findClass_of_methodNamed B.named
  have hlocks := B.notSynchronized
  subst hsz
  have hD := hD0.self (sz := s.heap.size)
  generalize hAe : va_A (cw_Main cI cZ cO amn apl abd alk atr mn lt ++ cw_Plan cI cZ cO apl pl ++ cw_Board cI cZ cO abd apl bd ++ cw_Locks cI cZ cO alk lk ++ cw_Trial cI cZ cO atr apl atb tr ++ cw_Board cI cZ cO atb apl tb) s.heap.size = A at hD ⊢
  have hA : ∀ q : Nat, s.heap.size ≤ q → A q := fun q h => by rw [← hAe]; exact Or.inr h
  have hS : va_S A s.heap s.heap [] := va_S.rf
  have hP : va_P (dC, dI) vwCl (cw_Main cI cZ cO amn apl abd alk atr mn lt ++ cw_Plan cI cZ cO apl pl ++ cw_Board cI cZ cO abd apl bd ++ cw_Locks cI cZ cO alk lk ++ cw_Trial cI cZ cO atr apl atb tr ++ cw_Board cI cZ cO atb apl tb) s.heap := hP
  have hl := lv_entry ([.ref (amn 0), .int x1]) (n := 2) (Nat.le_of_ble_eq_true rfl)
  rw [lg_entry_eq]
  generalize (lg_sl ([.ref (amn 0), .int x1]) ++ List.replicate (2 - (lg_sl ([.ref (amn 0), .int x1])).length) Slot.unset).toArray = ls at hl ⊢
  have hl : lv_has ls 2 [(0, .ref (amn 0)), (1, .int x1)] := hl
  have f0_pl_0 := cr_rfo hR_pl.1
  have f0_pl_1 := cr_rfo hR_pl.2.1
  have k_m3 : (-3 : Int32).toInt = -3 := by decide
  have k_0 : (0 : Int32).toInt = 0 := by decide
  have k_1 : (1 : Int32).toInt = 1 := by decide
  obtain ⟨tgt, hT⟩ : ∃ z, md_Main_startTask mn lt pl bd lk tr tb x1 = z := ⟨_, rfl⟩
  have hM := hT
  unfold md_Main_startTask at hM
  refine lv_aload_n hx hb nd_Main_startTask_0 rfl (lv_at hl 0 rfl) ?_
  refine va_get (D := (dC, dI)) (ci := 4) (v := .ref (abd 0)) (C := "CeilingRows") (T := nf_Main) (N := 6) hx hb hts nin_Main hown hK hP 0 rfl rfl 1 (by decide) (hts _ tw_139) (fun _ h9 => h9) rfl nd_Main_startTask_1 ?_
  refine va_get (D := (dC, dI)) (ci := 1) (v := .ref (abd 1)) (C := "CeilingRows$Board") (T := nf_Board) (N := 7) hx hb hts nin_Board hown hK hP 19 rfl rfl 1 (by decide) (hts _ tw_70) (fun _ h9 => h9) rfl nd_Main_startTask_4 ?_
  refine lv_iload_n hx hb nd_Main_startTask_7 rfl (lv_at hl 1 rfl) ?_
  have b_1 : vp_in x1 11 := vp_in_iff.mpr (by omega)
  refine va_iald hx hb hK hP 20 0 rfl rfl b_1 nd_Main_startTask_8 ?_
  refine lv_if_eq (tgt := 15) hx hb nd_Main_startTask_9 (by decide) (fun c_2 => ?_) (fun c_2 => ?_)
  · have c_2t := cr_eq c_2
    rw [if_pos c_2] at hM
    refine lv_aload_n hx hb nd_Main_startTask_15 rfl (lv_at hl 0 rfl) ?_
    refine va_get (D := (dC, dI)) (ci := 4) (v := .ref (abd 0)) (C := "CeilingRows") (T := nf_Main) (N := 6) hx hb hts nin_Main hown hK hP 0 rfl rfl 1 (by decide) (hts _ tw_139) (fun _ h9 => h9) rfl nd_Main_startTask_16 ?_
    refine lv_iload_n hx hb nd_Main_startTask_19 rfl (lv_at hl 1 rfl) ?_
    have hPc := hP.sub (ws' := cw_Plan cI cZ cO apl pl ++ cw_Board cI cZ cO abd apl bd) [2, 3, 4, 5, 6, 7, 8, 9, 10, 11, 12, 13, 14, 15, 16, 17, 18, 19, 20, 21, 22, 23, 24] rfl
    have hDc := hD.sub (ws' := cw_Plan cI cZ cO apl pl ++ cw_Board cI cZ cO abd apl bd) [2, 3, 4, 5, 6, 7, 8, 9, 10, 11, 12, 13, 14, 15, 16, 17, 18, 19, 20, 21, 22, 23, 24] (by decide) rfl
    have hFc := va_free (wc := cw_Plan cI cZ cO apl pl ++ cw_Board cI cZ cO abd apl bd) hD hS hA [2, 3, 4, 5, 6, 7, 8, 9, 10, 11, 12, 13, 14, 15, 16, 17, 18, 19, 20, 21, 22, 23, 24] rfl
    refine va_callv (va_runV (As := [.int x1]) (rest := []) ⟨hx, hb, hml, hown, hts⟩ (ct_Board_makeReady l dC dI cI cZ cO apl abd s.heap.size pl bd x1 hR_bd hR_pl (by omega)) (cwV 1 hts (ng_V tw_226 tw_227 tw_228 tw_3 tw_229) rfl rfl rfl (by decide +kernel) ⟨Nat.le_of_ble_eq_true rfl, Nat.le_of_ble_eq_true rfl⟩) ⟨fun a U g mk q => by obtain ⟨q0, q1, qP, qK, qD⟩ := q; exact ⟨q0, q1, qP, va_K.moved (u := U) (U := U.calling g mk a) (Vm.Alike.refl U.vm) qK, qD⟩, va_recv hK hPc (ci := 1) (q0 := 17) rfl rfl, fun U hU hW => ⟨rfl, by rw [hU], by rw [hU]; exact hPc, va_K.moved hW.alike hK, hDc.weaken (fun _ _ _ _ => trivial)⟩⟩ rfl rfl hl.1 rfl (lv_room (Nat.le_of_ble_eq_true rfl)) nd_Main_startTask_20 ⟨Nat.zero_le _, Nat.zero_le _⟩) hS (fun q _ h => hFc q h) hFc (fun u t H1 locs ht hvm hw hB hz1 hk1 hS => ?_)
    obtain ⟨hP1, hK1, hD1⟩ := hB
    rw [ht] at hP1
    obtain ⟨bdq_4, rfl⟩ : ∃ z, z = u := ⟨_, rfl⟩
    obtain ⟨w_5, hR_6⟩ := hw
    try rw [← w_5] at hM
    obtain ⟨hP, hD⟩ := va_join (wr := cw_Main cI cZ cO amn apl abd alk atr mn lt ++ cw_Locks cI cZ cO alk lk ++ cw_Trial cI cZ cO atr apl atb tr ++ cw_Board cI cZ cO atb apl tb) (w1 := cw_Plan cI cZ cO apl pl ++ cw_Board cI cZ cO abd apl bdq_4) hP hD [2, 3, 4, 5, 6, 7, 8, 9, 10, 11, 12, 13, 14, 15, 16, 17, 18, 19, 20, 21, 22, 23, 24] [0, 1, 25, 26, 27, 28, 29, 30, 31, 32, 33, 34, 35, 36, 37, 38, 39, 40, 41, 42, 43, 44, 45, 46, 47, 48] rfl rfl (by decide) (by decide) hk1 hFc hP1 hD1
    have hP := hP.sub (ws' := cw_Main cI cZ cO amn apl abd alk atr mn lt ++ cw_Plan cI cZ cO apl pl ++ cw_Board cI cZ cO abd apl bdq_4 ++ cw_Locks cI cZ cO alk lk ++ cw_Trial cI cZ cO atr apl atb tr ++ cw_Board cI cZ cO atb apl tb) [0, 1, 26, 27, 28, 29, 30, 31, 32, 33, 34, 35, 36, 37, 38, 39, 40, 41, 42, 43, 44, 45, 46, 47, 48, 2, 3, 4, 5, 6, 7, 8, 9, 10, 11, 12, 13, 14, 15, 16, 17, 18, 19, 20, 21, 22, 23, 24, 25] rfl
    have hD := hD.sub (ws' := cw_Main cI cZ cO amn apl abd alk atr mn lt ++ cw_Plan cI cZ cO apl pl ++ cw_Board cI cZ cO abd apl bdq_4 ++ cw_Locks cI cZ cO alk lk ++ cw_Trial cI cZ cO atr apl atb tr ++ cw_Board cI cZ cO atb apl tb) [0, 1, 26, 27, 28, 29, 30, 31, 32, 33, 34, 35, 36, 37, 38, 39, 40, 41, 42, 43, 44, 45, 46, 47, 48, 2, 3, 4, 5, 6, 7, 8, 9, 10, 11, 12, 13, 14, 15, 16, 17, 18, 19, 20, 21, 22, 23, 24, 25] (by decide) rfl
    generalize H1 = H at hP hS ⊢
    refine lv_aload_n hx hb nd_Main_startTask_23 rfl (lv_at hl 0 rfl) ?_
    refine lv_iload_n hx hb nd_Main_startTask_24 rfl (lv_at hl 1 rfl) ?_
    have hPc := hP
    have hDc := hD
    have hFc := va_free (wc := cw_Main cI cZ cO amn apl abd alk atr mn lt ++ cw_Plan cI cZ cO apl pl ++ cw_Board cI cZ cO abd apl bdq_4 ++ cw_Locks cI cZ cO alk lk ++ cw_Trial cI cZ cO atr apl atb tr ++ cw_Board cI cZ cO atb apl tb) hD hS hA [0, 1, 2, 3, 4, 5, 6, 7, 8, 9, 10, 11, 12, 13, 14, 15, 16, 17, 18, 19, 20, 21, 22, 23, 24, 25, 26, 27, 28, 29, 30, 31, 32, 33, 34, 35, 36, 37, 38, 39, 40, 41, 42, 43, 44, 45, 46, 47, 48] rfl
    refine va_calli (va_runV (As := [.int x1]) (rest := []) ⟨hx, hb, hml, hown, hts⟩ (ct_Main_runs l dC dI cI cZ cO amn apl abd alk atr atb H.size mn lt pl bdq_4 lk tr tb x1 hR_tb hR_lk hR_6 hR_pl (by omega)) (cwV 1 hts (ng_V tw_230 tw_232 tp_2 tw_1 tw_233) rfl rfl rfl (by decide +kernel) ⟨Nat.le_of_ble_eq_true rfl, Nat.le_of_ble_eq_true rfl⟩) ⟨fun a U g mk q => by obtain ⟨q0, q1, qP, qK, qD⟩ := q; exact ⟨q0, q1, qP, va_K.moved (u := U) (U := U.calling g mk a) (Vm.Alike.refl U.vm) qK, qD⟩, va_recv hK hPc (ci := 4) (q0 := 0) rfl rfl, fun U hU hW => ⟨rfl, by rw [hU], by rw [hU]; exact hPc, va_K.moved hW.alike hK, hDc.weaken (fun _ _ _ _ => trivial)⟩⟩ rfl rfl hl.1 rfl (lv_room (Nat.le_of_ble_eq_true rfl)) nd_Main_startTask_25 ⟨Nat.zero_le _, Nat.zero_le _⟩) hS (fun q _ h => hFc q h) hFc (fun r_7 u t H1 locs ht hvm hw hB hz1 hk1 hS => ?_)
    obtain ⟨hP1, hK1, hD1⟩ := hB
    rw [ht] at hP1
    have w_8 := hw
    try rw [← w_8] at hM
    have hP := hP1
    have hD := cr_Dw hD1 hFc
    generalize H1 = H at hP hS ⊢
    refine lv_if_eq (tgt := 35) hx hb nd_Main_startTask_28 (by decide) (fun c_9 => ?_) (fun c_9 => ?_)
    · have c_9t := cr_eq c_9
      rw [if_pos c_9] at hM
      refine lv_iconst (v := 0) hx hb nd_Main_startTask_35 (by decide) ?_
      exact W.iret (v := (0 : Int32)) hx hb hr (fun t ht hW => ⟨⟨(0 : Int32), bdq_4, rfl, ⟨by rw [hT, ← hM], by rw [hT, ← hM], hR_6⟩, by rw [ht]; exact hP, va_K.moved hW.alike hK, hD⟩, hS.F ht⟩) hS.2.2 nd_Main_startTask_36
    · have c_9t := cr_ne c_9
      rw [if_neg c_9] at hM
      refine lv_iconst (v := 1) hx hb nd_Main_startTask_31 (by decide) ?_
      refine lv_goto (tgt := 36) hx hb nd_Main_startTask_32 (by decide) ?_
      exact W.iret (v := (1 : Int32)) hx hb hr (fun t ht hW => ⟨⟨(1 : Int32), bdq_4, rfl, ⟨by rw [hT, ← hM], by rw [hT, ← hM], hR_6⟩, by rw [ht]; exact hP, va_K.moved hW.alike hK, hD⟩, hS.F ht⟩) hS.2.2 nd_Main_startTask_36
  · have c_2t := cr_ne c_2
    rw [if_neg c_2] at hM
    refine lv_bipush (v := -3) hx hb nd_Main_startTask_12 (by decide) ?_
    exact W.iret (v := (-3 : Int32)) hx hb hr (fun t ht hW => ⟨⟨(-3 : Int32), bd, rfl, ⟨by rw [hT, ← hM], by rw [hT, ← hM], hR_bd⟩, by rw [ht]; exact hP, va_K.moved hW.alike hK, hD⟩, hS.F ht⟩) hS.2.2 nd_Main_startTask_14

theorem nd_Main_sendEvent_0 : decode prog_1_method_18_code 0 = .ok (.aload_n 0, 1) := by decide +kernel
theorem nd_Main_sendEvent_1 : decode prog_1_method_18_code 1 = .ok (.getfield 21, 3) := by decide +kernel
theorem nd_Main_sendEvent_4 : decode prog_1_method_18_code 4 = .ok (.getfield 143, 3) := by decide +kernel
theorem nd_Main_sendEvent_7 : decode prog_1_method_18_code 7 = .ok (.iload_n 1, 1) := by decide +kernel
theorem nd_Main_sendEvent_8 : decode prog_1_method_18_code 8 = .ok (.iaload, 1) := by decide +kernel
theorem nd_Main_sendEvent_9 : decode prog_1_method_18_code 9 = .ok (.ifCond .ne (6), 3) := by decide +kernel
theorem nd_Main_sendEvent_12 : decode prog_1_method_18_code 12 = .ok (.bipush (-3), 2) := by decide +kernel
theorem nd_Main_sendEvent_14 : decode prog_1_method_18_code 14 = .ok (.ireturn, 1) := by decide +kernel
theorem nd_Main_sendEvent_15 : decode prog_1_method_18_code 15 = .ok (.aload_n 0, 1) := by decide +kernel
theorem nd_Main_sendEvent_16 : decode prog_1_method_18_code 16 = .ok (.getfield 21, 3) := by decide +kernel
theorem nd_Main_sendEvent_19 : decode prog_1_method_18_code 19 = .ok (.getfield 143, 3) := by decide +kernel
theorem nd_Main_sendEvent_22 : decode prog_1_method_18_code 22 = .ok (.iload_n 1, 1) := by decide +kernel
theorem nd_Main_sendEvent_23 : decode prog_1_method_18_code 23 = .ok (.iaload, 1) := by decide +kernel
theorem nd_Main_sendEvent_24 : decode prog_1_method_18_code 24 = .ok (.iconst 2, 1) := by decide +kernel
theorem nd_Main_sendEvent_25 : decode prog_1_method_18_code 25 = .ok (.if_icmp .ne (14), 3) := by decide +kernel
theorem nd_Main_sendEvent_28 : decode prog_1_method_18_code 28 = .ok (.aload_n 0, 1) := by decide +kernel
theorem nd_Main_sendEvent_29 : decode prog_1_method_18_code 29 = .ok (.getfield 21, 3) := by decide +kernel
theorem nd_Main_sendEvent_32 : decode prog_1_method_18_code 32 = .ok (.iload_n 1, 1) := by decide +kernel
theorem nd_Main_sendEvent_33 : decode prog_1_method_18_code 33 = .ok (.invokevirtual 161, 3) := by decide +kernel
theorem nd_Main_sendEvent_36 : decode prog_1_method_18_code 36 = .ok (.goto (10), 3) := by decide +kernel
theorem nd_Main_sendEvent_39 : decode prog_1_method_18_code 39 = .ok (.aload_n 0, 1) := by decide +kernel
theorem nd_Main_sendEvent_40 : decode prog_1_method_18_code 40 = .ok (.getfield 39, 3) := by decide +kernel
theorem nd_Main_sendEvent_43 : decode prog_1_method_18_code 43 = .ok (.iload_n 1, 1) := by decide +kernel
theorem nd_Main_sendEvent_44 : decode prog_1_method_18_code 44 = .ok (.iconst 1, 1) := by decide +kernel
theorem nd_Main_sendEvent_45 : decode prog_1_method_18_code 45 = .ok (.bastore, 1) := by decide +kernel
theorem nd_Main_sendEvent_46 : decode prog_1_method_18_code 46 = .ok (.aload_n 0, 1) := by decide +kernel
theorem nd_Main_sendEvent_47 : decode prog_1_method_18_code 47 = .ok (.iload_n 1, 1) := by decide +kernel
theorem nd_Main_sendEvent_48 : decode prog_1_method_18_code 48 = .ok (.invokevirtual 146, 3) := by decide +kernel
theorem nd_Main_sendEvent_51 : decode prog_1_method_18_code 51 = .ok (.ifCond .eq (7), 3) := by decide +kernel
theorem nd_Main_sendEvent_54 : decode prog_1_method_18_code 54 = .ok (.iconst 1, 1) := by decide +kernel
theorem nd_Main_sendEvent_55 : decode prog_1_method_18_code 55 = .ok (.goto (4), 3) := by decide +kernel
theorem nd_Main_sendEvent_58 : decode prog_1_method_18_code 58 = .ok (.iconst 0, 1) := by decide +kernel
theorem nd_Main_sendEvent_59 : decode prog_1_method_18_code 59 = .ok (.ireturn, 1) := by decide +kernel
abbrev pq_Main_sendEvent (dC : Nat → ClassId) (dI : Nat → Nat → Nat) (cI cZ cO : ClassId) (amn apl abd alk atr atb : Nat → Nat) (mn : cr_S) (lt : Int64) (pl : cr_S) (bd : cr_S) (lk : cr_S) (tr : cr_S) (tb : cr_S) (x1 : Int32) (A : Nat → Prop) : Array Value → State → Outcome → State → Prop :=
  va_Qi (fun (r : Int32) (u : cr_S × Int64 × cr_S) => r = (md_Main_sendEvent mn lt pl bd lk tr tb x1).1 ∧ u.1 = (md_Main_sendEvent mn lt pl bd lk tr tb x1).2.1 ∧ u.2.1 = (md_Main_sendEvent mn lt pl bd lk tr tb x1).2.2.1 ∧ u.2.2 = (md_Main_sendEvent mn lt pl bd lk tr tb x1).2.2.2 ∧ cr_RBoard u.2.2) (fun (u : cr_S × Int64 × cr_S) t => va_P (dC, dI) vwCl (cw_Main cI cZ cO amn apl abd alk atr u.1 u.2.1 ++ cw_Plan cI cZ cO apl pl ++ cw_Board cI cZ cO abd apl u.2.2 ++ cw_Locks cI cZ cO alk lk ++ cw_Trial cI cZ cO atr apl atb tr ++ cw_Board cI cZ cO atb apl tb) t.heap ∧ va_K (dC, dI) vwCl [(cI, .int), (cZ, .boolean), (cO, .array .int)] t ∧ va_D A (cw_Main cI cZ cO amn apl abd alk atr u.1 u.2.1 ++ cw_Plan cI cZ cO apl pl ++ cw_Board cI cZ cO abd apl u.2.2 ++ cw_Locks cI cZ cO alk lk ++ cw_Trial cI cZ cO atr apl atb tr ++ cw_Board cI cZ cO atb apl tb)) A
set_option maxHeartbeats 4000000 in
set_option maxRecDepth 100000 in
theorem ct_Main_sendEvent (l : Launch) (dC : Nat → ClassId) (dI : Nat → Nat → Nat) (cI cZ cO : ClassId) (amn apl abd alk atr atb : Nat → Nat) (sz : Nat) (mn : cr_S) (lt : Int64) (pl : cr_S) (bd : cr_S) (lk : cr_S) (tr : cr_S) (tb : cr_S) (x1 : Int32) (hR_tb : cr_RBoard tb) (hR_lk : cr_RLocks lk) (hR_bd : cr_RBoard bd) (hR_pl : cr_RPlan pl) (hx1 : 0 ≤ x1.toInt ∧ x1.toInt ≤ 10) : Met l ny_Main_sendEvent nw_Main_sendEvent ({ frames := 4, cells := 0, slots := 0, locals := 92 } : Room) (va_Pc [.ref (amn 0), .int x1] (fun U => U.heap.size = sz ∧ va_P (dC, dI) vwCl (cw_Main cI cZ cO amn apl abd alk atr mn lt ++ cw_Plan cI cZ cO apl pl ++ cw_Board cI cZ cO abd apl bd ++ cw_Locks cI cZ cO alk lk ++ cw_Trial cI cZ cO atr apl atb tr ++ cw_Board cI cZ cO atb apl tb) U.heap ∧ va_K (dC, dI) vwCl [(cI, .int), (cZ, .boolean), (cO, .array .int)] U ∧ va_D (fun _ => True) (cw_Main cI cZ cO amn apl abd alk atr mn lt ++ cw_Plan cI cZ cO apl pl ++ cw_Board cI cZ cO abd apl bd ++ cw_Locks cI cZ cO alk lk ++ cw_Trial cI cZ cO atr apl atb tr ++ cw_Board cI cZ cO atb apl tb))) (pq_Main_sendEvent dC dI cI cZ cO amn apl abd alk atr atb mn lt pl bd lk tr tb x1 (va_A (cw_Main cI cZ cO amn apl abd alk atr mn lt ++ cw_Plan cI cZ cO apl pl ++ cw_Board cI cZ cO abd apl bd ++ cw_Locks cI cZ cO alk lk ++ cw_Trial cI cZ cO atr apl atb tr ++ cw_Board cI cZ cO atb apl tb) sz)) 0 0 (va_A (cw_Main cI cZ cO amn apl abd alk atr mn lt ++ cw_Plan cI cZ cO apl pl ++ cw_Board cI cZ cO abd apl bd ++ cw_Locks cI cZ cO alk lk ++ cw_Trial cI cZ cO atr apl atb tr ++ cw_Board cI cZ cO atb apl tb) sz) := by
  refine Met.ofW (cc := prog_1_method_18_code) (maxL := 2) (ret := (some .int)) (by decide) rfl ?_
  intro p e s m args below meth c s₁ B hml hv
  obtain ⟨rfl, hsz, hP, hK, hD0⟩ := hv
  have hx := B.exec
  have hb := B.bytes
  have hr := B.returns
  have hts0 := atoms_spec (ws := nw_Main_sendEvent) B.pre
  have hts : ∀ w ∈ ng_tbl, w.before ([.ref (amn 0), .int x1] : List Value).toArray s = true := fun w h => hts0 w (List.mem_cons_of_mem _ h)
  have hown : s.vm.findClass "CeilingRows" = some m.cls := findClass_of_methodNamed B.named
  have hlocks := B.notSynchronized
  subst hsz
  have hD := hD0.self (sz := s.heap.size)
  generalize hAe : va_A (cw_Main cI cZ cO amn apl abd alk atr mn lt ++ cw_Plan cI cZ cO apl pl ++ cw_Board cI cZ cO abd apl bd ++ cw_Locks cI cZ cO alk lk ++ cw_Trial cI cZ cO atr apl atb tr ++ cw_Board cI cZ cO atb apl tb) s.heap.size = A at hD ⊢
  have hA : ∀ q : Nat, s.heap.size ≤ q → A q := fun q h => by rw [← hAe]; exact Or.inr h
  have hS : va_S A s.heap s.heap [] := va_S.rf
  have hP : va_P (dC, dI) vwCl (cw_Main cI cZ cO amn apl abd alk atr mn lt ++ cw_Plan cI cZ cO apl pl ++ cw_Board cI cZ cO abd apl bd ++ cw_Locks cI cZ cO alk lk ++ cw_Trial cI cZ cO atr apl atb tr ++ cw_Board cI cZ cO atb apl tb) s.heap := hP
  have hl := lv_entry ([.ref (amn 0), .int x1]) (n := 2) (Nat.le_of_ble_eq_true rfl)
  rw [lg_entry_eq]
  generalize (lg_sl ([.ref (amn 0), .int x1]) ++ List.replicate (2 - (lg_sl ([.ref (amn 0), .int x1])).length) Slot.unset).toArray = ls at hl ⊢
  have hl : lv_has ls 2 [(0, .ref (amn 0)), (1, .int x1)] := hl
  have f0_pl_0 := cr_rfo hR_pl.1
  have f0_pl_1 := cr_rfo hR_pl.2.1
  have k_m3 : (-3 : Int32).toInt = -3 := by decide
  have k_0 : (0 : Int32).toInt = 0 := by decide
  have k_1 : (1 : Int32).toInt = 1 := by decide
  have k_2 : (2 : Int32).toInt = 2 := by decide
  obtain ⟨tgt, hT⟩ : ∃ z, md_Main_sendEvent mn lt pl bd lk tr tb x1 = z := ⟨_, rfl⟩
  have hM := hT
  unfold md_Main_sendEvent at hM
  refine lv_aload_n hx hb nd_Main_sendEvent_0 rfl (lv_at hl 0 rfl) ?_
  refine va_get (D := (dC, dI)) (ci := 4) (v := .ref (abd 0)) (C := "CeilingRows") (T := nf_Main) (N := 6) hx hb hts nin_Main hown hK hP 0 rfl rfl 1 (by decide) (hts _ tw_139) (fun _ h9 => h9) rfl nd_Main_sendEvent_1 ?_
  refine va_get (D := (dC, dI)) (ci := 1) (v := .ref (abd 1)) (C := "CeilingRows$Board") (T := nf_Board) (N := 7) hx hb hts nin_Board hown hK hP 19 rfl rfl 1 (by decide) (hts _ tw_70) (fun _ h9 => h9) rfl nd_Main_sendEvent_4 ?_
  refine lv_iload_n hx hb nd_Main_sendEvent_7 rfl (lv_at hl 1 rfl) ?_
  have b_1 : vp_in x1 11 := vp_in_iff.mpr (by omega)
  refine va_iald hx hb hK hP 20 0 rfl rfl b_1 nd_Main_sendEvent_8 ?_
  refine lv_if_ne (tgt := 15) hx hb nd_Main_sendEvent_9 (by decide) (fun c_2 => ?_) (fun c_2 => ?_)
  · have c_2t := cr_ne c_2
    rw [if_neg c_2] at hM
    refine lv_aload_n hx hb nd_Main_sendEvent_15 rfl (lv_at hl 0 rfl) ?_
    refine va_get (D := (dC, dI)) (ci := 4) (v := .ref (abd 0)) (C := "CeilingRows") (T := nf_Main) (N := 6) hx hb hts nin_Main hown hK hP 0 rfl rfl 1 (by decide) (hts _ tw_139) (fun _ h9 => h9) rfl nd_Main_sendEvent_16 ?_
    refine va_get (D := (dC, dI)) (ci := 1) (v := .ref (abd 1)) (C := "CeilingRows$Board") (T := nf_Board) (N := 7) hx hb hts nin_Board hown hK hP 19 rfl rfl 1 (by decide) (hts _ tw_70) (fun _ h9 => h9) rfl nd_Main_sendEvent_19 ?_
    refine lv_iload_n hx hb nd_Main_sendEvent_22 rfl (lv_at hl 1 rfl) ?_
    have b_3 : vp_in x1 11 := vp_in_iff.mpr (by omega)
    refine va_iald hx hb hK hP 20 0 rfl rfl b_3 nd_Main_sendEvent_23 ?_
    refine lv_iconst (v := 2) hx hb nd_Main_sendEvent_24 (by decide) ?_
    refine lv_icmp_ne (tgt := 39) hx hb nd_Main_sendEvent_25 (by decide) (fun c_4 => ?_) (fun c_4 => ?_)
    · have c_4t := cr_ne c_4
      rw [if_neg c_4] at hM
      refine lv_aload_n hx hb nd_Main_sendEvent_39 rfl (lv_at hl 0 rfl) ?_
      refine va_get (D := (dC, dI)) (ci := 4) (v := .ref (amn 1)) (C := "CeilingRows") (T := nf_Main) (N := 6) hx hb hts nin_Main hown hK hP 0 rfl rfl 4 (by decide) (hts _ tw_142) (fun _ h9 => h9) rfl nd_Main_sendEvent_40 ?_
      refine lv_iload_n hx hb nd_Main_sendEvent_43 rfl (lv_at hl 1 rfl) ?_
      refine lv_iconst (v := 1) hx hb nd_Main_sendEvent_44 (by decide) ?_
      have b_5 : vp_in x1 11 := vp_in_iff.mpr (by omega)
      refine va_zast hx hb hK hP hD hS 1 1 rfl rfl b_5 nd_Main_sendEvent_45 (fun H locs hP hD hS => ?_)
      rw [show vp_nar .boolean (1 : Int32) = (1 : Int32) by decide] at hP hD
      have hP : va_P (dC, dI) vwCl (cw_Main cI cZ cO amn apl abd alk atr (cr_up mn 1 x1.toNatClampNeg (1 : Int32)) lt ++ cw_Plan cI cZ cO apl pl ++ cw_Board cI cZ cO abd apl bd ++ cw_Locks cI cZ cO alk lk ++ cw_Trial cI cZ cO atr apl atb tr ++ cw_Board cI cZ cO atb apl tb) H := hP
      have hD : va_D A (cw_Main cI cZ cO amn apl abd alk atr (cr_up mn 1 x1.toNatClampNeg (1 : Int32)) lt ++ cw_Plan cI cZ cO apl pl ++ cw_Board cI cZ cO abd apl bd ++ cw_Locks cI cZ cO alk lk ++ cw_Trial cI cZ cO atr apl atb tr ++ cw_Board cI cZ cO atb apl tb) := hD
      obtain ⟨mnq_6, hmnq_6⟩ : ∃ z, (cr_up mn 1 x1.toNatClampNeg (1 : Int32)) = z := ⟨_, rfl⟩
      rw [hmnq_6] at hP hD
      try rw [hmnq_6] at hM
      refine lv_aload_n hx hb nd_Main_sendEvent_46 rfl (lv_at hl 0 rfl) ?_
      refine lv_iload_n hx hb nd_Main_sendEvent_47 rfl (lv_at hl 1 rfl) ?_
      have hPc := hP
      have hDc := hD
      have hFc := va_free (wc := cw_Main cI cZ cO amn apl abd alk atr mnq_6 lt ++ cw_Plan cI cZ cO apl pl ++ cw_Board cI cZ cO abd apl bd ++ cw_Locks cI cZ cO alk lk ++ cw_Trial cI cZ cO atr apl atb tr ++ cw_Board cI cZ cO atb apl tb) hD hS hA [0, 1, 2, 3, 4, 5, 6, 7, 8, 9, 10, 11, 12, 13, 14, 15, 16, 17, 18, 19, 20, 21, 22, 23, 24, 25, 26, 27, 28, 29, 30, 31, 32, 33, 34, 35, 36, 37, 38, 39, 40, 41, 42, 43, 44, 45, 46, 47, 48] rfl
      refine va_calli (va_runV (As := [.int x1]) (rest := []) ⟨hx, hb, hml, hown, hts⟩ (ct_Main_runs l dC dI cI cZ cO amn apl abd alk atr atb H.size mnq_6 lt pl bd lk tr tb x1 hR_tb hR_lk hR_bd hR_pl (by omega)) (cwV 1 hts (ng_V tw_230 tw_232 tp_2 tw_1 tw_233) rfl rfl rfl (by decide +kernel) ⟨Nat.le_of_ble_eq_true rfl, Nat.le_of_ble_eq_true rfl⟩) ⟨fun a U g mk q => by obtain ⟨q0, q1, qP, qK, qD⟩ := q; exact ⟨q0, q1, qP, va_K.moved (u := U) (U := U.calling g mk a) (Vm.Alike.refl U.vm) qK, qD⟩, va_recv hK hPc (ci := 4) (q0 := 0) rfl rfl, fun U hU hW => ⟨rfl, by rw [hU], by rw [hU]; exact hPc, va_K.moved hW.alike hK, hDc.weaken (fun _ _ _ _ => trivial)⟩⟩ rfl rfl hl.1 rfl (lv_room (Nat.le_of_ble_eq_true rfl)) nd_Main_sendEvent_48 ⟨Nat.zero_le _, Nat.zero_le _⟩) hS (fun q _ h => hFc q h) hFc (fun r_7 u t H1 locs ht hvm hw hB hz1 hk1 hS => ?_)
      obtain ⟨hP1, hK1, hD1⟩ := hB
      rw [ht] at hP1
      have w_8 := hw
      try rw [← w_8] at hM
      have hP := hP1
      have hD := cr_Dw hD1 hFc
      generalize H1 = H at hP hS ⊢
      refine lv_if_eq (tgt := 58) hx hb nd_Main_sendEvent_51 (by decide) (fun c_9 => ?_) (fun c_9 => ?_)
      · have c_9t := cr_eq c_9
        rw [if_pos c_9] at hM
        refine lv_iconst (v := 0) hx hb nd_Main_sendEvent_58 (by decide) ?_
        exact W.iret (v := (0 : Int32)) hx hb hr (fun t ht hW => ⟨⟨(0 : Int32), (mnq_6, lt, bd), rfl, ⟨by rw [hT, ← hM], by rw [hT, ← hM], by rw [hT, ← hM], by rw [hT, ← hM], hR_bd⟩, by rw [ht]; exact hP, va_K.moved hW.alike hK, hD⟩, hS.F ht⟩) hS.2.2 nd_Main_sendEvent_59
      · have c_9t := cr_ne c_9
        rw [if_neg c_9] at hM
        refine lv_iconst (v := 1) hx hb nd_Main_sendEvent_54 (by decide) ?_
        refine lv_goto (tgt := 59) hx hb nd_Main_sendEvent_55 (by decide) ?_
        exact W.iret (v := (1 : Int32)) hx hb hr (fun t ht hW => ⟨⟨(1 : Int32), (mnq_6, lt, bd), rfl, ⟨by rw [hT, ← hM], by rw [hT, ← hM], by rw [hT, ← hM], by rw [hT, ← hM], hR_bd⟩, by rw [ht]; exact hP, va_K.moved hW.alike hK, hD⟩, hS.F ht⟩) hS.2.2 nd_Main_sendEvent_59
    · have c_4t := cr_eq c_4
      rw [if_pos c_4] at hM
      refine lv_aload_n hx hb nd_Main_sendEvent_28 rfl (lv_at hl 0 rfl) ?_
      refine va_get (D := (dC, dI)) (ci := 4) (v := .ref (abd 0)) (C := "CeilingRows") (T := nf_Main) (N := 6) hx hb hts nin_Main hown hK hP 0 rfl rfl 1 (by decide) (hts _ tw_139) (fun _ h9 => h9) rfl nd_Main_sendEvent_29 ?_
      refine lv_iload_n hx hb nd_Main_sendEvent_32 rfl (lv_at hl 1 rfl) ?_
      have hPc := hP.sub (ws' := cw_Plan cI cZ cO apl pl ++ cw_Board cI cZ cO abd apl bd) [2, 3, 4, 5, 6, 7, 8, 9, 10, 11, 12, 13, 14, 15, 16, 17, 18, 19, 20, 21, 22, 23, 24] rfl
      have hDc := hD.sub (ws' := cw_Plan cI cZ cO apl pl ++ cw_Board cI cZ cO abd apl bd) [2, 3, 4, 5, 6, 7, 8, 9, 10, 11, 12, 13, 14, 15, 16, 17, 18, 19, 20, 21, 22, 23, 24] (by decide) rfl
      have hFc := va_free (wc := cw_Plan cI cZ cO apl pl ++ cw_Board cI cZ cO abd apl bd) hD hS hA [2, 3, 4, 5, 6, 7, 8, 9, 10, 11, 12, 13, 14, 15, 16, 17, 18, 19, 20, 21, 22, 23, 24] rfl
      refine va_callv (va_runV (As := [.int x1]) (rest := []) ⟨hx, hb, hml, hown, hts⟩ (ct_Board_makeReady l dC dI cI cZ cO apl abd s.heap.size pl bd x1 hR_bd hR_pl (by omega)) (cwV 1 hts (ng_V tw_226 tw_227 tw_228 tw_3 tw_229) rfl rfl rfl (by decide +kernel) ⟨Nat.le_of_ble_eq_true rfl, Nat.le_of_ble_eq_true rfl⟩) ⟨fun a U g mk q => by obtain ⟨q0, q1, qP, qK, qD⟩ := q; exact ⟨q0, q1, qP, va_K.moved (u := U) (U := U.calling g mk a) (Vm.Alike.refl U.vm) qK, qD⟩, va_recv hK hPc (ci := 1) (q0 := 17) rfl rfl, fun U hU hW => ⟨rfl, by rw [hU], by rw [hU]; exact hPc, va_K.moved hW.alike hK, hDc.weaken (fun _ _ _ _ => trivial)⟩⟩ rfl rfl hl.1 rfl (lv_room (Nat.le_of_ble_eq_true rfl)) nd_Main_sendEvent_33 ⟨Nat.zero_le _, Nat.zero_le _⟩) hS (fun q _ h => hFc q h) hFc (fun u t H1 locs ht hvm hw hB hz1 hk1 hS => ?_)
      obtain ⟨hP1, hK1, hD1⟩ := hB
      rw [ht] at hP1
      obtain ⟨bdq_11, rfl⟩ : ∃ z, z = u := ⟨_, rfl⟩
      obtain ⟨w_12, hR_13⟩ := hw
      try rw [← w_12] at hM
      obtain ⟨hP, hD⟩ := va_join (wr := cw_Main cI cZ cO amn apl abd alk atr mn lt ++ cw_Locks cI cZ cO alk lk ++ cw_Trial cI cZ cO atr apl atb tr ++ cw_Board cI cZ cO atb apl tb) (w1 := cw_Plan cI cZ cO apl pl ++ cw_Board cI cZ cO abd apl bdq_11) hP hD [2, 3, 4, 5, 6, 7, 8, 9, 10, 11, 12, 13, 14, 15, 16, 17, 18, 19, 20, 21, 22, 23, 24] [0, 1, 25, 26, 27, 28, 29, 30, 31, 32, 33, 34, 35, 36, 37, 38, 39, 40, 41, 42, 43, 44, 45, 46, 47, 48] rfl rfl (by decide) (by decide) hk1 hFc hP1 hD1
      have hP := hP.sub (ws' := cw_Main cI cZ cO amn apl abd alk atr mn lt ++ cw_Plan cI cZ cO apl pl ++ cw_Board cI cZ cO abd apl bdq_11 ++ cw_Locks cI cZ cO alk lk ++ cw_Trial cI cZ cO atr apl atb tr ++ cw_Board cI cZ cO atb apl tb) [0, 1, 26, 27, 28, 29, 30, 31, 32, 33, 34, 35, 36, 37, 38, 39, 40, 41, 42, 43, 44, 45, 46, 47, 48, 2, 3, 4, 5, 6, 7, 8, 9, 10, 11, 12, 13, 14, 15, 16, 17, 18, 19, 20, 21, 22, 23, 24, 25] rfl
      have hD := hD.sub (ws' := cw_Main cI cZ cO amn apl abd alk atr mn lt ++ cw_Plan cI cZ cO apl pl ++ cw_Board cI cZ cO abd apl bdq_11 ++ cw_Locks cI cZ cO alk lk ++ cw_Trial cI cZ cO atr apl atb tr ++ cw_Board cI cZ cO atb apl tb) [0, 1, 26, 27, 28, 29, 30, 31, 32, 33, 34, 35, 36, 37, 38, 39, 40, 41, 42, 43, 44, 45, 46, 47, 48, 2, 3, 4, 5, 6, 7, 8, 9, 10, 11, 12, 13, 14, 15, 16, 17, 18, 19, 20, 21, 22, 23, 24, 25] (by decide) rfl
      generalize H1 = H at hP hS ⊢
      refine lv_goto (tgt := 46) hx hb nd_Main_sendEvent_36 (by decide) ?_
      refine lv_aload_n hx hb nd_Main_sendEvent_46 rfl (lv_at hl 0 rfl) ?_
      refine lv_iload_n hx hb nd_Main_sendEvent_47 rfl (lv_at hl 1 rfl) ?_
      have hPc := hP
      have hDc := hD
      have hFc := va_free (wc := cw_Main cI cZ cO amn apl abd alk atr mn lt ++ cw_Plan cI cZ cO apl pl ++ cw_Board cI cZ cO abd apl bdq_11 ++ cw_Locks cI cZ cO alk lk ++ cw_Trial cI cZ cO atr apl atb tr ++ cw_Board cI cZ cO atb apl tb) hD hS hA [0, 1, 2, 3, 4, 5, 6, 7, 8, 9, 10, 11, 12, 13, 14, 15, 16, 17, 18, 19, 20, 21, 22, 23, 24, 25, 26, 27, 28, 29, 30, 31, 32, 33, 34, 35, 36, 37, 38, 39, 40, 41, 42, 43, 44, 45, 46, 47, 48] rfl
      refine va_calli (va_runV (As := [.int x1]) (rest := []) ⟨hx, hb, hml, hown, hts⟩ (ct_Main_runs l dC dI cI cZ cO amn apl abd alk atr atb H.size mn lt pl bdq_11 lk tr tb x1 hR_tb hR_lk hR_13 hR_pl (by omega)) (cwV 1 hts (ng_V tw_230 tw_232 tp_2 tw_1 tw_233) rfl rfl rfl (by decide +kernel) ⟨Nat.le_of_ble_eq_true rfl, Nat.le_of_ble_eq_true rfl⟩) ⟨fun a U g mk q => by obtain ⟨q0, q1, qP, qK, qD⟩ := q; exact ⟨q0, q1, qP, va_K.moved (u := U) (U := U.calling g mk a) (Vm.Alike.refl U.vm) qK, qD⟩, va_recv hK hPc (ci := 4) (q0 := 0) rfl rfl, fun U hU hW => ⟨rfl, by rw [hU], by rw [hU]; exact hPc, va_K.moved hW.alike hK, hDc.weaken (fun _ _ _ _ => trivial)⟩⟩ rfl rfl hl.1 rfl (lv_room (Nat.le_of_ble_eq_true rfl)) nd_Main_sendEvent_48 ⟨Nat.zero_le _, Nat.zero_le _⟩) hS (fun q _ h => hFc q h) hFc (fun r_14 u t H1 locs ht hvm hw hB hz1 hk1 hS => ?_)
      obtain ⟨hP1, hK1, hD1⟩ := hB
      rw [ht] at hP1
      have w_15 := hw
      try rw [← w_15] at hM
      have hP := hP1
      have hD := cr_Dw hD1 hFc
      generalize H1 = H at hP hS ⊢
      refine lv_if_eq (tgt := 58) hx hb nd_Main_sendEvent_51 (by decide) (fun c_16 => ?_) (fun c_16 => ?_)
      · have c_16t := cr_eq c_16
        rw [if_pos c_16] at hM
        refine lv_iconst (v := 0) hx hb nd_Main_sendEvent_58 (by decide) ?_
        exact W.iret (v := (0 : Int32)) hx hb hr (fun t ht hW => ⟨⟨(0 : Int32), (mn, lt, bdq_11), rfl, ⟨by rw [hT, ← hM], by rw [hT, ← hM], by rw [hT, ← hM], by rw [hT, ← hM], hR_13⟩, by rw [ht]; exact hP, va_K.moved hW.alike hK, hD⟩, hS.F ht⟩) hS.2.2 nd_Main_sendEvent_59
      · have c_16t := cr_ne c_16
        rw [if_neg c_16] at hM
        refine lv_iconst (v := 1) hx hb nd_Main_sendEvent_54 (by decide) ?_
        refine lv_goto (tgt := 59) hx hb nd_Main_sendEvent_55 (by decide) ?_
        exact W.iret (v := (1 : Int32)) hx hb hr (fun t ht hW => ⟨⟨(1 : Int32), (mn, lt, bdq_11), rfl, ⟨by rw [hT, ← hM], by rw [hT, ← hM], by rw [hT, ← hM], by rw [hT, ← hM], hR_13⟩, by rw [ht]; exact hP, va_K.moved hW.alike hK, hD⟩, hS.F ht⟩) hS.2.2 nd_Main_sendEvent_59
  · have c_2t := cr_eq c_2
    rw [if_pos c_2] at hM
    refine lv_bipush (v := -3) hx hb nd_Main_sendEvent_12 (by decide) ?_
    exact W.iret (v := (-3 : Int32)) hx hb hr (fun t ht hW => ⟨⟨(-3 : Int32), (mn, lt, bd), rfl, ⟨by rw [hT, ← hM], by rw [hT, ← hM], by rw [hT, ← hM], by rw [hT, ← hM], hR_bd⟩, by rw [ht]; exact hP, va_K.moved hW.alike hK, hD⟩, hS.F ht⟩) hS.2.2 nd_Main_sendEvent_14

theorem nd_Main_takeResource_0 : decode prog_1_method_19_code 0 = .ok (.aload_n 0, 1) := by decide +kernel
theorem nd_Main_takeResource_1 : decode prog_1_method_19_code 1 = .ok (.getfield 12, 3) := by decide +kernel
theorem nd_Main_takeResource_4 : decode prog_1_method_19_code 4 = .ok (.iload_n 1, 1) := by decide +kernel
theorem nd_Main_takeResource_5 : decode prog_1_method_19_code 5 = .ok (.iload_n 2, 1) := by decide +kernel
theorem nd_Main_takeResource_6 : decode prog_1_method_19_code 6 = .ok (.invokevirtual 85, 3) := by decide +kernel
theorem nd_Main_takeResource_9 : decode prog_1_method_19_code 9 = .ok (.ifCond .ne (6), 3) := by decide +kernel
theorem nd_Main_takeResource_12 : decode prog_1_method_19_code 12 = .ok (.bipush (-11), 2) := by decide +kernel
theorem nd_Main_takeResource_14 : decode prog_1_method_19_code 14 = .ok (.ireturn, 1) := by decide +kernel
theorem nd_Main_takeResource_15 : decode prog_1_method_19_code 15 = .ok (.aload_n 0, 1) := by decide +kernel
theorem nd_Main_takeResource_16 : decode prog_1_method_19_code 16 = .ok (.getfield 21, 3) := by decide +kernel
theorem nd_Main_takeResource_19 : decode prog_1_method_19_code 19 = .ok (.getfield 105, 3) := by decide +kernel
theorem nd_Main_takeResource_22 : decode prog_1_method_19_code 22 = .ok (.iload_n 2, 1) := by decide +kernel
theorem nd_Main_takeResource_23 : decode prog_1_method_19_code 23 = .ok (.iaload, 1) := by decide +kernel
theorem nd_Main_takeResource_24 : decode prog_1_method_19_code 24 = .ok (.iload_n 1, 1) := by decide +kernel
theorem nd_Main_takeResource_25 : decode prog_1_method_19_code 25 = .ok (.if_icmp .ne (6), 3) := by decide +kernel
theorem nd_Main_takeResource_28 : decode prog_1_method_19_code 28 = .ok (.bipush (-12), 2) := by decide +kernel
theorem nd_Main_takeResource_30 : decode prog_1_method_19_code 30 = .ok (.ireturn, 1) := by decide +kernel
theorem nd_Main_takeResource_31 : decode prog_1_method_19_code 31 = .ok (.aload_n 0, 1) := by decide +kernel
theorem nd_Main_takeResource_32 : decode prog_1_method_19_code 32 = .ok (.getfield 21, 3) := by decide +kernel
theorem nd_Main_takeResource_35 : decode prog_1_method_19_code 35 = .ok (.iload_n 1, 1) := by decide +kernel
theorem nd_Main_takeResource_36 : decode prog_1_method_19_code 36 = .ok (.iload_n 2, 1) := by decide +kernel
theorem nd_Main_takeResource_37 : decode prog_1_method_19_code 37 = .ok (.invokevirtual 165, 3) := by decide +kernel
theorem nd_Main_takeResource_40 : decode prog_1_method_19_code 40 = .ok (.iconst 1, 1) := by decide +kernel
theorem nd_Main_takeResource_41 : decode prog_1_method_19_code 41 = .ok (.ireturn, 1) := by decide +kernel
abbrev pq_Main_takeResource (dC : Nat → ClassId) (dI : Nat → Nat → Nat) (cI cZ cO : ClassId) (amn apl abd alk atr atb : Nat → Nat) (mn : cr_S) (lt : Int64) (pl : cr_S) (bd : cr_S) (lk : cr_S) (tr : cr_S) (tb : cr_S) (x1 : Int32) (x2 : Int32) (A : Nat → Prop) : Array Value → State → Outcome → State → Prop :=
  va_Qi (fun (r : Int32) (bd' : cr_S) => r = (md_Main_takeResource mn lt pl bd lk tr tb x1 x2).1 ∧ bd' = (md_Main_takeResource mn lt pl bd lk tr tb x1 x2).2 ∧ cr_RBoard bd') (fun (bd' : cr_S) t => va_P (dC, dI) vwCl (cw_Main cI cZ cO amn apl abd alk atr mn lt ++ cw_Plan cI cZ cO apl pl ++ cw_Board cI cZ cO abd apl bd' ++ cw_Locks cI cZ cO alk lk ++ cw_Trial cI cZ cO atr apl atb tr ++ cw_Board cI cZ cO atb apl tb) t.heap ∧ va_K (dC, dI) vwCl [(cI, .int), (cZ, .boolean), (cO, .array .int)] t ∧ va_D A (cw_Main cI cZ cO amn apl abd alk atr mn lt ++ cw_Plan cI cZ cO apl pl ++ cw_Board cI cZ cO abd apl bd' ++ cw_Locks cI cZ cO alk lk ++ cw_Trial cI cZ cO atr apl atb tr ++ cw_Board cI cZ cO atb apl tb)) A
set_option maxHeartbeats 4000000 in
set_option maxRecDepth 100000 in
theorem ct_Main_takeResource (l : Launch) (dC : Nat → ClassId) (dI : Nat → Nat → Nat) (cI cZ cO : ClassId) (amn apl abd alk atr atb : Nat → Nat) (sz : Nat) (mn : cr_S) (lt : Int64) (pl : cr_S) (bd : cr_S) (lk : cr_S) (tr : cr_S) (tb : cr_S) (x1 : Int32) (x2 : Int32) (hR_tb : cr_RBoard tb) (hR_lk : cr_RLocks lk) (hR_bd : cr_RBoard bd) (hR_pl : cr_RPlan pl) (hx1 : 0 ≤ x1.toInt ∧ x1.toInt ≤ 10) (hx2 : 0 ≤ x2.toInt ∧ x2.toInt ≤ 8) : Met l ny_Main_takeResource nw_Main_takeResource ({ frames := 1, cells := 0, slots := 0, locals := 22 } : Room) (va_Pc [.ref (amn 0), .int x1, .int x2] (fun U => U.heap.size = sz ∧ va_P (dC, dI) vwCl (cw_Main cI cZ cO amn apl abd alk atr mn lt ++ cw_Plan cI cZ cO apl pl ++ cw_Board cI cZ cO abd apl bd ++ cw_Locks cI cZ cO alk lk ++ cw_Trial cI cZ cO atr apl atb tr ++ cw_Board cI cZ cO atb apl tb) U.heap ∧ va_K (dC, dI) vwCl [(cI, .int), (cZ, .boolean), (cO, .array .int)] U ∧ va_D (fun _ => True) (cw_Main cI cZ cO amn apl abd alk atr mn lt ++ cw_Plan cI cZ cO apl pl ++ cw_Board cI cZ cO abd apl bd ++ cw_Locks cI cZ cO alk lk ++ cw_Trial cI cZ cO atr apl atb tr ++ cw_Board cI cZ cO atb apl tb))) (pq_Main_takeResource dC dI cI cZ cO amn apl abd alk atr atb mn lt pl bd lk tr tb x1 x2 (va_A (cw_Main cI cZ cO amn apl abd alk atr mn lt ++ cw_Plan cI cZ cO apl pl ++ cw_Board cI cZ cO abd apl bd ++ cw_Locks cI cZ cO alk lk ++ cw_Trial cI cZ cO atr apl atb tr ++ cw_Board cI cZ cO atb apl tb) sz)) 0 0 (va_A (cw_Main cI cZ cO amn apl abd alk atr mn lt ++ cw_Plan cI cZ cO apl pl ++ cw_Board cI cZ cO abd apl bd ++ cw_Locks cI cZ cO alk lk ++ cw_Trial cI cZ cO atr apl atb tr ++ cw_Board cI cZ cO atb apl tb) sz) := by
  refine Met.ofW (cc := prog_1_method_19_code) (maxL := 3) (ret := (some .int)) (by decide) rfl ?_
  intro p e s m args below meth c s₁ B hml hv
  obtain ⟨rfl, hsz, hP, hK, hD0⟩ := hv
  have hx := B.exec
  have hb := B.bytes
  have hr := B.returns
  have hts0 := atoms_spec (ws := nw_Main_takeResource) B.pre
  have hts : ∀ w ∈ ng_tbl, w.before ([.ref (amn 0), .int x1, .int x2] : List Value).toArray s = true := fun w h => hts0 w (List.mem_cons_of_mem _ h)
  have hown : s.vm.findClass "CeilingRows" = some m.cls := findClass_of_methodNamed B.named
  have hlocks := B.notSynchronized
  subst hsz
  have hD := hD0.self (sz := s.heap.size)
  generalize hAe : va_A (cw_Main cI cZ cO amn apl abd alk atr mn lt ++ cw_Plan cI cZ cO apl pl ++ cw_Board cI cZ cO abd apl bd ++ cw_Locks cI cZ cO alk lk ++ cw_Trial cI cZ cO atr apl atb tr ++ cw_Board cI cZ cO atb apl tb) s.heap.size = A at hD ⊢
  have hA : ∀ q : Nat, s.heap.size ≤ q → A q := fun q h => by rw [← hAe]; exact Or.inr h
  have hS : va_S A s.heap s.heap [] := va_S.rf
  have hP : va_P (dC, dI) vwCl (cw_Main cI cZ cO amn apl abd alk atr mn lt ++ cw_Plan cI cZ cO apl pl ++ cw_Board cI cZ cO abd apl bd ++ cw_Locks cI cZ cO alk lk ++ cw_Trial cI cZ cO atr apl atb tr ++ cw_Board cI cZ cO atb apl tb) s.heap := hP
  have hl := lv_entry ([.ref (amn 0), .int x1, .int x2]) (n := 3) (Nat.le_of_ble_eq_true rfl)
  rw [lg_entry_eq]
  generalize (lg_sl ([.ref (amn 0), .int x1, .int x2]) ++ List.replicate (3 - (lg_sl ([.ref (amn 0), .int x1, .int x2])).length) Slot.unset).toArray = ls at hl ⊢
  have hl : lv_has ls 3 [(0, .ref (amn 0)), (1, .int x1), (2, .int x2)] := hl
  have f0_pl_0 := cr_rfo hR_pl.1
  have f0_pl_1 := cr_rfo hR_pl.2.1
  have k_m12 : (-12 : Int32).toInt = -12 := by decide
  have k_m11 : (-11 : Int32).toInt = -11 := by decide
  have k_0 : (0 : Int32).toInt = 0 := by decide
  have k_1 : (1 : Int32).toInt = 1 := by decide
  obtain ⟨tgt, hT⟩ : ∃ z, md_Main_takeResource mn lt pl bd lk tr tb x1 x2 = z := ⟨_, rfl⟩
  have hM := hT
  unfold md_Main_takeResource at hM
  refine lv_aload_n hx hb nd_Main_takeResource_0 rfl (lv_at hl 0 rfl) ?_
  refine va_get (D := (dC, dI)) (ci := 4) (v := .ref (apl 0)) (C := "CeilingRows") (T := nf_Main) (N := 6) hx hb hts nin_Main hown hK hP 0 rfl rfl 0 (by decide) (hts _ tw_138) (fun _ h9 => h9) rfl nd_Main_takeResource_1 ?_
  refine lv_iload_n hx hb nd_Main_takeResource_4 rfl (lv_at hl 1 rfl) ?_
  refine lv_iload_n hx hb nd_Main_takeResource_5 rfl (lv_at hl 2 rfl) ?_
  have hPc := hP.sub (ws' := cw_Plan cI cZ cO apl pl) [2, 3, 4, 5, 6, 7, 8, 9, 10, 11, 12, 13, 14, 15, 16, 17, 18] rfl
  have hDc := hD.sub (ws' := cw_Plan cI cZ cO apl pl) [2, 3, 4, 5, 6, 7, 8, 9, 10, 11, 12, 13, 14, 15, 16, 17, 18] (by decide) rfl
  have hFc := va_free (wc := cw_Plan cI cZ cO apl pl) hD hS hA [2, 3, 4, 5, 6, 7, 8, 9, 10, 11, 12, 13, 14, 15, 16, 17, 18] rfl
  refine va_calli (va_runV (As := [.int x1, .int x2]) (rest := []) ⟨hx, hb, hml, hown, hts⟩ (ct_Plan_isUsedBy l dC dI cI cZ cO apl s.heap.size pl x1 x2 hR_pl (by omega) (by omega)) (cwV 2 hts (ng_V tw_198 tw_199 tw_200 tw_2 tw_201) rfl rfl rfl (by decide +kernel) ⟨Nat.le_of_ble_eq_true rfl, Nat.le_of_ble_eq_true rfl⟩) ⟨fun a U g mk q => by obtain ⟨q0, q1, qP, qK, qD⟩ := q; exact ⟨q0, q1, qP, va_K.moved (u := U) (U := U.calling g mk a) (Vm.Alike.refl U.vm) qK, qD⟩, va_recv hK hPc (ci := 0) (q0 := 0) rfl rfl, fun U hU hW => ⟨rfl, by rw [hU], by rw [hU]; exact hPc, va_K.moved hW.alike hK, hDc.weaken (fun _ _ _ _ => trivial)⟩⟩ rfl rfl hl.1 rfl (lv_room (Nat.le_of_ble_eq_true rfl)) nd_Main_takeResource_6 ⟨Nat.zero_le _, Nat.zero_le _⟩) hS (fun q _ h => hFc q h) hFc (fun r_1 u t H1 locs ht hvm hw hB hz1 hk1 hS => ?_)
  obtain ⟨hP1, hK1, hD1⟩ := hB
  rw [ht] at hP1
  have w_2 := hw
  try rw [← w_2] at hM
  obtain ⟨hP, hD⟩ := va_join (wr := cw_Main cI cZ cO amn apl abd alk atr mn lt ++ cw_Board cI cZ cO abd apl bd ++ cw_Locks cI cZ cO alk lk ++ cw_Trial cI cZ cO atr apl atb tr ++ cw_Board cI cZ cO atb apl tb) (w1 := cw_Plan cI cZ cO apl pl) hP hD [2, 3, 4, 5, 6, 7, 8, 9, 10, 11, 12, 13, 14, 15, 16, 17, 18] [0, 1, 19, 20, 21, 22, 23, 24, 25, 26, 27, 28, 29, 30, 31, 32, 33, 34, 35, 36, 37, 38, 39, 40, 41, 42, 43, 44, 45, 46, 47, 48] rfl rfl (by decide) (by decide) hk1 hFc hP1 hD1
  have hP := hP.sub (ws' := cw_Main cI cZ cO amn apl abd alk atr mn lt ++ cw_Plan cI cZ cO apl pl ++ cw_Board cI cZ cO abd apl bd ++ cw_Locks cI cZ cO alk lk ++ cw_Trial cI cZ cO atr apl atb tr ++ cw_Board cI cZ cO atb apl tb) [0, 1, 32, 33, 34, 35, 36, 37, 38, 39, 40, 41, 42, 43, 44, 45, 46, 47, 48, 2, 3, 4, 5, 6, 7, 8, 9, 10, 11, 12, 13, 14, 15, 16, 17, 18, 19, 20, 21, 22, 23, 24, 25, 26, 27, 28, 29, 30, 31] rfl
  have hD := hD.sub (ws' := cw_Main cI cZ cO amn apl abd alk atr mn lt ++ cw_Plan cI cZ cO apl pl ++ cw_Board cI cZ cO abd apl bd ++ cw_Locks cI cZ cO alk lk ++ cw_Trial cI cZ cO atr apl atb tr ++ cw_Board cI cZ cO atb apl tb) [0, 1, 32, 33, 34, 35, 36, 37, 38, 39, 40, 41, 42, 43, 44, 45, 46, 47, 48, 2, 3, 4, 5, 6, 7, 8, 9, 10, 11, 12, 13, 14, 15, 16, 17, 18, 19, 20, 21, 22, 23, 24, 25, 26, 27, 28, 29, 30, 31] (by decide) rfl
  generalize H1 = H at hP hS ⊢
  refine lv_if_ne (tgt := 15) hx hb nd_Main_takeResource_9 (by decide) (fun c_3 => ?_) (fun c_3 => ?_)
  · have c_3t := cr_ne c_3
    rw [if_neg c_3] at hM
    refine lv_aload_n hx hb nd_Main_takeResource_15 rfl (lv_at hl 0 rfl) ?_
    refine va_get (D := (dC, dI)) (ci := 4) (v := .ref (abd 0)) (C := "CeilingRows") (T := nf_Main) (N := 6) hx hb hts nin_Main hown hK hP 0 rfl rfl 1 (by decide) (hts _ tw_139) (fun _ h9 => h9) rfl nd_Main_takeResource_16 ?_
    refine va_get (D := (dC, dI)) (ci := 1) (v := .ref (abd 4)) (C := "CeilingRows$Board") (T := nf_Board) (N := 7) hx hb hts nin_Board hown hK hP 19 rfl rfl 5 (by decide) (hts _ tw_77) (fun _ h9 => h9) rfl nd_Main_takeResource_19 ?_
    refine lv_iload_n hx hb nd_Main_takeResource_22 rfl (lv_at hl 2 rfl) ?_
    have b_4 : vp_in x2 9 := vp_in_iff.mpr (by omega)
    refine va_iald hx hb hK hP 23 0 rfl rfl b_4 nd_Main_takeResource_23 ?_
    refine lv_iload_n hx hb nd_Main_takeResource_24 rfl (lv_at hl 1 rfl) ?_
    refine lv_icmp_ne (tgt := 31) hx hb nd_Main_takeResource_25 (by decide) (fun c_5 => ?_) (fun c_5 => ?_)
    · have c_5t := cr_ne c_5
      rw [if_neg c_5] at hM
      refine lv_aload_n hx hb nd_Main_takeResource_31 rfl (lv_at hl 0 rfl) ?_
      refine va_get (D := (dC, dI)) (ci := 4) (v := .ref (abd 0)) (C := "CeilingRows") (T := nf_Main) (N := 6) hx hb hts nin_Main hown hK hP 0 rfl rfl 1 (by decide) (hts _ tw_139) (fun _ h9 => h9) rfl nd_Main_takeResource_32 ?_
      refine lv_iload_n hx hb nd_Main_takeResource_35 rfl (lv_at hl 1 rfl) ?_
      refine lv_iload_n hx hb nd_Main_takeResource_36 rfl (lv_at hl 2 rfl) ?_
      have hPc := hP.sub (ws' := cw_Plan cI cZ cO apl pl ++ cw_Board cI cZ cO abd apl bd) [2, 3, 4, 5, 6, 7, 8, 9, 10, 11, 12, 13, 14, 15, 16, 17, 18, 19, 20, 21, 22, 23, 24] rfl
      have hDc := hD.sub (ws' := cw_Plan cI cZ cO apl pl ++ cw_Board cI cZ cO abd apl bd) [2, 3, 4, 5, 6, 7, 8, 9, 10, 11, 12, 13, 14, 15, 16, 17, 18, 19, 20, 21, 22, 23, 24] (by decide) rfl
      have hFc := va_free (wc := cw_Plan cI cZ cO apl pl ++ cw_Board cI cZ cO abd apl bd) hD hS hA [2, 3, 4, 5, 6, 7, 8, 9, 10, 11, 12, 13, 14, 15, 16, 17, 18, 19, 20, 21, 22, 23, 24] rfl
      refine va_callv (va_runV (As := [.int x1, .int x2]) (rest := []) ⟨hx, hb, hml, hown, hts⟩ (ct_Board_take l dC dI cI cZ cO apl abd H.size pl bd x1 x2 hR_bd hR_pl (by omega) (by omega)) (cwV 2 hts (ng_V tw_255 tw_256 tw_257 tw_3 tw_258) rfl rfl rfl (by decide +kernel) ⟨Nat.le_of_ble_eq_true rfl, Nat.le_of_ble_eq_true rfl⟩) ⟨fun a U g mk q => by obtain ⟨q0, q1, qP, qK, qD⟩ := q; exact ⟨q0, q1, qP, va_K.moved (u := U) (U := U.calling g mk a) (Vm.Alike.refl U.vm) qK, qD⟩, va_recv hK hPc (ci := 1) (q0 := 17) rfl rfl, fun U hU hW => ⟨rfl, by rw [hU], by rw [hU]; exact hPc, va_K.moved hW.alike hK, hDc.weaken (fun _ _ _ _ => trivial)⟩⟩ rfl rfl hl.1 rfl (lv_room (Nat.le_of_ble_eq_true rfl)) nd_Main_takeResource_37 ⟨Nat.zero_le _, Nat.zero_le _⟩) hS (fun q _ h => hFc q h) hFc (fun u t H1 locs ht hvm hw hB hz1 hk1 hS => ?_)
      obtain ⟨hP1, hK1, hD1⟩ := hB
      rw [ht] at hP1
      obtain ⟨bdq_7, rfl⟩ : ∃ z, z = u := ⟨_, rfl⟩
      obtain ⟨w_8, hR_9⟩ := hw
      try rw [← w_8] at hM
      obtain ⟨hP, hD⟩ := va_join (wr := cw_Main cI cZ cO amn apl abd alk atr mn lt ++ cw_Locks cI cZ cO alk lk ++ cw_Trial cI cZ cO atr apl atb tr ++ cw_Board cI cZ cO atb apl tb) (w1 := cw_Plan cI cZ cO apl pl ++ cw_Board cI cZ cO abd apl bdq_7) hP hD [2, 3, 4, 5, 6, 7, 8, 9, 10, 11, 12, 13, 14, 15, 16, 17, 18, 19, 20, 21, 22, 23, 24] [0, 1, 25, 26, 27, 28, 29, 30, 31, 32, 33, 34, 35, 36, 37, 38, 39, 40, 41, 42, 43, 44, 45, 46, 47, 48] rfl rfl (by decide) (by decide) hk1 hFc hP1 hD1
      have hP := hP.sub (ws' := cw_Main cI cZ cO amn apl abd alk atr mn lt ++ cw_Plan cI cZ cO apl pl ++ cw_Board cI cZ cO abd apl bdq_7 ++ cw_Locks cI cZ cO alk lk ++ cw_Trial cI cZ cO atr apl atb tr ++ cw_Board cI cZ cO atb apl tb) [0, 1, 26, 27, 28, 29, 30, 31, 32, 33, 34, 35, 36, 37, 38, 39, 40, 41, 42, 43, 44, 45, 46, 47, 48, 2, 3, 4, 5, 6, 7, 8, 9, 10, 11, 12, 13, 14, 15, 16, 17, 18, 19, 20, 21, 22, 23, 24, 25] rfl
      have hD := hD.sub (ws' := cw_Main cI cZ cO amn apl abd alk atr mn lt ++ cw_Plan cI cZ cO apl pl ++ cw_Board cI cZ cO abd apl bdq_7 ++ cw_Locks cI cZ cO alk lk ++ cw_Trial cI cZ cO atr apl atb tr ++ cw_Board cI cZ cO atb apl tb) [0, 1, 26, 27, 28, 29, 30, 31, 32, 33, 34, 35, 36, 37, 38, 39, 40, 41, 42, 43, 44, 45, 46, 47, 48, 2, 3, 4, 5, 6, 7, 8, 9, 10, 11, 12, 13, 14, 15, 16, 17, 18, 19, 20, 21, 22, 23, 24, 25] (by decide) rfl
      generalize H1 = H at hP hS ⊢
      refine lv_iconst (v := 1) hx hb nd_Main_takeResource_40 (by decide) ?_
      exact W.iret (v := (1 : Int32)) hx hb hr (fun t ht hW => ⟨⟨(1 : Int32), bdq_7, rfl, ⟨by rw [hT, ← hM], by rw [hT, ← hM], hR_9⟩, by rw [ht]; exact hP, va_K.moved hW.alike hK, hD⟩, hS.F ht⟩) hS.2.2 nd_Main_takeResource_41
    · have c_5t := cr_eq c_5
      rw [if_pos c_5] at hM
      refine lv_bipush (v := -12) hx hb nd_Main_takeResource_28 (by decide) ?_
      exact W.iret (v := (-12 : Int32)) hx hb hr (fun t ht hW => ⟨⟨(-12 : Int32), bd, rfl, ⟨by rw [hT, ← hM], by rw [hT, ← hM], hR_bd⟩, by rw [ht]; exact hP, va_K.moved hW.alike hK, hD⟩, hS.F ht⟩) hS.2.2 nd_Main_takeResource_30
  · have c_3t := cr_eq c_3
    rw [if_pos c_3] at hM
    refine lv_bipush (v := -11) hx hb nd_Main_takeResource_12 (by decide) ?_
    exact W.iret (v := (-11 : Int32)) hx hb hr (fun t ht hW => ⟨⟨(-11 : Int32), bd, rfl, ⟨by rw [hT, ← hM], by rw [hT, ← hM], hR_bd⟩, by rw [ht]; exact hP, va_K.moved hW.alike hK, hD⟩, hS.F ht⟩) hS.2.2 nd_Main_takeResource_14

theorem nd_Main_giveBackResource_0 : decode prog_1_method_20_code 0 = .ok (.aload_n 0, 1) := by decide +kernel
theorem nd_Main_giveBackResource_1 : decode prog_1_method_20_code 1 = .ok (.getfield 21, 3) := by decide +kernel
theorem nd_Main_giveBackResource_4 : decode prog_1_method_20_code 4 = .ok (.getfield 169, 3) := by decide +kernel
theorem nd_Main_giveBackResource_7 : decode prog_1_method_20_code 7 = .ok (.iload_n 1, 1) := by decide +kernel
theorem nd_Main_giveBackResource_8 : decode prog_1_method_20_code 8 = .ok (.iaload, 1) := by decide +kernel
theorem nd_Main_giveBackResource_9 : decode prog_1_method_20_code 9 = .ok (.iload_n 2, 1) := by decide +kernel
theorem nd_Main_giveBackResource_10 : decode prog_1_method_20_code 10 = .ok (.if_icmp .eq (6), 3) := by decide +kernel
theorem nd_Main_giveBackResource_13 : decode prog_1_method_20_code 13 = .ok (.bipush (-13), 2) := by decide +kernel
theorem nd_Main_giveBackResource_15 : decode prog_1_method_20_code 15 = .ok (.ireturn, 1) := by decide +kernel
theorem nd_Main_giveBackResource_16 : decode prog_1_method_20_code 16 = .ok (.aload_n 0, 1) := by decide +kernel
theorem nd_Main_giveBackResource_17 : decode prog_1_method_20_code 17 = .ok (.getfield 21, 3) := by decide +kernel
theorem nd_Main_giveBackResource_20 : decode prog_1_method_20_code 20 = .ok (.iload_n 1, 1) := by decide +kernel
theorem nd_Main_giveBackResource_21 : decode prog_1_method_20_code 21 = .ok (.invokevirtual 172, 3) := by decide +kernel
theorem nd_Main_giveBackResource_24 : decode prog_1_method_20_code 24 = .ok (.iconst 1, 1) := by decide +kernel
theorem nd_Main_giveBackResource_25 : decode prog_1_method_20_code 25 = .ok (.ireturn, 1) := by decide +kernel
abbrev pq_Main_giveBackResource (dC : Nat → ClassId) (dI : Nat → Nat → Nat) (cI cZ cO : ClassId) (amn apl abd alk atr atb : Nat → Nat) (mn : cr_S) (lt : Int64) (pl : cr_S) (bd : cr_S) (lk : cr_S) (tr : cr_S) (tb : cr_S) (x1 : Int32) (x2 : Int32) (A : Nat → Prop) : Array Value → State → Outcome → State → Prop :=
  va_Qi (fun (r : Int32) (bd' : cr_S) => r = (md_Main_giveBackResource mn lt pl bd lk tr tb x1 x2).1 ∧ bd' = (md_Main_giveBackResource mn lt pl bd lk tr tb x1 x2).2 ∧ cr_RBoard bd') (fun (bd' : cr_S) t => va_P (dC, dI) vwCl (cw_Main cI cZ cO amn apl abd alk atr mn lt ++ cw_Plan cI cZ cO apl pl ++ cw_Board cI cZ cO abd apl bd' ++ cw_Locks cI cZ cO alk lk ++ cw_Trial cI cZ cO atr apl atb tr ++ cw_Board cI cZ cO atb apl tb) t.heap ∧ va_K (dC, dI) vwCl [(cI, .int), (cZ, .boolean), (cO, .array .int)] t ∧ va_D A (cw_Main cI cZ cO amn apl abd alk atr mn lt ++ cw_Plan cI cZ cO apl pl ++ cw_Board cI cZ cO abd apl bd' ++ cw_Locks cI cZ cO alk lk ++ cw_Trial cI cZ cO atr apl atb tr ++ cw_Board cI cZ cO atb apl tb)) A
set_option maxHeartbeats 4000000 in
set_option maxRecDepth 100000 in
theorem ct_Main_giveBackResource (l : Launch) (dC : Nat → ClassId) (dI : Nat → Nat → Nat) (cI cZ cO : ClassId) (amn apl abd alk atr atb : Nat → Nat) (sz : Nat) (mn : cr_S) (lt : Int64) (pl : cr_S) (bd : cr_S) (lk : cr_S) (tr : cr_S) (tb : cr_S) (x1 : Int32) (x2 : Int32) (hR_tb : cr_RBoard tb) (hR_lk : cr_RLocks lk) (hR_bd : cr_RBoard bd) (hR_pl : cr_RPlan pl) (hx1 : 0 ≤ x1.toInt ∧ x1.toInt ≤ 10) : Met l ny_Main_giveBackResource nw_Main_giveBackResource ({ frames := 1, cells := 0, slots := 0, locals := 22 } : Room) (va_Pc [.ref (amn 0), .int x1, .int x2] (fun U => U.heap.size = sz ∧ va_P (dC, dI) vwCl (cw_Main cI cZ cO amn apl abd alk atr mn lt ++ cw_Plan cI cZ cO apl pl ++ cw_Board cI cZ cO abd apl bd ++ cw_Locks cI cZ cO alk lk ++ cw_Trial cI cZ cO atr apl atb tr ++ cw_Board cI cZ cO atb apl tb) U.heap ∧ va_K (dC, dI) vwCl [(cI, .int), (cZ, .boolean), (cO, .array .int)] U ∧ va_D (fun _ => True) (cw_Main cI cZ cO amn apl abd alk atr mn lt ++ cw_Plan cI cZ cO apl pl ++ cw_Board cI cZ cO abd apl bd ++ cw_Locks cI cZ cO alk lk ++ cw_Trial cI cZ cO atr apl atb tr ++ cw_Board cI cZ cO atb apl tb))) (pq_Main_giveBackResource dC dI cI cZ cO amn apl abd alk atr atb mn lt pl bd lk tr tb x1 x2 (va_A (cw_Main cI cZ cO amn apl abd alk atr mn lt ++ cw_Plan cI cZ cO apl pl ++ cw_Board cI cZ cO abd apl bd ++ cw_Locks cI cZ cO alk lk ++ cw_Trial cI cZ cO atr apl atb tr ++ cw_Board cI cZ cO atb apl tb) sz)) 0 0 (va_A (cw_Main cI cZ cO amn apl abd alk atr mn lt ++ cw_Plan cI cZ cO apl pl ++ cw_Board cI cZ cO abd apl bd ++ cw_Locks cI cZ cO alk lk ++ cw_Trial cI cZ cO atr apl atb tr ++ cw_Board cI cZ cO atb apl tb) sz) := by
  refine Met.ofW (cc := prog_1_method_20_code) (maxL := 3) (ret := (some .int)) (by decide) rfl ?_
  intro p e s m args below meth c s₁ B hml hv
  obtain ⟨rfl, hsz, hP, hK, hD0⟩ := hv
  have hx := B.exec
  have hb := B.bytes
  have hr := B.returns
  have hts0 := atoms_spec (ws := nw_Main_giveBackResource) B.pre
  have hts : ∀ w ∈ ng_tbl, w.before ([.ref (amn 0), .int x1, .int x2] : List Value).toArray s = true := fun w h => hts0 w (List.mem_cons_of_mem _ h)
  have hown : s.vm.findClass "CeilingRows" = some m.cls := findClass_of_methodNamed B.named
  have hlocks := B.notSynchronized
  subst hsz
  have hD := hD0.self (sz := s.heap.size)
  generalize hAe : va_A (cw_Main cI cZ cO amn apl abd alk atr mn lt ++ cw_Plan cI cZ cO apl pl ++ cw_Board cI cZ cO abd apl bd ++ cw_Locks cI cZ cO alk lk ++ cw_Trial cI cZ cO atr apl atb tr ++ cw_Board cI cZ cO atb apl tb) s.heap.size = A at hD ⊢
  have hA : ∀ q : Nat, s.heap.size ≤ q → A q := fun q h => by rw [← hAe]; exact Or.inr h
  have hS : va_S A s.heap s.heap [] := va_S.rf
  have hP : va_P (dC, dI) vwCl (cw_Main cI cZ cO amn apl abd alk atr mn lt ++ cw_Plan cI cZ cO apl pl ++ cw_Board cI cZ cO abd apl bd ++ cw_Locks cI cZ cO alk lk ++ cw_Trial cI cZ cO atr apl atb tr ++ cw_Board cI cZ cO atb apl tb) s.heap := hP
  have hl := lv_entry ([.ref (amn 0), .int x1, .int x2]) (n := 3) (Nat.le_of_ble_eq_true rfl)
  rw [lg_entry_eq]
  generalize (lg_sl ([.ref (amn 0), .int x1, .int x2]) ++ List.replicate (3 - (lg_sl ([.ref (amn 0), .int x1, .int x2])).length) Slot.unset).toArray = ls at hl ⊢
  have hl : lv_has ls 3 [(0, .ref (amn 0)), (1, .int x1), (2, .int x2)] := hl
  have f0_pl_0 := cr_rfo hR_pl.1
  have f0_pl_1 := cr_rfo hR_pl.2.1
  have k_m13 : (-13 : Int32).toInt = -13 := by decide
  have k_1 : (1 : Int32).toInt = 1 := by decide
  obtain ⟨tgt, hT⟩ : ∃ z, md_Main_giveBackResource mn lt pl bd lk tr tb x1 x2 = z := ⟨_, rfl⟩
  have hM := hT
  unfold md_Main_giveBackResource at hM
  refine lv_aload_n hx hb nd_Main_giveBackResource_0 rfl (lv_at hl 0 rfl) ?_
  refine va_get (D := (dC, dI)) (ci := 4) (v := .ref (abd 0)) (C := "CeilingRows") (T := nf_Main) (N := 6) hx hb hts nin_Main hown hK hP 0 rfl rfl 1 (by decide) (hts _ tw_139) (fun _ h9 => h9) rfl nd_Main_giveBackResource_1 ?_
  refine va_get (D := (dC, dI)) (ci := 1) (v := .ref (abd 3)) (C := "CeilingRows$Board") (T := nf_Board) (N := 7) hx hb hts nin_Board hown hK hP 19 rfl rfl 4 (by decide) (hts _ tw_74) (fun _ h9 => h9) rfl nd_Main_giveBackResource_4 ?_
  refine lv_iload_n hx hb nd_Main_giveBackResource_7 rfl (lv_at hl 1 rfl) ?_
  have b_1 : vp_in x1 11 := vp_in_iff.mpr (by omega)
  refine va_iald hx hb hK hP 22 0 rfl rfl b_1 nd_Main_giveBackResource_8 ?_
  have f_2 := cr_rgo hR_bd.1 (x1.toNatClampNeg)
  refine lv_iload_n hx hb nd_Main_giveBackResource_9 rfl (lv_at hl 2 rfl) ?_
  refine lv_icmp_eq (tgt := 16) hx hb nd_Main_giveBackResource_10 (by decide) (fun c_3 => ?_) (fun c_3 => ?_)
  · have c_3t := cr_eq c_3
    rw [if_pos c_3] at hM
    refine lv_aload_n hx hb nd_Main_giveBackResource_16 rfl (lv_at hl 0 rfl) ?_
    refine va_get (D := (dC, dI)) (ci := 4) (v := .ref (abd 0)) (C := "CeilingRows") (T := nf_Main) (N := 6) hx hb hts nin_Main hown hK hP 0 rfl rfl 1 (by decide) (hts _ tw_139) (fun _ h9 => h9) rfl nd_Main_giveBackResource_17 ?_
    refine lv_iload_n hx hb nd_Main_giveBackResource_20 rfl (lv_at hl 1 rfl) ?_
    have hPc := hP.sub (ws' := cw_Plan cI cZ cO apl pl ++ cw_Board cI cZ cO abd apl bd) [2, 3, 4, 5, 6, 7, 8, 9, 10, 11, 12, 13, 14, 15, 16, 17, 18, 19, 20, 21, 22, 23, 24] rfl
    have hDc := hD.sub (ws' := cw_Plan cI cZ cO apl pl ++ cw_Board cI cZ cO abd apl bd) [2, 3, 4, 5, 6, 7, 8, 9, 10, 11, 12, 13, 14, 15, 16, 17, 18, 19, 20, 21, 22, 23, 24] (by decide) rfl
    have hFc := va_free (wc := cw_Plan cI cZ cO apl pl ++ cw_Board cI cZ cO abd apl bd) hD hS hA [2, 3, 4, 5, 6, 7, 8, 9, 10, 11, 12, 13, 14, 15, 16, 17, 18, 19, 20, 21, 22, 23, 24] rfl
    refine va_callv (va_runV (As := [.int x1]) (rest := []) ⟨hx, hb, hml, hown, hts⟩ (ct_Board_giveBackLast l dC dI cI cZ cO apl abd s.heap.size pl bd x1 hR_bd hR_pl (by omega)) (cwV 1 hts (ng_V tw_263 tw_264 tw_265 tw_3 tw_266) rfl rfl rfl (by decide +kernel) ⟨Nat.le_of_ble_eq_true rfl, Nat.le_of_ble_eq_true rfl⟩) ⟨fun a U g mk q => by obtain ⟨q0, q1, qP, qK, qD⟩ := q; exact ⟨q0, q1, qP, va_K.moved (u := U) (U := U.calling g mk a) (Vm.Alike.refl U.vm) qK, qD⟩, va_recv hK hPc (ci := 1) (q0 := 17) rfl rfl, fun U hU hW => ⟨rfl, by rw [hU], by rw [hU]; exact hPc, va_K.moved hW.alike hK, hDc.weaken (fun _ _ _ _ => trivial)⟩⟩ rfl rfl hl.1 rfl (lv_room (Nat.le_of_ble_eq_true rfl)) nd_Main_giveBackResource_21 ⟨Nat.zero_le _, Nat.zero_le _⟩) hS (fun q _ h => hFc q h) hFc (fun u t H1 locs ht hvm hw hB hz1 hk1 hS => ?_)
    obtain ⟨hP1, hK1, hD1⟩ := hB
    rw [ht] at hP1
    obtain ⟨bdq_5, rfl⟩ : ∃ z, z = u := ⟨_, rfl⟩
    obtain ⟨w_6, hR_7⟩ := hw
    try rw [← w_6] at hM
    obtain ⟨hP, hD⟩ := va_join (wr := cw_Main cI cZ cO amn apl abd alk atr mn lt ++ cw_Locks cI cZ cO alk lk ++ cw_Trial cI cZ cO atr apl atb tr ++ cw_Board cI cZ cO atb apl tb) (w1 := cw_Plan cI cZ cO apl pl ++ cw_Board cI cZ cO abd apl bdq_5) hP hD [2, 3, 4, 5, 6, 7, 8, 9, 10, 11, 12, 13, 14, 15, 16, 17, 18, 19, 20, 21, 22, 23, 24] [0, 1, 25, 26, 27, 28, 29, 30, 31, 32, 33, 34, 35, 36, 37, 38, 39, 40, 41, 42, 43, 44, 45, 46, 47, 48] rfl rfl (by decide) (by decide) hk1 hFc hP1 hD1
    have hP := hP.sub (ws' := cw_Main cI cZ cO amn apl abd alk atr mn lt ++ cw_Plan cI cZ cO apl pl ++ cw_Board cI cZ cO abd apl bdq_5 ++ cw_Locks cI cZ cO alk lk ++ cw_Trial cI cZ cO atr apl atb tr ++ cw_Board cI cZ cO atb apl tb) [0, 1, 26, 27, 28, 29, 30, 31, 32, 33, 34, 35, 36, 37, 38, 39, 40, 41, 42, 43, 44, 45, 46, 47, 48, 2, 3, 4, 5, 6, 7, 8, 9, 10, 11, 12, 13, 14, 15, 16, 17, 18, 19, 20, 21, 22, 23, 24, 25] rfl
    have hD := hD.sub (ws' := cw_Main cI cZ cO amn apl abd alk atr mn lt ++ cw_Plan cI cZ cO apl pl ++ cw_Board cI cZ cO abd apl bdq_5 ++ cw_Locks cI cZ cO alk lk ++ cw_Trial cI cZ cO atr apl atb tr ++ cw_Board cI cZ cO atb apl tb) [0, 1, 26, 27, 28, 29, 30, 31, 32, 33, 34, 35, 36, 37, 38, 39, 40, 41, 42, 43, 44, 45, 46, 47, 48, 2, 3, 4, 5, 6, 7, 8, 9, 10, 11, 12, 13, 14, 15, 16, 17, 18, 19, 20, 21, 22, 23, 24, 25] (by decide) rfl
    generalize H1 = H at hP hS ⊢
    refine lv_iconst (v := 1) hx hb nd_Main_giveBackResource_24 (by decide) ?_
    exact W.iret (v := (1 : Int32)) hx hb hr (fun t ht hW => ⟨⟨(1 : Int32), bdq_5, rfl, ⟨by rw [hT, ← hM], by rw [hT, ← hM], hR_7⟩, by rw [ht]; exact hP, va_K.moved hW.alike hK, hD⟩, hS.F ht⟩) hS.2.2 nd_Main_giveBackResource_25
  · have c_3t := cr_ne c_3
    rw [if_neg c_3] at hM
    refine lv_bipush (v := -13) hx hb nd_Main_giveBackResource_13 (by decide) ?_
    exact W.iret (v := (-13 : Int32)) hx hb hr (fun t ht hW => ⟨⟨(-13 : Int32), bd, rfl, ⟨by rw [hT, ← hM], by rw [hT, ← hM], hR_bd⟩, by rw [ht]; exact hP, va_K.moved hW.alike hK, hD⟩, hS.F ht⟩) hS.2.2 nd_Main_giveBackResource_15

theorem nd_Main_endTask_0 : decode prog_1_method_21_code 0 = .ok (.aload_n 0, 1) := by decide +kernel
theorem nd_Main_endTask_1 : decode prog_1_method_21_code 1 = .ok (.getfield 21, 3) := by decide +kernel
theorem nd_Main_endTask_4 : decode prog_1_method_21_code 4 = .ok (.iload_n 1, 1) := by decide +kernel
theorem nd_Main_endTask_5 : decode prog_1_method_21_code 5 = .ok (.invokevirtual 175, 3) := by decide +kernel
theorem nd_Main_endTask_8 : decode prog_1_method_21_code 8 = .ok (.ifCond .eq (8), 3) := by decide +kernel
theorem nd_Main_endTask_11 : decode prog_1_method_21_code 11 = .ok (.bipush (-14), 2) := by decide +kernel
theorem nd_Main_endTask_13 : decode prog_1_method_21_code 13 = .ok (.goto (4), 3) := by decide +kernel
theorem nd_Main_endTask_16 : decode prog_1_method_21_code 16 = .ok (.iconst 1, 1) := by decide +kernel
theorem nd_Main_endTask_17 : decode prog_1_method_21_code 17 = .ok (.istore_n 2, 1) := by decide +kernel
theorem nd_Main_endTask_18 : decode prog_1_method_21_code 18 = .ok (.aload_n 0, 1) := by decide +kernel
theorem nd_Main_endTask_19 : decode prog_1_method_21_code 19 = .ok (.getfield 21, 3) := by decide +kernel
theorem nd_Main_endTask_22 : decode prog_1_method_21_code 22 = .ok (.iload_n 1, 1) := by decide +kernel
theorem nd_Main_endTask_23 : decode prog_1_method_21_code 23 = .ok (.invokevirtual 178, 3) := by decide +kernel
theorem nd_Main_endTask_26 : decode prog_1_method_21_code 26 = .ok (.aload_n 0, 1) := by decide +kernel
theorem nd_Main_endTask_27 : decode prog_1_method_21_code 27 = .ok (.getfield 39, 3) := by decide +kernel
theorem nd_Main_endTask_30 : decode prog_1_method_21_code 30 = .ok (.iload_n 1, 1) := by decide +kernel
theorem nd_Main_endTask_31 : decode prog_1_method_21_code 31 = .ok (.iconst 0, 1) := by decide +kernel
theorem nd_Main_endTask_32 : decode prog_1_method_21_code 32 = .ok (.bastore, 1) := by decide +kernel
theorem nd_Main_endTask_33 : decode prog_1_method_21_code 33 = .ok (.iload_n 2, 1) := by decide +kernel
theorem nd_Main_endTask_34 : decode prog_1_method_21_code 34 = .ok (.ireturn, 1) := by decide +kernel
abbrev pq_Main_endTask (dC : Nat → ClassId) (dI : Nat → Nat → Nat) (cI cZ cO : ClassId) (amn apl abd alk atr atb : Nat → Nat) (mn : cr_S) (lt : Int64) (pl : cr_S) (bd : cr_S) (lk : cr_S) (tr : cr_S) (tb : cr_S) (x1 : Int32) (A : Nat → Prop) : Array Value → State → Outcome → State → Prop :=
  va_Qi (fun (r : Int32) (u : cr_S × Int64 × cr_S) => r = (md_Main_endTask mn lt pl bd lk tr tb x1).1 ∧ u.1 = (md_Main_endTask mn lt pl bd lk tr tb x1).2.1 ∧ u.2.1 = (md_Main_endTask mn lt pl bd lk tr tb x1).2.2.1 ∧ u.2.2 = (md_Main_endTask mn lt pl bd lk tr tb x1).2.2.2 ∧ cr_RBoard u.2.2) (fun (u : cr_S × Int64 × cr_S) t => va_P (dC, dI) vwCl (cw_Main cI cZ cO amn apl abd alk atr u.1 u.2.1 ++ cw_Plan cI cZ cO apl pl ++ cw_Board cI cZ cO abd apl u.2.2 ++ cw_Locks cI cZ cO alk lk ++ cw_Trial cI cZ cO atr apl atb tr ++ cw_Board cI cZ cO atb apl tb) t.heap ∧ va_K (dC, dI) vwCl [(cI, .int), (cZ, .boolean), (cO, .array .int)] t ∧ va_D A (cw_Main cI cZ cO amn apl abd alk atr u.1 u.2.1 ++ cw_Plan cI cZ cO apl pl ++ cw_Board cI cZ cO abd apl u.2.2 ++ cw_Locks cI cZ cO alk lk ++ cw_Trial cI cZ cO atr apl atb tr ++ cw_Board cI cZ cO atb apl tb)) A
set_option maxHeartbeats 4000000 in
set_option maxRecDepth 100000 in
theorem ct_Main_endTask (l : Launch) (dC : Nat → ClassId) (dI : Nat → Nat → Nat) (cI cZ cO : ClassId) (amn apl abd alk atr atb : Nat → Nat) (sz : Nat) (mn : cr_S) (lt : Int64) (pl : cr_S) (bd : cr_S) (lk : cr_S) (tr : cr_S) (tb : cr_S) (x1 : Int32) (hR_tb : cr_RBoard tb) (hR_lk : cr_RLocks lk) (hR_bd : cr_RBoard bd) (hR_pl : cr_RPlan pl) (hx1 : 0 ≤ x1.toInt ∧ x1.toInt ≤ 10) : Met l ny_Main_endTask nw_Main_endTask ({ frames := 2, cells := 0, slots := 0, locals := 44 } : Room) (va_Pc [.ref (amn 0), .int x1] (fun U => U.heap.size = sz ∧ va_P (dC, dI) vwCl (cw_Main cI cZ cO amn apl abd alk atr mn lt ++ cw_Plan cI cZ cO apl pl ++ cw_Board cI cZ cO abd apl bd ++ cw_Locks cI cZ cO alk lk ++ cw_Trial cI cZ cO atr apl atb tr ++ cw_Board cI cZ cO atb apl tb) U.heap ∧ va_K (dC, dI) vwCl [(cI, .int), (cZ, .boolean), (cO, .array .int)] U ∧ va_D (fun _ => True) (cw_Main cI cZ cO amn apl abd alk atr mn lt ++ cw_Plan cI cZ cO apl pl ++ cw_Board cI cZ cO abd apl bd ++ cw_Locks cI cZ cO alk lk ++ cw_Trial cI cZ cO atr apl atb tr ++ cw_Board cI cZ cO atb apl tb))) (pq_Main_endTask dC dI cI cZ cO amn apl abd alk atr atb mn lt pl bd lk tr tb x1 (va_A (cw_Main cI cZ cO amn apl abd alk atr mn lt ++ cw_Plan cI cZ cO apl pl ++ cw_Board cI cZ cO abd apl bd ++ cw_Locks cI cZ cO alk lk ++ cw_Trial cI cZ cO atr apl atb tr ++ cw_Board cI cZ cO atb apl tb) sz)) 0 0 (va_A (cw_Main cI cZ cO amn apl abd alk atr mn lt ++ cw_Plan cI cZ cO apl pl ++ cw_Board cI cZ cO abd apl bd ++ cw_Locks cI cZ cO alk lk ++ cw_Trial cI cZ cO atr apl atb tr ++ cw_Board cI cZ cO atb apl tb) sz) := by
  refine Met.ofW (cc := prog_1_method_21_code) (maxL := 3) (ret := (some .int)) (by decide) rfl ?_
  intro p e s m args below meth c s₁ B hml hv
  obtain ⟨rfl, hsz, hP, hK, hD0⟩ := hv
  have hx := B.exec
  have hb := B.bytes
  have hr := B.returns
  have hts0 := atoms_spec (ws := nw_Main_endTask) B.pre
  have hts : ∀ w ∈ ng_tbl, w.before ([.ref (amn 0), .int x1] : List Value).toArray s = true := fun w h => hts0 w (List.mem_cons_of_mem _ h)
  have hown : s.vm.findClass "CeilingRows" = some m.cls := findClass_of_methodNamed B.named
  have hlocks := B.notSynchronized
  subst hsz
  have hD := hD0.self (sz := s.heap.size)
  generalize hAe : va_A (cw_Main cI cZ cO amn apl abd alk atr mn lt ++ cw_Plan cI cZ cO apl pl ++ cw_Board cI cZ cO abd apl bd ++ cw_Locks cI cZ cO alk lk ++ cw_Trial cI cZ cO atr apl atb tr ++ cw_Board cI cZ cO atb apl tb) s.heap.size = A at hD ⊢
  have hA : ∀ q : Nat, s.heap.size ≤ q → A q := fun q h => by rw [← hAe]; exact Or.inr h
  have hS : va_S A s.heap s.heap [] := va_S.rf
  have hP : va_P (dC, dI) vwCl (cw_Main cI cZ cO amn apl abd alk atr mn lt ++ cw_Plan cI cZ cO apl pl ++ cw_Board cI cZ cO abd apl bd ++ cw_Locks cI cZ cO alk lk ++ cw_Trial cI cZ cO atr apl atb tr ++ cw_Board cI cZ cO atb apl tb) s.heap := hP
  have hl := lv_entry ([.ref (amn 0), .int x1]) (n := 3) (Nat.le_of_ble_eq_true rfl)
  rw [lg_entry_eq]
  generalize (lg_sl ([.ref (amn 0), .int x1]) ++ List.replicate (3 - (lg_sl ([.ref (amn 0), .int x1])).length) Slot.unset).toArray = ls at hl ⊢
  have hl : lv_has ls 3 [(0, .ref (amn 0)), (1, .int x1)] := hl
  have f0_pl_0 := cr_rfo hR_pl.1
  have f0_pl_1 := cr_rfo hR_pl.2.1
  have k_m14 : (-14 : Int32).toInt = -14 := by decide
  have k_0 : (0 : Int32).toInt = 0 := by decide
  have k_1 : (1 : Int32).toInt = 1 := by decide
  obtain ⟨tgt, hT⟩ : ∃ z, md_Main_endTask mn lt pl bd lk tr tb x1 = z := ⟨_, rfl⟩
  have hM := hT
  unfold md_Main_endTask at hM
  refine lv_aload_n hx hb nd_Main_endTask_0 rfl (lv_at hl 0 rfl) ?_
  refine va_get (D := (dC, dI)) (ci := 4) (v := .ref (abd 0)) (C := "CeilingRows") (T := nf_Main) (N := 6) hx hb hts nin_Main hown hK hP 0 rfl rfl 1 (by decide) (hts _ tw_139) (fun _ h9 => h9) rfl nd_Main_endTask_1 ?_
  refine lv_iload_n hx hb nd_Main_endTask_4 rfl (lv_at hl 1 rfl) ?_
  have hPc := hP.sub (ws' := cw_Plan cI cZ cO apl pl ++ cw_Board cI cZ cO abd apl bd) [2, 3, 4, 5, 6, 7, 8, 9, 10, 11, 12, 13, 14, 15, 16, 17, 18, 19, 20, 21, 22, 23, 24] rfl
  have hDc := hD.sub (ws' := cw_Plan cI cZ cO apl pl ++ cw_Board cI cZ cO abd apl bd) [2, 3, 4, 5, 6, 7, 8, 9, 10, 11, 12, 13, 14, 15, 16, 17, 18, 19, 20, 21, 22, 23, 24] (by decide) rfl
  have hFc := va_free (wc := cw_Plan cI cZ cO apl pl ++ cw_Board cI cZ cO abd apl bd) hD hS hA [2, 3, 4, 5, 6, 7, 8, 9, 10, 11, 12, 13, 14, 15, 16, 17, 18, 19, 20, 21, 22, 23, 24] rfl
  refine va_calli (va_runV (As := [.int x1]) (rest := []) ⟨hx, hb, hml, hown, hts⟩ (ct_Board_holdsAny l dC dI cI cZ cO apl abd s.heap.size pl bd x1 hR_bd hR_pl (by omega)) (cwV 1 hts (ng_V tw_271 tw_272 tw_273 tw_3 tw_274) rfl rfl rfl (by decide +kernel) ⟨Nat.le_of_ble_eq_true rfl, Nat.le_of_ble_eq_true rfl⟩) ⟨fun a U g mk q => by obtain ⟨q0, q1, qP, qK, qD⟩ := q; exact ⟨q0, q1, qP, va_K.moved (u := U) (U := U.calling g mk a) (Vm.Alike.refl U.vm) qK, qD⟩, va_recv hK hPc (ci := 1) (q0 := 17) rfl rfl, fun U hU hW => ⟨rfl, by rw [hU], by rw [hU]; exact hPc, va_K.moved hW.alike hK, hDc.weaken (fun _ _ _ _ => trivial)⟩⟩ rfl rfl hl.1 rfl (lv_room (Nat.le_of_ble_eq_true rfl)) nd_Main_endTask_5 ⟨Nat.zero_le _, Nat.zero_le _⟩) hS (fun q _ h => hFc q h) hFc (fun r_1 u t H1 locs ht hvm hw hB hz1 hk1 hS => ?_)
  obtain ⟨hP1, hK1, hD1⟩ := hB
  rw [ht] at hP1
  have w_2 := hw
  try rw [← w_2] at hM
  obtain ⟨hP, hD⟩ := va_join (wr := cw_Main cI cZ cO amn apl abd alk atr mn lt ++ cw_Locks cI cZ cO alk lk ++ cw_Trial cI cZ cO atr apl atb tr ++ cw_Board cI cZ cO atb apl tb) (w1 := cw_Plan cI cZ cO apl pl ++ cw_Board cI cZ cO abd apl bd) hP hD [2, 3, 4, 5, 6, 7, 8, 9, 10, 11, 12, 13, 14, 15, 16, 17, 18, 19, 20, 21, 22, 23, 24] [0, 1, 25, 26, 27, 28, 29, 30, 31, 32, 33, 34, 35, 36, 37, 38, 39, 40, 41, 42, 43, 44, 45, 46, 47, 48] rfl rfl (by decide) (by decide) hk1 hFc hP1 hD1
  have hP := hP.sub (ws' := cw_Main cI cZ cO amn apl abd alk atr mn lt ++ cw_Plan cI cZ cO apl pl ++ cw_Board cI cZ cO abd apl bd ++ cw_Locks cI cZ cO alk lk ++ cw_Trial cI cZ cO atr apl atb tr ++ cw_Board cI cZ cO atb apl tb) [0, 1, 26, 27, 28, 29, 30, 31, 32, 33, 34, 35, 36, 37, 38, 39, 40, 41, 42, 43, 44, 45, 46, 47, 48, 2, 3, 4, 5, 6, 7, 8, 9, 10, 11, 12, 13, 14, 15, 16, 17, 18, 19, 20, 21, 22, 23, 24, 25] rfl
  have hD := hD.sub (ws' := cw_Main cI cZ cO amn apl abd alk atr mn lt ++ cw_Plan cI cZ cO apl pl ++ cw_Board cI cZ cO abd apl bd ++ cw_Locks cI cZ cO alk lk ++ cw_Trial cI cZ cO atr apl atb tr ++ cw_Board cI cZ cO atb apl tb) [0, 1, 26, 27, 28, 29, 30, 31, 32, 33, 34, 35, 36, 37, 38, 39, 40, 41, 42, 43, 44, 45, 46, 47, 48, 2, 3, 4, 5, 6, 7, 8, 9, 10, 11, 12, 13, 14, 15, 16, 17, 18, 19, 20, 21, 22, 23, 24, 25] (by decide) rfl
  generalize H1 = H at hP hS ⊢
  refine lv_if_eq (tgt := 16) hx hb nd_Main_endTask_8 (by decide) (fun c_3 => ?_) (fun c_3 => ?_)
  · have c_3t := cr_eq c_3
    rw [if_pos c_3] at hM
    refine lv_iconst (v := 1) hx hb nd_Main_endTask_16 (by decide) ?_
    refine lv_istore_n (lv' := [(2, .int (1 : Int32)), (0, .ref (amn 0)), (1, .int x1)]) hx hb nd_Main_endTask_17 rfl hl (by decide) rfl (fun ls hl => ?_)
    refine lv_aload_n hx hb nd_Main_endTask_18 rfl (lv_at hl 1 rfl) ?_
    refine va_get (D := (dC, dI)) (ci := 4) (v := .ref (abd 0)) (C := "CeilingRows") (T := nf_Main) (N := 6) hx hb hts nin_Main hown hK hP 0 rfl rfl 1 (by decide) (hts _ tw_139) (fun _ h9 => h9) rfl nd_Main_endTask_19 ?_
    refine lv_iload_n hx hb nd_Main_endTask_22 rfl (lv_at hl 2 rfl) ?_
    have hPc := hP.sub (ws' := cw_Plan cI cZ cO apl pl ++ cw_Board cI cZ cO abd apl bd) [2, 3, 4, 5, 6, 7, 8, 9, 10, 11, 12, 13, 14, 15, 16, 17, 18, 19, 20, 21, 22, 23, 24] rfl
    have hDc := hD.sub (ws' := cw_Plan cI cZ cO apl pl ++ cw_Board cI cZ cO abd apl bd) [2, 3, 4, 5, 6, 7, 8, 9, 10, 11, 12, 13, 14, 15, 16, 17, 18, 19, 20, 21, 22, 23, 24] (by decide) rfl
    have hFc := va_free (wc := cw_Plan cI cZ cO apl pl ++ cw_Board cI cZ cO abd apl bd) hD hS hA [2, 3, 4, 5, 6, 7, 8, 9, 10, 11, 12, 13, 14, 15, 16, 17, 18, 19, 20, 21, 22, 23, 24] rfl
    refine va_callv (va_runV (As := [.int x1]) (rest := []) ⟨hx, hb, hml, hown, hts⟩ (ct_Board_putToSleep l dC dI cI cZ cO apl abd H.size pl bd x1 hR_bd hR_pl (by omega)) (cwV 1 hts (ng_V tw_275 tw_276 tw_277 tw_3 tw_278) rfl rfl rfl (by decide +kernel) ⟨Nat.le_of_ble_eq_true rfl, Nat.le_of_ble_eq_true rfl⟩) ⟨fun a U g mk q => by obtain ⟨q0, q1, qP, qK, qD⟩ := q; exact ⟨q0, q1, qP, va_K.moved (u := U) (U := U.calling g mk a) (Vm.Alike.refl U.vm) qK, qD⟩, va_recv hK hPc (ci := 1) (q0 := 17) rfl rfl, fun U hU hW => ⟨rfl, by rw [hU], by rw [hU]; exact hPc, va_K.moved hW.alike hK, hDc.weaken (fun _ _ _ _ => trivial)⟩⟩ rfl rfl hl.1 rfl (lv_room (Nat.le_of_ble_eq_true rfl)) nd_Main_endTask_23 ⟨Nat.zero_le _, Nat.zero_le _⟩) hS (fun q _ h => hFc q h) hFc (fun u t H1 locs ht hvm hw hB hz1 hk1 hS => ?_)
    obtain ⟨hP1, hK1, hD1⟩ := hB
    rw [ht] at hP1
    obtain ⟨bdq_5, rfl⟩ : ∃ z, z = u := ⟨_, rfl⟩
    obtain ⟨w_6, hR_7⟩ := hw
    try rw [← w_6] at hM
    obtain ⟨hP, hD⟩ := va_join (wr := cw_Main cI cZ cO amn apl abd alk atr mn lt ++ cw_Locks cI cZ cO alk lk ++ cw_Trial cI cZ cO atr apl atb tr ++ cw_Board cI cZ cO atb apl tb) (w1 := cw_Plan cI cZ cO apl pl ++ cw_Board cI cZ cO abd apl bdq_5) hP hD [2, 3, 4, 5, 6, 7, 8, 9, 10, 11, 12, 13, 14, 15, 16, 17, 18, 19, 20, 21, 22, 23, 24] [0, 1, 25, 26, 27, 28, 29, 30, 31, 32, 33, 34, 35, 36, 37, 38, 39, 40, 41, 42, 43, 44, 45, 46, 47, 48] rfl rfl (by decide) (by decide) hk1 hFc hP1 hD1
    have hP := hP.sub (ws' := cw_Main cI cZ cO amn apl abd alk atr mn lt ++ cw_Plan cI cZ cO apl pl ++ cw_Board cI cZ cO abd apl bdq_5 ++ cw_Locks cI cZ cO alk lk ++ cw_Trial cI cZ cO atr apl atb tr ++ cw_Board cI cZ cO atb apl tb) [0, 1, 26, 27, 28, 29, 30, 31, 32, 33, 34, 35, 36, 37, 38, 39, 40, 41, 42, 43, 44, 45, 46, 47, 48, 2, 3, 4, 5, 6, 7, 8, 9, 10, 11, 12, 13, 14, 15, 16, 17, 18, 19, 20, 21, 22, 23, 24, 25] rfl
    have hD := hD.sub (ws' := cw_Main cI cZ cO amn apl abd alk atr mn lt ++ cw_Plan cI cZ cO apl pl ++ cw_Board cI cZ cO abd apl bdq_5 ++ cw_Locks cI cZ cO alk lk ++ cw_Trial cI cZ cO atr apl atb tr ++ cw_Board cI cZ cO atb apl tb) [0, 1, 26, 27, 28, 29, 30, 31, 32, 33, 34, 35, 36, 37, 38, 39, 40, 41, 42, 43, 44, 45, 46, 47, 48, 2, 3, 4, 5, 6, 7, 8, 9, 10, 11, 12, 13, 14, 15, 16, 17, 18, 19, 20, 21, 22, 23, 24, 25] (by decide) rfl
    generalize H1 = H at hP hS ⊢
    refine lv_aload_n hx hb nd_Main_endTask_26 rfl (lv_at hl 1 rfl) ?_
    refine va_get (D := (dC, dI)) (ci := 4) (v := .ref (amn 1)) (C := "CeilingRows") (T := nf_Main) (N := 6) hx hb hts nin_Main hown hK hP 0 rfl rfl 4 (by decide) (hts _ tw_142) (fun _ h9 => h9) rfl nd_Main_endTask_27 ?_
    refine lv_iload_n hx hb nd_Main_endTask_30 rfl (lv_at hl 2 rfl) ?_
    refine lv_iconst (v := 0) hx hb nd_Main_endTask_31 (by decide) ?_
    have b_8 : vp_in x1 11 := vp_in_iff.mpr (by omega)
    refine va_zast hx hb hK hP hD hS 1 1 rfl rfl b_8 nd_Main_endTask_32 (fun H locs hP hD hS => ?_)
    rw [show vp_nar .boolean (0 : Int32) = (0 : Int32) by decide] at hP hD
    have hP : va_P (dC, dI) vwCl (cw_Main cI cZ cO amn apl abd alk atr (cr_up mn 1 x1.toNatClampNeg (0 : Int32)) lt ++ cw_Plan cI cZ cO apl pl ++ cw_Board cI cZ cO abd apl bdq_5 ++ cw_Locks cI cZ cO alk lk ++ cw_Trial cI cZ cO atr apl atb tr ++ cw_Board cI cZ cO atb apl tb) H := hP
    have hD : va_D A (cw_Main cI cZ cO amn apl abd alk atr (cr_up mn 1 x1.toNatClampNeg (0 : Int32)) lt ++ cw_Plan cI cZ cO apl pl ++ cw_Board cI cZ cO abd apl bdq_5 ++ cw_Locks cI cZ cO alk lk ++ cw_Trial cI cZ cO atr apl atb tr ++ cw_Board cI cZ cO atb apl tb) := hD
    obtain ⟨mnq_9, hmnq_9⟩ : ∃ z, (cr_up mn 1 x1.toNatClampNeg (0 : Int32)) = z := ⟨_, rfl⟩
    rw [hmnq_9] at hP hD
    try rw [hmnq_9] at hM
    refine lv_iload_n hx hb nd_Main_endTask_33 rfl (lv_at hl 0 rfl) ?_
    exact W.iret (v := (1 : Int32)) hx hb hr (fun t ht hW => ⟨⟨(1 : Int32), (mnq_9, lt, bdq_5), rfl, ⟨by rw [hT, ← hM], by rw [hT, ← hM], by rw [hT, ← hM], by rw [hT, ← hM], hR_7⟩, by rw [ht]; exact hP, va_K.moved hW.alike hK, hD⟩, hS.F ht⟩) hS.2.2 nd_Main_endTask_34
  · have c_3t := cr_ne c_3
    rw [if_neg c_3] at hM
    refine lv_bipush (v := -14) hx hb nd_Main_endTask_11 (by decide) ?_
    refine lv_goto (tgt := 17) hx hb nd_Main_endTask_13 (by decide) ?_
    refine lv_istore_n (lv' := [(2, .int (-14 : Int32)), (0, .ref (amn 0)), (1, .int x1)]) hx hb nd_Main_endTask_17 rfl hl (by decide) rfl (fun ls hl => ?_)
    refine lv_aload_n hx hb nd_Main_endTask_18 rfl (lv_at hl 1 rfl) ?_
    refine va_get (D := (dC, dI)) (ci := 4) (v := .ref (abd 0)) (C := "CeilingRows") (T := nf_Main) (N := 6) hx hb hts nin_Main hown hK hP 0 rfl rfl 1 (by decide) (hts _ tw_139) (fun _ h9 => h9) rfl nd_Main_endTask_19 ?_
    refine lv_iload_n hx hb nd_Main_endTask_22 rfl (lv_at hl 2 rfl) ?_
    have hPc := hP.sub (ws' := cw_Plan cI cZ cO apl pl ++ cw_Board cI cZ cO abd apl bd) [2, 3, 4, 5, 6, 7, 8, 9, 10, 11, 12, 13, 14, 15, 16, 17, 18, 19, 20, 21, 22, 23, 24] rfl
    have hDc := hD.sub (ws' := cw_Plan cI cZ cO apl pl ++ cw_Board cI cZ cO abd apl bd) [2, 3, 4, 5, 6, 7, 8, 9, 10, 11, 12, 13, 14, 15, 16, 17, 18, 19, 20, 21, 22, 23, 24] (by decide) rfl
    have hFc := va_free (wc := cw_Plan cI cZ cO apl pl ++ cw_Board cI cZ cO abd apl bd) hD hS hA [2, 3, 4, 5, 6, 7, 8, 9, 10, 11, 12, 13, 14, 15, 16, 17, 18, 19, 20, 21, 22, 23, 24] rfl
    refine va_callv (va_runV (As := [.int x1]) (rest := []) ⟨hx, hb, hml, hown, hts⟩ (ct_Board_putToSleep l dC dI cI cZ cO apl abd H.size pl bd x1 hR_bd hR_pl (by omega)) (cwV 1 hts (ng_V tw_275 tw_276 tw_277 tw_3 tw_278) rfl rfl rfl (by decide +kernel) ⟨Nat.le_of_ble_eq_true rfl, Nat.le_of_ble_eq_true rfl⟩) ⟨fun a U g mk q => by obtain ⟨q0, q1, qP, qK, qD⟩ := q; exact ⟨q0, q1, qP, va_K.moved (u := U) (U := U.calling g mk a) (Vm.Alike.refl U.vm) qK, qD⟩, va_recv hK hPc (ci := 1) (q0 := 17) rfl rfl, fun U hU hW => ⟨rfl, by rw [hU], by rw [hU]; exact hPc, va_K.moved hW.alike hK, hDc.weaken (fun _ _ _ _ => trivial)⟩⟩ rfl rfl hl.1 rfl (lv_room (Nat.le_of_ble_eq_true rfl)) nd_Main_endTask_23 ⟨Nat.zero_le _, Nat.zero_le _⟩) hS (fun q _ h => hFc q h) hFc (fun u t H1 locs ht hvm hw hB hz1 hk1 hS => ?_)
    obtain ⟨hP1, hK1, hD1⟩ := hB
    rw [ht] at hP1
    obtain ⟨bdq_11, rfl⟩ : ∃ z, z = u := ⟨_, rfl⟩
    obtain ⟨w_12, hR_13⟩ := hw
    try rw [← w_12] at hM
    obtain ⟨hP, hD⟩ := va_join (wr := cw_Main cI cZ cO amn apl abd alk atr mn lt ++ cw_Locks cI cZ cO alk lk ++ cw_Trial cI cZ cO atr apl atb tr ++ cw_Board cI cZ cO atb apl tb) (w1 := cw_Plan cI cZ cO apl pl ++ cw_Board cI cZ cO abd apl bdq_11) hP hD [2, 3, 4, 5, 6, 7, 8, 9, 10, 11, 12, 13, 14, 15, 16, 17, 18, 19, 20, 21, 22, 23, 24] [0, 1, 25, 26, 27, 28, 29, 30, 31, 32, 33, 34, 35, 36, 37, 38, 39, 40, 41, 42, 43, 44, 45, 46, 47, 48] rfl rfl (by decide) (by decide) hk1 hFc hP1 hD1
    have hP := hP.sub (ws' := cw_Main cI cZ cO amn apl abd alk atr mn lt ++ cw_Plan cI cZ cO apl pl ++ cw_Board cI cZ cO abd apl bdq_11 ++ cw_Locks cI cZ cO alk lk ++ cw_Trial cI cZ cO atr apl atb tr ++ cw_Board cI cZ cO atb apl tb) [0, 1, 26, 27, 28, 29, 30, 31, 32, 33, 34, 35, 36, 37, 38, 39, 40, 41, 42, 43, 44, 45, 46, 47, 48, 2, 3, 4, 5, 6, 7, 8, 9, 10, 11, 12, 13, 14, 15, 16, 17, 18, 19, 20, 21, 22, 23, 24, 25] rfl
    have hD := hD.sub (ws' := cw_Main cI cZ cO amn apl abd alk atr mn lt ++ cw_Plan cI cZ cO apl pl ++ cw_Board cI cZ cO abd apl bdq_11 ++ cw_Locks cI cZ cO alk lk ++ cw_Trial cI cZ cO atr apl atb tr ++ cw_Board cI cZ cO atb apl tb) [0, 1, 26, 27, 28, 29, 30, 31, 32, 33, 34, 35, 36, 37, 38, 39, 40, 41, 42, 43, 44, 45, 46, 47, 48, 2, 3, 4, 5, 6, 7, 8, 9, 10, 11, 12, 13, 14, 15, 16, 17, 18, 19, 20, 21, 22, 23, 24, 25] (by decide) rfl
    generalize H1 = H at hP hS ⊢
    refine lv_aload_n hx hb nd_Main_endTask_26 rfl (lv_at hl 1 rfl) ?_
    refine va_get (D := (dC, dI)) (ci := 4) (v := .ref (amn 1)) (C := "CeilingRows") (T := nf_Main) (N := 6) hx hb hts nin_Main hown hK hP 0 rfl rfl 4 (by decide) (hts _ tw_142) (fun _ h9 => h9) rfl nd_Main_endTask_27 ?_
    refine lv_iload_n hx hb nd_Main_endTask_30 rfl (lv_at hl 2 rfl) ?_
    refine lv_iconst (v := 0) hx hb nd_Main_endTask_31 (by decide) ?_
    have b_14 : vp_in x1 11 := vp_in_iff.mpr (by omega)
    refine va_zast hx hb hK hP hD hS 1 1 rfl rfl b_14 nd_Main_endTask_32 (fun H locs hP hD hS => ?_)
    rw [show vp_nar .boolean (0 : Int32) = (0 : Int32) by decide] at hP hD
    have hP : va_P (dC, dI) vwCl (cw_Main cI cZ cO amn apl abd alk atr (cr_up mn 1 x1.toNatClampNeg (0 : Int32)) lt ++ cw_Plan cI cZ cO apl pl ++ cw_Board cI cZ cO abd apl bdq_11 ++ cw_Locks cI cZ cO alk lk ++ cw_Trial cI cZ cO atr apl atb tr ++ cw_Board cI cZ cO atb apl tb) H := hP
    have hD : va_D A (cw_Main cI cZ cO amn apl abd alk atr (cr_up mn 1 x1.toNatClampNeg (0 : Int32)) lt ++ cw_Plan cI cZ cO apl pl ++ cw_Board cI cZ cO abd apl bdq_11 ++ cw_Locks cI cZ cO alk lk ++ cw_Trial cI cZ cO atr apl atb tr ++ cw_Board cI cZ cO atb apl tb) := hD
    obtain ⟨mnq_15, hmnq_15⟩ : ∃ z, (cr_up mn 1 x1.toNatClampNeg (0 : Int32)) = z := ⟨_, rfl⟩
    rw [hmnq_15] at hP hD
    try rw [hmnq_15] at hM
    refine lv_iload_n hx hb nd_Main_endTask_33 rfl (lv_at hl 0 rfl) ?_
    exact W.iret (v := (-14 : Int32)) hx hb hr (fun t ht hW => ⟨⟨(-14 : Int32), (mnq_15, lt, bdq_11), rfl, ⟨by rw [hT, ← hM], by rw [hT, ← hM], by rw [hT, ← hM], by rw [hT, ← hM], hR_13⟩, by rw [ht]; exact hP, va_K.moved hW.alike hK, hD⟩, hS.F ht⟩) hS.2.2 nd_Main_endTask_34

theorem nd_Main_waitForEvent_0 : decode prog_1_method_22_code 0 = .ok (.aload_n 0, 1) := by decide +kernel
theorem nd_Main_waitForEvent_1 : decode prog_1_method_22_code 1 = .ok (.getfield 21, 3) := by decide +kernel
theorem nd_Main_waitForEvent_4 : decode prog_1_method_22_code 4 = .ok (.iload_n 1, 1) := by decide +kernel
theorem nd_Main_waitForEvent_5 : decode prog_1_method_22_code 5 = .ok (.invokevirtual 175, 3) := by decide +kernel
theorem nd_Main_waitForEvent_8 : decode prog_1_method_22_code 8 = .ok (.ifCond .eq (6), 3) := by decide +kernel
theorem nd_Main_waitForEvent_11 : decode prog_1_method_22_code 11 = .ok (.bipush (-15), 2) := by decide +kernel
theorem nd_Main_waitForEvent_13 : decode prog_1_method_22_code 13 = .ok (.ireturn, 1) := by decide +kernel
theorem nd_Main_waitForEvent_14 : decode prog_1_method_22_code 14 = .ok (.aload_n 0, 1) := by decide +kernel
theorem nd_Main_waitForEvent_15 : decode prog_1_method_22_code 15 = .ok (.getfield 39, 3) := by decide +kernel
theorem nd_Main_waitForEvent_18 : decode prog_1_method_22_code 18 = .ok (.iload_n 1, 1) := by decide +kernel
theorem nd_Main_waitForEvent_19 : decode prog_1_method_22_code 19 = .ok (.baload, 1) := by decide +kernel
theorem nd_Main_waitForEvent_20 : decode prog_1_method_22_code 20 = .ok (.ifCond .eq (12), 3) := by decide +kernel
theorem nd_Main_waitForEvent_23 : decode prog_1_method_22_code 23 = .ok (.aload_n 0, 1) := by decide +kernel
theorem nd_Main_waitForEvent_24 : decode prog_1_method_22_code 24 = .ok (.getfield 39, 3) := by decide +kernel
theorem nd_Main_waitForEvent_27 : decode prog_1_method_22_code 27 = .ok (.iload_n 1, 1) := by decide +kernel
theorem nd_Main_waitForEvent_28 : decode prog_1_method_22_code 28 = .ok (.iconst 0, 1) := by decide +kernel
theorem nd_Main_waitForEvent_29 : decode prog_1_method_22_code 29 = .ok (.bastore, 1) := by decide +kernel
theorem nd_Main_waitForEvent_30 : decode prog_1_method_22_code 30 = .ok (.iconst 1, 1) := by decide +kernel
theorem nd_Main_waitForEvent_31 : decode prog_1_method_22_code 31 = .ok (.ireturn, 1) := by decide +kernel
theorem nd_Main_waitForEvent_32 : decode prog_1_method_22_code 32 = .ok (.aload_n 0, 1) := by decide +kernel
theorem nd_Main_waitForEvent_33 : decode prog_1_method_22_code 33 = .ok (.getfield 21, 3) := by decide +kernel
theorem nd_Main_waitForEvent_36 : decode prog_1_method_22_code 36 = .ok (.getfield 143, 3) := by decide +kernel
theorem nd_Main_waitForEvent_39 : decode prog_1_method_22_code 39 = .ok (.iload_n 1, 1) := by decide +kernel
theorem nd_Main_waitForEvent_40 : decode prog_1_method_22_code 40 = .ok (.iconst 2, 1) := by decide +kernel
theorem nd_Main_waitForEvent_41 : decode prog_1_method_22_code 41 = .ok (.iastore, 1) := by decide +kernel
theorem nd_Main_waitForEvent_42 : decode prog_1_method_22_code 42 = .ok (.iconst 0, 1) := by decide +kernel
theorem nd_Main_waitForEvent_43 : decode prog_1_method_22_code 43 = .ok (.ireturn, 1) := by decide +kernel
abbrev pq_Main_waitForEvent (dC : Nat → ClassId) (dI : Nat → Nat → Nat) (cI cZ cO : ClassId) (amn apl abd alk atr atb : Nat → Nat) (mn : cr_S) (lt : Int64) (pl : cr_S) (bd : cr_S) (lk : cr_S) (tr : cr_S) (tb : cr_S) (x1 : Int32) (A : Nat → Prop) : Array Value → State → Outcome → State → Prop :=
  va_Qi (fun (r : Int32) (u : cr_S × Int64 × cr_S) => r = (md_Main_waitForEvent mn lt pl bd lk tr tb x1).1 ∧ u.1 = (md_Main_waitForEvent mn lt pl bd lk tr tb x1).2.1 ∧ u.2.1 = (md_Main_waitForEvent mn lt pl bd lk tr tb x1).2.2.1 ∧ u.2.2 = (md_Main_waitForEvent mn lt pl bd lk tr tb x1).2.2.2 ∧ cr_RBoard u.2.2) (fun (u : cr_S × Int64 × cr_S) t => va_P (dC, dI) vwCl (cw_Main cI cZ cO amn apl abd alk atr u.1 u.2.1 ++ cw_Plan cI cZ cO apl pl ++ cw_Board cI cZ cO abd apl u.2.2 ++ cw_Locks cI cZ cO alk lk ++ cw_Trial cI cZ cO atr apl atb tr ++ cw_Board cI cZ cO atb apl tb) t.heap ∧ va_K (dC, dI) vwCl [(cI, .int), (cZ, .boolean), (cO, .array .int)] t ∧ va_D A (cw_Main cI cZ cO amn apl abd alk atr u.1 u.2.1 ++ cw_Plan cI cZ cO apl pl ++ cw_Board cI cZ cO abd apl u.2.2 ++ cw_Locks cI cZ cO alk lk ++ cw_Trial cI cZ cO atr apl atb tr ++ cw_Board cI cZ cO atb apl tb)) A
set_option maxHeartbeats 4000000 in
set_option maxRecDepth 100000 in
theorem ct_Main_waitForEvent (l : Launch) (dC : Nat → ClassId) (dI : Nat → Nat → Nat) (cI cZ cO : ClassId) (amn apl abd alk atr atb : Nat → Nat) (sz : Nat) (mn : cr_S) (lt : Int64) (pl : cr_S) (bd : cr_S) (lk : cr_S) (tr : cr_S) (tb : cr_S) (x1 : Int32) (hR_tb : cr_RBoard tb) (hR_lk : cr_RLocks lk) (hR_bd : cr_RBoard bd) (hR_pl : cr_RPlan pl) (hx1 : 0 ≤ x1.toInt ∧ x1.toInt ≤ 10) : Met l ny_Main_waitForEvent nw_Main_waitForEvent ({ frames := 1, cells := 0, slots := 0, locals := 21 } : Room) (va_Pc [.ref (amn 0), .int x1] (fun U => U.heap.size = sz ∧ va_P (dC, dI) vwCl (cw_Main cI cZ cO amn apl abd alk atr mn lt ++ cw_Plan cI cZ cO apl pl ++ cw_Board cI cZ cO abd apl bd ++ cw_Locks cI cZ cO alk lk ++ cw_Trial cI cZ cO atr apl atb tr ++ cw_Board cI cZ cO atb apl tb) U.heap ∧ va_K (dC, dI) vwCl [(cI, .int), (cZ, .boolean), (cO, .array .int)] U ∧ va_D (fun _ => True) (cw_Main cI cZ cO amn apl abd alk atr mn lt ++ cw_Plan cI cZ cO apl pl ++ cw_Board cI cZ cO abd apl bd ++ cw_Locks cI cZ cO alk lk ++ cw_Trial cI cZ cO atr apl atb tr ++ cw_Board cI cZ cO atb apl tb))) (pq_Main_waitForEvent dC dI cI cZ cO amn apl abd alk atr atb mn lt pl bd lk tr tb x1 (va_A (cw_Main cI cZ cO amn apl abd alk atr mn lt ++ cw_Plan cI cZ cO apl pl ++ cw_Board cI cZ cO abd apl bd ++ cw_Locks cI cZ cO alk lk ++ cw_Trial cI cZ cO atr apl atb tr ++ cw_Board cI cZ cO atb apl tb) sz)) 0 0 (va_A (cw_Main cI cZ cO amn apl abd alk atr mn lt ++ cw_Plan cI cZ cO apl pl ++ cw_Board cI cZ cO abd apl bd ++ cw_Locks cI cZ cO alk lk ++ cw_Trial cI cZ cO atr apl atb tr ++ cw_Board cI cZ cO atb apl tb) sz) := by
  refine Met.ofW (cc := prog_1_method_22_code) (maxL := 2) (ret := (some .int)) (by decide) rfl ?_
  intro p e s m args below meth c s₁ B hml hv
  obtain ⟨rfl, hsz, hP, hK, hD0⟩ := hv
  have hx := B.exec
  have hb := B.bytes
  have hr := B.returns
  have hts0 := atoms_spec (ws := nw_Main_waitForEvent) B.pre
  have hts : ∀ w ∈ ng_tbl, w.before ([.ref (amn 0), .int x1] : List Value).toArray s = true := fun w h => hts0 w (List.mem_cons_of_mem _ h)
  have hown : s.vm.findClass "CeilingRows" = some m.cls := findClass_of_methodNamed B.named
  have hlocks := B.notSynchronized
  subst hsz
  have hD := hD0.self (sz := s.heap.size)
  generalize hAe : va_A (cw_Main cI cZ cO amn apl abd alk atr mn lt ++ cw_Plan cI cZ cO apl pl ++ cw_Board cI cZ cO abd apl bd ++ cw_Locks cI cZ cO alk lk ++ cw_Trial cI cZ cO atr apl atb tr ++ cw_Board cI cZ cO atb apl tb) s.heap.size = A at hD ⊢
  have hA : ∀ q : Nat, s.heap.size ≤ q → A q := fun q h => by rw [← hAe]; exact Or.inr h
  have hS : va_S A s.heap s.heap [] := va_S.rf
  have hP : va_P (dC, dI) vwCl (cw_Main cI cZ cO amn apl abd alk atr mn lt ++ cw_Plan cI cZ cO apl pl ++ cw_Board cI cZ cO abd apl bd ++ cw_Locks cI cZ cO alk lk ++ cw_Trial cI cZ cO atr apl atb tr ++ cw_Board cI cZ cO atb apl tb) s.heap := hP
  have hl := lv_entry ([.ref (amn 0), .int x1]) (n := 2) (Nat.le_of_ble_eq_true rfl)
  rw [lg_entry_eq]
  generalize (lg_sl ([.ref (amn 0), .int x1]) ++ List.replicate (2 - (lg_sl ([.ref (amn 0), .int x1])).length) Slot.unset).toArray = ls at hl ⊢
  have hl : lv_has ls 2 [(0, .ref (amn 0)), (1, .int x1)] := hl
  have f0_pl_0 := cr_rfo hR_pl.1
  have f0_pl_1 := cr_rfo hR_pl.2.1
  have k_m15 : (-15 : Int32).toInt = -15 := by decide
  have k_0 : (0 : Int32).toInt = 0 := by decide
  have k_1 : (1 : Int32).toInt = 1 := by decide
  have k_2 : (2 : Int32).toInt = 2 := by decide
  obtain ⟨tgt, hT⟩ : ∃ z, md_Main_waitForEvent mn lt pl bd lk tr tb x1 = z := ⟨_, rfl⟩
  have hM := hT
  unfold md_Main_waitForEvent at hM
  refine lv_aload_n hx hb nd_Main_waitForEvent_0 rfl (lv_at hl 0 rfl) ?_
  refine va_get (D := (dC, dI)) (ci := 4) (v := .ref (abd 0)) (C := "CeilingRows") (T := nf_Main) (N := 6) hx hb hts nin_Main hown hK hP 0 rfl rfl 1 (by decide) (hts _ tw_139) (fun _ h9 => h9) rfl nd_Main_waitForEvent_1 ?_
  refine lv_iload_n hx hb nd_Main_waitForEvent_4 rfl (lv_at hl 1 rfl) ?_
  have hPc := hP.sub (ws' := cw_Plan cI cZ cO apl pl ++ cw_Board cI cZ cO abd apl bd) [2, 3, 4, 5, 6, 7, 8, 9, 10, 11, 12, 13, 14, 15, 16, 17, 18, 19, 20, 21, 22, 23, 24] rfl
  have hDc := hD.sub (ws' := cw_Plan cI cZ cO apl pl ++ cw_Board cI cZ cO abd apl bd) [2, 3, 4, 5, 6, 7, 8, 9, 10, 11, 12, 13, 14, 15, 16, 17, 18, 19, 20, 21, 22, 23, 24] (by decide) rfl
  have hFc := va_free (wc := cw_Plan cI cZ cO apl pl ++ cw_Board cI cZ cO abd apl bd) hD hS hA [2, 3, 4, 5, 6, 7, 8, 9, 10, 11, 12, 13, 14, 15, 16, 17, 18, 19, 20, 21, 22, 23, 24] rfl
  refine va_calli (va_runV (As := [.int x1]) (rest := []) ⟨hx, hb, hml, hown, hts⟩ (ct_Board_holdsAny l dC dI cI cZ cO apl abd s.heap.size pl bd x1 hR_bd hR_pl (by omega)) (cwV 1 hts (ng_V tw_271 tw_272 tw_273 tw_3 tw_274) rfl rfl rfl (by decide +kernel) ⟨Nat.le_of_ble_eq_true rfl, Nat.le_of_ble_eq_true rfl⟩) ⟨fun a U g mk q => by obtain ⟨q0, q1, qP, qK, qD⟩ := q; exact ⟨q0, q1, qP, va_K.moved (u := U) (U := U.calling g mk a) (Vm.Alike.refl U.vm) qK, qD⟩, va_recv hK hPc (ci := 1) (q0 := 17) rfl rfl, fun U hU hW => ⟨rfl, by rw [hU], by rw [hU]; exact hPc, va_K.moved hW.alike hK, hDc.weaken (fun _ _ _ _ => trivial)⟩⟩ rfl rfl hl.1 rfl (lv_room (Nat.le_of_ble_eq_true rfl)) nd_Main_waitForEvent_5 ⟨Nat.zero_le _, Nat.zero_le _⟩) hS (fun q _ h => hFc q h) hFc (fun r_1 u t H1 locs ht hvm hw hB hz1 hk1 hS => ?_)
  obtain ⟨hP1, hK1, hD1⟩ := hB
  rw [ht] at hP1
  have w_2 := hw
  try rw [← w_2] at hM
  obtain ⟨hP, hD⟩ := va_join (wr := cw_Main cI cZ cO amn apl abd alk atr mn lt ++ cw_Locks cI cZ cO alk lk ++ cw_Trial cI cZ cO atr apl atb tr ++ cw_Board cI cZ cO atb apl tb) (w1 := cw_Plan cI cZ cO apl pl ++ cw_Board cI cZ cO abd apl bd) hP hD [2, 3, 4, 5, 6, 7, 8, 9, 10, 11, 12, 13, 14, 15, 16, 17, 18, 19, 20, 21, 22, 23, 24] [0, 1, 25, 26, 27, 28, 29, 30, 31, 32, 33, 34, 35, 36, 37, 38, 39, 40, 41, 42, 43, 44, 45, 46, 47, 48] rfl rfl (by decide) (by decide) hk1 hFc hP1 hD1
  have hP := hP.sub (ws' := cw_Main cI cZ cO amn apl abd alk atr mn lt ++ cw_Plan cI cZ cO apl pl ++ cw_Board cI cZ cO abd apl bd ++ cw_Locks cI cZ cO alk lk ++ cw_Trial cI cZ cO atr apl atb tr ++ cw_Board cI cZ cO atb apl tb) [0, 1, 26, 27, 28, 29, 30, 31, 32, 33, 34, 35, 36, 37, 38, 39, 40, 41, 42, 43, 44, 45, 46, 47, 48, 2, 3, 4, 5, 6, 7, 8, 9, 10, 11, 12, 13, 14, 15, 16, 17, 18, 19, 20, 21, 22, 23, 24, 25] rfl
  have hD := hD.sub (ws' := cw_Main cI cZ cO amn apl abd alk atr mn lt ++ cw_Plan cI cZ cO apl pl ++ cw_Board cI cZ cO abd apl bd ++ cw_Locks cI cZ cO alk lk ++ cw_Trial cI cZ cO atr apl atb tr ++ cw_Board cI cZ cO atb apl tb) [0, 1, 26, 27, 28, 29, 30, 31, 32, 33, 34, 35, 36, 37, 38, 39, 40, 41, 42, 43, 44, 45, 46, 47, 48, 2, 3, 4, 5, 6, 7, 8, 9, 10, 11, 12, 13, 14, 15, 16, 17, 18, 19, 20, 21, 22, 23, 24, 25] (by decide) rfl
  generalize H1 = H at hP hS ⊢
  refine lv_if_eq (tgt := 14) hx hb nd_Main_waitForEvent_8 (by decide) (fun c_3 => ?_) (fun c_3 => ?_)
  · have c_3t := cr_eq c_3
    rw [if_pos c_3] at hM
    refine lv_aload_n hx hb nd_Main_waitForEvent_14 rfl (lv_at hl 0 rfl) ?_
    refine va_get (D := (dC, dI)) (ci := 4) (v := .ref (amn 1)) (C := "CeilingRows") (T := nf_Main) (N := 6) hx hb hts nin_Main hown hK hP 0 rfl rfl 4 (by decide) (hts _ tw_142) (fun _ h9 => h9) rfl nd_Main_waitForEvent_15 ?_
    refine lv_iload_n hx hb nd_Main_waitForEvent_18 rfl (lv_at hl 1 rfl) ?_
    have b_4 : vp_in x1 11 := vp_in_iff.mpr (by omega)
    refine va_zald hx hb hK hP 1 1 rfl rfl b_4 nd_Main_waitForEvent_19 ?_
    refine lv_if_eq (tgt := 32) hx hb nd_Main_waitForEvent_20 (by decide) (fun c_5 => ?_) (fun c_5 => ?_)
    · have c_5t := cr_eq c_5
      rw [if_pos c_5] at hM
      refine lv_aload_n hx hb nd_Main_waitForEvent_32 rfl (lv_at hl 0 rfl) ?_
      refine va_get (D := (dC, dI)) (ci := 4) (v := .ref (abd 0)) (C := "CeilingRows") (T := nf_Main) (N := 6) hx hb hts nin_Main hown hK hP 0 rfl rfl 1 (by decide) (hts _ tw_139) (fun _ h9 => h9) rfl nd_Main_waitForEvent_33 ?_
      refine va_get (D := (dC, dI)) (ci := 1) (v := .ref (abd 1)) (C := "CeilingRows$Board") (T := nf_Board) (N := 7) hx hb hts nin_Board hown hK hP 19 rfl rfl 1 (by decide) (hts _ tw_70) (fun _ h9 => h9) rfl nd_Main_waitForEvent_36 ?_
      refine lv_iload_n hx hb nd_Main_waitForEvent_39 rfl (lv_at hl 1 rfl) ?_
      refine lv_iconst (v := 2) hx hb nd_Main_waitForEvent_40 (by decide) ?_
      have b_6 : vp_in x1 11 := vp_in_iff.mpr (by omega)
      refine va_iast hx hb hK hP hD hS 20 0 rfl rfl b_6 nd_Main_waitForEvent_41 (fun H locs hP hD hS => ?_)
      have hP : va_P (dC, dI) vwCl (cw_Main cI cZ cO amn apl abd alk atr mn lt ++ cw_Plan cI cZ cO apl pl ++ cw_Board cI cZ cO abd apl (cr_up bd 1 x1.toNatClampNeg (2 : Int32)) ++ cw_Locks cI cZ cO alk lk ++ cw_Trial cI cZ cO atr apl atb tr ++ cw_Board cI cZ cO atb apl tb) H := hP
      have hD : va_D A (cw_Main cI cZ cO amn apl abd alk atr mn lt ++ cw_Plan cI cZ cO apl pl ++ cw_Board cI cZ cO abd apl (cr_up bd 1 x1.toNatClampNeg (2 : Int32)) ++ cw_Locks cI cZ cO alk lk ++ cw_Trial cI cZ cO atr apl atb tr ++ cw_Board cI cZ cO atb apl tb) := hD
      have hR_7 : cr_RBoard (cr_up bd 1 x1.toNatClampNeg (2 : Int32)) := ⟨cr_rg_up hR_bd.1 (fun e => absurd e (by decide)), cr_rg_up hR_bd.2 (fun e => absurd e (by decide))⟩
      obtain ⟨bdq_8, hbdq_8⟩ : ∃ z, (cr_up bd 1 x1.toNatClampNeg (2 : Int32)) = z := ⟨_, rfl⟩
      rw [hbdq_8] at hP hD hR_7
      try rw [hbdq_8] at hM
      refine lv_iconst (v := 0) hx hb nd_Main_waitForEvent_42 (by decide) ?_
      exact W.iret (v := (0 : Int32)) hx hb hr (fun t ht hW => ⟨⟨(0 : Int32), (mn, lt, bdq_8), rfl, ⟨by rw [hT, ← hM], by rw [hT, ← hM], by rw [hT, ← hM], by rw [hT, ← hM], hR_7⟩, by rw [ht]; exact hP, va_K.moved hW.alike hK, hD⟩, hS.F ht⟩) hS.2.2 nd_Main_waitForEvent_43
    · have c_5t := cr_ne c_5
      rw [if_neg c_5] at hM
      refine lv_aload_n hx hb nd_Main_waitForEvent_23 rfl (lv_at hl 0 rfl) ?_
      refine va_get (D := (dC, dI)) (ci := 4) (v := .ref (amn 1)) (C := "CeilingRows") (T := nf_Main) (N := 6) hx hb hts nin_Main hown hK hP 0 rfl rfl 4 (by decide) (hts _ tw_142) (fun _ h9 => h9) rfl nd_Main_waitForEvent_24 ?_
      refine lv_iload_n hx hb nd_Main_waitForEvent_27 rfl (lv_at hl 1 rfl) ?_
      refine lv_iconst (v := 0) hx hb nd_Main_waitForEvent_28 (by decide) ?_
      have b_9 : vp_in x1 11 := vp_in_iff.mpr (by omega)
      refine va_zast hx hb hK hP hD hS 1 1 rfl rfl b_9 nd_Main_waitForEvent_29 (fun H locs hP hD hS => ?_)
      rw [show vp_nar .boolean (0 : Int32) = (0 : Int32) by decide] at hP hD
      have hP : va_P (dC, dI) vwCl (cw_Main cI cZ cO amn apl abd alk atr (cr_up mn 1 x1.toNatClampNeg (0 : Int32)) lt ++ cw_Plan cI cZ cO apl pl ++ cw_Board cI cZ cO abd apl bd ++ cw_Locks cI cZ cO alk lk ++ cw_Trial cI cZ cO atr apl atb tr ++ cw_Board cI cZ cO atb apl tb) H := hP
      have hD : va_D A (cw_Main cI cZ cO amn apl abd alk atr (cr_up mn 1 x1.toNatClampNeg (0 : Int32)) lt ++ cw_Plan cI cZ cO apl pl ++ cw_Board cI cZ cO abd apl bd ++ cw_Locks cI cZ cO alk lk ++ cw_Trial cI cZ cO atr apl atb tr ++ cw_Board cI cZ cO atb apl tb) := hD
      obtain ⟨mnq_10, hmnq_10⟩ : ∃ z, (cr_up mn 1 x1.toNatClampNeg (0 : Int32)) = z := ⟨_, rfl⟩
      rw [hmnq_10] at hP hD
      try rw [hmnq_10] at hM
      refine lv_iconst (v := 1) hx hb nd_Main_waitForEvent_30 (by decide) ?_
      exact W.iret (v := (1 : Int32)) hx hb hr (fun t ht hW => ⟨⟨(1 : Int32), (mnq_10, lt, bd), rfl, ⟨by rw [hT, ← hM], by rw [hT, ← hM], by rw [hT, ← hM], by rw [hT, ← hM], hR_bd⟩, by rw [ht]; exact hP, va_K.moved hW.alike hK, hD⟩, hS.F ht⟩) hS.2.2 nd_Main_waitForEvent_31
  · have c_3t := cr_ne c_3
    rw [if_neg c_3] at hM
    refine lv_bipush (v := -15) hx hb nd_Main_waitForEvent_11 (by decide) ?_
    exact W.iret (v := (-15 : Int32)) hx hb hr (fun t ht hW => ⟨⟨(-15 : Int32), (mn, lt, bd), rfl, ⟨by rw [hT, ← hM], by rw [hT, ← hM], by rw [hT, ← hM], by rw [hT, ← hM], hR_bd⟩, by rw [ht]; exact hP, va_K.moved hW.alike hK, hD⟩, hS.F ht⟩) hS.2.2 nd_Main_waitForEvent_13
