theorem nd_Locks_spins_0 : decode prog_3_method_2_code 0 = .ok (.aload_n 0, 1) := by decide +kernel
theorem nd_Locks_spins_1 : decode prog_3_method_2_code 1 = .ok (.getfield 15, 3) := by decide +kernel
theorem nd_Locks_spins_4 : decode prog_3_method_2_code 4 = .ok (.iload_n 1, 1) := by decide +kernel
theorem nd_Locks_spins_5 : decode prog_3_method_2_code 5 = .ok (.iaload, 1) := by decide +kernel
theorem nd_Locks_spins_6 : decode prog_3_method_2_code 6 = .ok (.ifCond .eq (7), 3) := by decide +kernel
theorem nd_Locks_spins_9 : decode prog_3_method_2_code 9 = .ok (.iconst 1, 1) := by decide +kernel
theorem nd_Locks_spins_10 : decode prog_3_method_2_code 10 = .ok (.goto (4), 3) := by decide +kernel
theorem nd_Locks_spins_13 : decode prog_3_method_2_code 13 = .ok (.iconst 0, 1) := by decide +kernel
theorem nd_Locks_spins_14 : decode prog_3_method_2_code 14 = .ok (.ireturn, 1) := by decide +kernel
abbrev pq_Locks_spins (dC : Nat → ClassId) (dI : Nat → Nat → Nat) (cI cZ cO : ClassId) (alk : Nat → Nat) (lk : cr_S) (x1 : Int32) (A : Nat → Prop) : Array Value → State → Outcome → State → Prop :=
  va_Qi (fun (r : Int32) (_ : Unit) => r = md_Locks_spins lk x1) (fun (_ : Unit) t => va_P (dC, dI) vwCl (cw_Locks cI cZ cO alk lk) t.heap ∧ va_K (dC, dI) vwCl [(cI, .int), (cZ, .boolean), (cO, .array .int)] t ∧ va_D A (cw_Locks cI cZ cO alk lk)) A
set_option maxHeartbeats 4000000 in
set_option maxRecDepth 100000 in
theorem ct_Locks_spins (l : Launch) (dC : Nat → ClassId) (dI : Nat → Nat → Nat) (cI cZ cO : ClassId) (alk : Nat → Nat) (sz : Nat) (lk : cr_S) (x1 : Int32) (hR_lk : cr_RLocks lk) (hx1 : 0 ≤ x1.toInt ∧ x1.toInt ≤ 3) : Met l ny_Locks_spins nw_Locks_spins ({ frames := 0, cells := 0, slots := 0, locals := 0 } : Room) (va_Pc [.ref (alk 0), .int x1] (fun U => U.heap.size = sz ∧ va_P (dC, dI) vwCl (cw_Locks cI cZ cO alk lk) U.heap ∧ va_K (dC, dI) vwCl [(cI, .int), (cZ, .boolean), (cO, .array .int)] U ∧ va_D (fun _ => True) (cw_Locks cI cZ cO alk lk))) (pq_Locks_spins dC dI cI cZ cO alk lk x1 (va_A (cw_Locks cI cZ cO alk lk) sz)) 0 0 (va_A (cw_Locks cI cZ cO alk lk) sz) := by
  refine Met.ofW (cc := prog_3_method_2_code) (maxL := 2) (ret := (some .boolean)) (by decide) rfl ?_
  intro p e s m args below meth c s₁ B hml hv
  obtain ⟨rfl, hsz, hP, hK, hD0⟩ := hv
  have hx := B.exec
  have hb := B.bytes
  have hr := B.returns
  have hts0 := atoms_spec (ws := nw_Locks_spins) B.pre
  have hts : ∀ w ∈ ng_tbl, w.before ([.ref (alk 0), .int x1] : List Value).toArray s = true := fun w h => hts0 w (List.mem_cons_of_mem _ h)
  have hown : s.vm.findClass "CeilingRows$Locks" = some m.cls := findClass_of_methodNamed B.named
  have hlocks := B.notSynchronized
  subst hsz
  have hD := hD0.self (sz := s.heap.size)
  generalize hAe : va_A (cw_Locks cI cZ cO alk lk) s.heap.size = A at hD ⊢
  have hA : ∀ q : Nat, s.heap.size ≤ q → A q := fun q h => by rw [← hAe]; exact Or.inr h
  have hS : va_S A s.heap s.heap [] := va_S.rf
  have hP : va_P (dC, dI) vwCl (cw_Locks cI cZ cO alk lk) s.heap := hP
  have hl := lv_entry ([.ref (alk 0), .int x1]) (n := 2) (Nat.le_of_ble_eq_true rfl)
  rw [lg_entry_eq]
  generalize (lg_sl ([.ref (alk 0), .int x1]) ++ List.replicate (2 - (lg_sl ([.ref (alk 0), .int x1])).length) Slot.unset).toArray = ls at hl ⊢
  have hl : lv_has ls 2 [(0, .ref (alk 0)), (1, .int x1)] := hl
  have k_0 : (0 : Int32).toInt = 0 := by decide
  have k_1 : (1 : Int32).toInt = 1 := by decide
  obtain ⟨tgt, hT⟩ : ∃ z, md_Locks_spins lk x1 = z := ⟨_, rfl⟩
  have hM := hT
  unfold md_Locks_spins at hM
  refine lv_aload_n hx hb nd_Locks_spins_0 rfl (lv_at hl 0 rfl) ?_
  refine va_get (D := (dC, dI)) (ci := 2) (v := .ref (alk 2)) (C := "CeilingRows$Locks") (T := nf_Locks) (N := 4) hx hb hts nin_Locks hown hK hP 0 rfl rfl 1 (by decide) (hts _ tw_101) (fun _ h9 => h9) rfl nd_Locks_spins_1 ?_
  refine lv_iload_n hx hb nd_Locks_spins_4 rfl (lv_at hl 1 rfl) ?_
  have b_1 : vp_in x1 4 := vp_in_iff.mpr (by omega)
  refine va_iald hx hb hK hP 2 0 rfl rfl b_1 nd_Locks_spins_5 ?_
  have f_2 := cr_rgo hR_lk.2 (x1.toNatClampNeg)
  refine lv_if_eq (tgt := 13) hx hb nd_Locks_spins_6 (by decide) (fun c_3 => ?_) (fun c_3 => ?_)
  · have c_3t := cr_eq c_3
    rw [if_pos c_3] at hM
    refine lv_iconst (v := 0) hx hb nd_Locks_spins_13 (by decide) ?_
    exact W.zret (v := (0 : Int32)) (ty := .boolean) hx hb hr (by decide) (fun t ht hW => ⟨⟨(0 : Int32), (), rfl, by rw [hT, ← hM], by rw [ht]; exact hP, va_K.moved hW.alike hK, hD⟩, hS.F ht⟩) hS.2.2 nd_Locks_spins_14
  · have c_3t := cr_ne c_3
    rw [if_neg c_3] at hM
    refine lv_iconst (v := 1) hx hb nd_Locks_spins_9 (by decide) ?_
    refine lv_goto (tgt := 14) hx hb nd_Locks_spins_10 (by decide) ?_
    exact W.zret (v := (1 : Int32)) (ty := .boolean) hx hb hr (by decide) (fun t ht hW => ⟨⟨(1 : Int32), (), rfl, by rw [hT, ← hM], by rw [ht]; exact hP, va_K.moved hW.alike hK, hD⟩, hS.F ht⟩) hS.2.2 nd_Locks_spins_14

theorem nd_Locks_lastTakenBy_0 : decode prog_3_method_3_code 0 = .ok (.bipush 8, 2) := by decide +kernel
theorem nd_Locks_lastTakenBy_2 : decode prog_3_method_3_code 2 = .ok (.istore_n 2, 1) := by decide +kernel
theorem nd_Locks_lastTakenBy_3 : decode prog_3_method_3_code 3 = .ok (.iload_n 2, 1) := by decide +kernel
theorem nd_Locks_lastTakenBy_4 : decode prog_3_method_3_code 4 = .ok (.iconst 1, 1) := by decide +kernel
theorem nd_Locks_lastTakenBy_5 : decode prog_3_method_3_code 5 = .ok (.if_icmp .lt (21), 3) := by decide +kernel
theorem nd_Locks_lastTakenBy_8 : decode prog_3_method_3_code 8 = .ok (.aload_n 0, 1) := by decide +kernel
theorem nd_Locks_lastTakenBy_9 : decode prog_3_method_3_code 9 = .ok (.getfield 9, 3) := by decide +kernel
theorem nd_Locks_lastTakenBy_12 : decode prog_3_method_3_code 12 = .ok (.iload_n 2, 1) := by decide +kernel
theorem nd_Locks_lastTakenBy_13 : decode prog_3_method_3_code 13 = .ok (.iaload, 1) := by decide +kernel
theorem nd_Locks_lastTakenBy_14 : decode prog_3_method_3_code 14 = .ok (.iload_n 1, 1) := by decide +kernel
theorem nd_Locks_lastTakenBy_15 : decode prog_3_method_3_code 15 = .ok (.if_icmp .ne (5), 3) := by decide +kernel
theorem nd_Locks_lastTakenBy_18 : decode prog_3_method_3_code 18 = .ok (.iload_n 2, 1) := by decide +kernel
theorem nd_Locks_lastTakenBy_19 : decode prog_3_method_3_code 19 = .ok (.ireturn, 1) := by decide +kernel
theorem nd_Locks_lastTakenBy_20 : decode prog_3_method_3_code 20 = .ok (.iinc 2 (-1), 3) := by decide +kernel
theorem nd_Locks_lastTakenBy_23 : decode prog_3_method_3_code 23 = .ok (.goto (-20), 3) := by decide +kernel
theorem nd_Locks_lastTakenBy_26 : decode prog_3_method_3_code 26 = .ok (.iconst 0, 1) := by decide +kernel
theorem nd_Locks_lastTakenBy_27 : decode prog_3_method_3_code 27 = .ok (.ireturn, 1) := by decide +kernel
abbrev pq_Locks_lastTakenBy (dC : Nat → ClassId) (dI : Nat → Nat → Nat) (cI cZ cO : ClassId) (alk : Nat → Nat) (lk : cr_S) (x1 : Int32) (A : Nat → Prop) : Array Value → State → Outcome → State → Prop :=
  va_Qi (fun (r : Int32) (_ : Unit) => r = md_Locks_lastTakenBy lk x1 ∧ (0 ≤ r.toInt ∧ r.toInt ≤ 8)) (fun (_ : Unit) t => va_P (dC, dI) vwCl (cw_Locks cI cZ cO alk lk) t.heap ∧ va_K (dC, dI) vwCl [(cI, .int), (cZ, .boolean), (cO, .array .int)] t ∧ va_D A (cw_Locks cI cZ cO alk lk)) A
set_option maxHeartbeats 4000000 in
set_option maxRecDepth 100000 in
theorem ct_Locks_lastTakenBy (l : Launch) (dC : Nat → ClassId) (dI : Nat → Nat → Nat) (cI cZ cO : ClassId) (alk : Nat → Nat) (sz : Nat) (lk : cr_S) (x1 : Int32) (hR_lk : cr_RLocks lk) : Met l ny_Locks_lastTakenBy nw_Locks_lastTakenBy ({ frames := 0, cells := 0, slots := 0, locals := 0 } : Room) (va_Pc [.ref (alk 0), .int x1] (fun U => U.heap.size = sz ∧ va_P (dC, dI) vwCl (cw_Locks cI cZ cO alk lk) U.heap ∧ va_K (dC, dI) vwCl [(cI, .int), (cZ, .boolean), (cO, .array .int)] U ∧ va_D (fun _ => True) (cw_Locks cI cZ cO alk lk))) (pq_Locks_lastTakenBy dC dI cI cZ cO alk lk x1 (va_A (cw_Locks cI cZ cO alk lk) sz)) 0 0 (va_A (cw_Locks cI cZ cO alk lk) sz) := by
  refine Met.ofW (cc := prog_3_method_3_code) (maxL := 3) (ret := (some .int)) (by decide) rfl ?_
  intro p e s m args below meth c s₁ B hml hv
  obtain ⟨rfl, hsz, hP, hK, hD0⟩ := hv
  have hx := B.exec
  have hb := B.bytes
  have hr := B.returns
  have hts0 := atoms_spec (ws := nw_Locks_lastTakenBy) B.pre
  have hts : ∀ w ∈ ng_tbl, w.before ([.ref (alk 0), .int x1] : List Value).toArray s = true := fun w h => hts0 w (List.mem_cons_of_mem _ h)
  have hown : s.vm.findClass "CeilingRows$Locks" = some m.cls := findClass_of_methodNamed B.named
  have hlocks := B.notSynchronized
  subst hsz
  have hD := hD0.self (sz := s.heap.size)
  generalize hAe : va_A (cw_Locks cI cZ cO alk lk) s.heap.size = A at hD ⊢
  have hA : ∀ q : Nat, s.heap.size ≤ q → A q := fun q h => by rw [← hAe]; exact Or.inr h
  have hS : va_S A s.heap s.heap [] := va_S.rf
  have hP : va_P (dC, dI) vwCl (cw_Locks cI cZ cO alk lk) s.heap := hP
  have hl := lv_entry ([.ref (alk 0), .int x1]) (n := 3) (Nat.le_of_ble_eq_true rfl)
  rw [lg_entry_eq]
  generalize (lg_sl ([.ref (alk 0), .int x1]) ++ List.replicate (3 - (lg_sl ([.ref (alk 0), .int x1])).length) Slot.unset).toArray = ls at hl ⊢
  have hl : lv_has ls 3 [(0, .ref (alk 0)), (1, .int x1)] := hl
  have k_m1 : (-1 : Int32).toInt = -1 := by decide
  have k_0 : (0 : Int32).toInt = 0 := by decide
  have k_1 : (1 : Int32).toInt = 1 := by decide
  have k_8 : (8 : Int32).toInt = 8 := by decide
  obtain ⟨tgt, hT⟩ : ∃ z, md_Locks_lastTakenBy lk x1 = z := ⟨_, rfl⟩
  have hM := hT
  unfold md_Locks_lastTakenBy at hM
  refine lv_bipush (v := 8) hx hb nd_Locks_lastTakenBy_0 (by decide) ?_
  refine lv_istore_n (lv' := [(2, .int (8 : Int32)), (0, .ref (alk 0)), (1, .int x1)]) hx hb nd_Locks_lastTakenBy_2 rfl hl (by decide) rfl (fun ls hl => ?_)
  have hl := lv_sub hl [1, 2, 0] rfl
  have lp_3 : ∀ (n_3 : Nat) (v2_3 : Int32), (0 ≤ v2_3.toInt ∧ v2_3.toInt ≤ 8) → (v2_3.toInt < (n_3 : Int)) → lo_Locks_lastTakenBy_3 lk x1 n_3 v2_3 = tgt → ∀ (H : Heap) (locs : List Loc), va_P (dC, dI) vwCl (cw_Locks cI cZ cO alk lk) H → va_D A (cw_Locks cI cZ cO alk lk) → va_S A s.heap H locs → ∀ ls : Array Slot, lv_has ls 3 [(0, .ref (alk 0)), (1, .int x1), (2, .int v2_3)] → W p l e (headSpec nw_Locks_lastTakenBy ({ frames := 0, cells := 0, slots := 0, locals := 0 } : Room)).room s m ([.ref (alk 0), .int x1] : List Value).toArray below meth c H locs 0 0 (MQ below (pq_Locks_lastTakenBy dC dI cI cZ cO alk lk x1 A) ([.ref (alk 0), .int x1] : List Value).toArray s 0 0 A) (F0 m 3 ls []) := by
    intro n_3
    induction n_3 with
    | zero =>
      intro v2_3 hv2_3 hn_3
      exfalso; omega
    | succ n_3 ih_3 =>
      intro v2_3 hv2_3 hn_3 hM H locs hP hD hS ls hl
      have hn_3 : v2_3.toInt < ((n_3 : Int) + 1) := by omega
      rw [lo_Locks_lastTakenBy_3] at hM
      refine lv_iload_n hx hb nd_Locks_lastTakenBy_3 rfl (lv_at hl 2 rfl) ?_
      refine lv_iconst (v := 1) hx hb nd_Locks_lastTakenBy_4 (by decide) ?_
      refine lv_icmp_lt (tgt := 26) hx hb nd_Locks_lastTakenBy_5 (by decide) (fun c_1 => ?_) (fun c_1 => ?_)
      · have c_1t := cr_lt c_1
        rw [if_pos c_1] at hM
        refine lv_iconst (v := 0) hx hb nd_Locks_lastTakenBy_26 (by decide) ?_
        exact W.iret (v := (0 : Int32)) hx hb hr (fun t ht hW => ⟨⟨(0 : Int32), (), rfl, ⟨by rw [hT, ← hM], by omega⟩, by rw [ht]; exact hP, va_K.moved hW.alike hK, hD⟩, hS.F ht⟩) hS.2.2 nd_Locks_lastTakenBy_27
      · have c_1t := cr_nlt c_1
        rw [if_neg c_1] at hM
        refine lv_aload_n hx hb nd_Locks_lastTakenBy_8 rfl (lv_at hl 0 rfl) ?_
        refine va_get (D := (dC, dI)) (ci := 2) (v := .ref (alk 1)) (C := "CeilingRows$Locks") (T := nf_Locks) (N := 4) hx hb hts nin_Locks hown hK hP 0 rfl rfl 0 (by decide) (hts _ tw_100) (fun _ h9 => h9) rfl nd_Locks_lastTakenBy_9 ?_
        refine lv_iload_n hx hb nd_Locks_lastTakenBy_12 rfl (lv_at hl 2 rfl) ?_
        have b_2 : vp_in v2_3 9 := vp_in_iff.mpr (by omega)
        refine va_iald hx hb hK hP 1 0 rfl rfl b_2 nd_Locks_lastTakenBy_13 ?_
        have f_3 := cr_rgo hR_lk.1 (v2_3.toNatClampNeg)
        refine lv_iload_n hx hb nd_Locks_lastTakenBy_14 rfl (lv_at hl 1 rfl) ?_
        refine lv_icmp_ne (tgt := 20) hx hb nd_Locks_lastTakenBy_15 (by decide) (fun c_4 => ?_) (fun c_4 => ?_)
        · have c_4t := cr_ne c_4
          rw [if_neg c_4] at hM
          have e_5 : (v2_3 + (-1 : Int32)).toInt = v2_3.toInt + (-1 : Int32).toInt := cr_add (by omega)
          refine lv_iinc (v := (v2_3 + (-1 : Int32))) (lv' := [(2, .int (v2_3 + (-1 : Int32))), (0, .ref (alk 0)), (1, .int x1)]) hx hb nd_Locks_lastTakenBy_20 hl (k := 2) rfl (by rfl) (by decide) rfl (fun ls hl => ?_)
          refine lv_goto (tgt := 3) hx hb nd_Locks_lastTakenBy_23 (by decide) ?_
          exact ih_3 (v2_3 + (-1 : Int32)) (by omega) (by omega) hM _ _ hP hD hS _ (lv_sub hl [1, 2, 0] rfl)
        · have c_4t := cr_eq c_4
          rw [if_pos c_4] at hM
          refine lv_iload_n hx hb nd_Locks_lastTakenBy_18 rfl (lv_at hl 2 rfl) ?_
          exact W.iret (v := v2_3) hx hb hr (fun t ht hW => ⟨⟨v2_3, (), rfl, ⟨by rw [hT, ← hM], by omega⟩, by rw [ht]; exact hP, va_K.moved hW.alike hK, hD⟩, hS.F ht⟩) hS.2.2 nd_Locks_lastTakenBy_19
  exact lp_3 9 (8 : Int32) (by omega) (by omega) hM _ _ hP hD hS _ hl

theorem nd_Locks_acquire_0 : decode prog_3_method_4_code 0 = .ok (.iload_n 2, 1) := by decide +kernel
theorem nd_Locks_acquire_1 : decode prog_3_method_4_code 1 = .ok (.aload_n 0, 1) := by decide +kernel
theorem nd_Locks_acquire_2 : decode prog_3_method_4_code 2 = .ok (.iload_n 1, 1) := by decide +kernel
theorem nd_Locks_acquire_3 : decode prog_3_method_4_code 3 = .ok (.invokevirtual 21, 3) := by decide +kernel
theorem nd_Locks_acquire_6 : decode prog_3_method_4_code 6 = .ok (.if_icmp .gt (6), 3) := by decide +kernel
theorem nd_Locks_acquire_9 : decode prog_3_method_4_code 9 = .ok (.bipush (-16), 2) := by decide +kernel
theorem nd_Locks_acquire_11 : decode prog_3_method_4_code 11 = .ok (.ireturn, 1) := by decide +kernel
theorem nd_Locks_acquire_12 : decode prog_3_method_4_code 12 = .ok (.aload_n 0, 1) := by decide +kernel
theorem nd_Locks_acquire_13 : decode prog_3_method_4_code 13 = .ok (.getfield 9, 3) := by decide +kernel
theorem nd_Locks_acquire_16 : decode prog_3_method_4_code 16 = .ok (.iload_n 2, 1) := by decide +kernel
theorem nd_Locks_acquire_17 : decode prog_3_method_4_code 17 = .ok (.iaload, 1) := by decide +kernel
theorem nd_Locks_acquire_18 : decode prog_3_method_4_code 18 = .ok (.ifCond .ne (12), 3) := by decide +kernel
theorem nd_Locks_acquire_21 : decode prog_3_method_4_code 21 = .ok (.aload_n 0, 1) := by decide +kernel
theorem nd_Locks_acquire_22 : decode prog_3_method_4_code 22 = .ok (.getfield 9, 3) := by decide +kernel
theorem nd_Locks_acquire_25 : decode prog_3_method_4_code 25 = .ok (.iload_n 2, 1) := by decide +kernel
theorem nd_Locks_acquire_26 : decode prog_3_method_4_code 26 = .ok (.iload_n 1, 1) := by decide +kernel
theorem nd_Locks_acquire_27 : decode prog_3_method_4_code 27 = .ok (.iastore, 1) := by decide +kernel
theorem nd_Locks_acquire_28 : decode prog_3_method_4_code 28 = .ok (.iconst 1, 1) := by decide +kernel
theorem nd_Locks_acquire_29 : decode prog_3_method_4_code 29 = .ok (.ireturn, 1) := by decide +kernel
theorem nd_Locks_acquire_30 : decode prog_3_method_4_code 30 = .ok (.aload_n 0, 1) := by decide +kernel
theorem nd_Locks_acquire_31 : decode prog_3_method_4_code 31 = .ok (.getfield 15, 3) := by decide +kernel
theorem nd_Locks_acquire_34 : decode prog_3_method_4_code 34 = .ok (.iload_n 1, 1) := by decide +kernel
theorem nd_Locks_acquire_35 : decode prog_3_method_4_code 35 = .ok (.iload_n 2, 1) := by decide +kernel
theorem nd_Locks_acquire_36 : decode prog_3_method_4_code 36 = .ok (.iastore, 1) := by decide +kernel
theorem nd_Locks_acquire_37 : decode prog_3_method_4_code 37 = .ok (.aload_n 0, 1) := by decide +kernel
theorem nd_Locks_acquire_38 : decode prog_3_method_4_code 38 = .ok (.dup, 1) := by decide +kernel
theorem nd_Locks_acquire_39 : decode prog_3_method_4_code 39 = .ok (.getfield 25, 3) := by decide +kernel
theorem nd_Locks_acquire_42 : decode prog_3_method_4_code 42 = .ok (.iconst 1, 1) := by decide +kernel
theorem nd_Locks_acquire_43 : decode prog_3_method_4_code 43 = .ok (.iadd, 1) := by decide +kernel
theorem nd_Locks_acquire_44 : decode prog_3_method_4_code 44 = .ok (.putfield 25, 3) := by decide +kernel
theorem nd_Locks_acquire_47 : decode prog_3_method_4_code 47 = .ok (.aload_n 0, 1) := by decide +kernel
theorem nd_Locks_acquire_48 : decode prog_3_method_4_code 48 = .ok (.getfield 18, 3) := by decide +kernel
theorem nd_Locks_acquire_51 : decode prog_3_method_4_code 51 = .ok (.iload_n 1, 1) := by decide +kernel
theorem nd_Locks_acquire_52 : decode prog_3_method_4_code 52 = .ok (.aload_n 0, 1) := by decide +kernel
theorem nd_Locks_acquire_53 : decode prog_3_method_4_code 53 = .ok (.getfield 25, 3) := by decide +kernel
theorem nd_Locks_acquire_56 : decode prog_3_method_4_code 56 = .ok (.iastore, 1) := by decide +kernel
theorem nd_Locks_acquire_57 : decode prog_3_method_4_code 57 = .ok (.iconst 0, 1) := by decide +kernel
theorem nd_Locks_acquire_58 : decode prog_3_method_4_code 58 = .ok (.ireturn, 1) := by decide +kernel
abbrev pq_Locks_acquire (dC : Nat → ClassId) (dI : Nat → Nat → Nat) (cI cZ cO : ClassId) (alk : Nat → Nat) (lk : cr_S) (x1 : Int32) (x2 : Int32) (A : Nat → Prop) : Array Value → State → Outcome → State → Prop :=
  va_Qi (fun (r : Int32) (lk' : cr_S) => r = (md_Locks_acquire lk x1 x2).1 ∧ lk' = (md_Locks_acquire lk x1 x2).2 ∧ cr_RLocks lk') (fun (lk' : cr_S) t => va_P (dC, dI) vwCl (cw_Locks cI cZ cO alk lk') t.heap ∧ va_K (dC, dI) vwCl [(cI, .int), (cZ, .boolean), (cO, .array .int)] t ∧ va_D A (cw_Locks cI cZ cO alk lk')) A
set_option maxHeartbeats 4000000 in
set_option maxRecDepth 100000 in
theorem ct_Locks_acquire (l : Launch) (dC : Nat → ClassId) (dI : Nat → Nat → Nat) (cI cZ cO : ClassId) (alk : Nat → Nat) (sz : Nat) (lk : cr_S) (x1 : Int32) (x2 : Int32) (hR_lk : cr_RLocks lk) (hx1 : 1 ≤ x1.toInt ∧ x1.toInt ≤ 3) (hx2 : 1 ≤ x2.toInt ∧ x2.toInt ≤ 8) : Met l ny_Locks_acquire nw_Locks_acquire ({ frames := 1, cells := 0, slots := 0, locals := 22 } : Room) (va_Pc [.ref (alk 0), .int x1, .int x2] (fun U => U.heap.size = sz ∧ va_P (dC, dI) vwCl (cw_Locks cI cZ cO alk lk) U.heap ∧ va_K (dC, dI) vwCl [(cI, .int), (cZ, .boolean), (cO, .array .int)] U ∧ va_D (fun _ => True) (cw_Locks cI cZ cO alk lk))) (pq_Locks_acquire dC dI cI cZ cO alk lk x1 x2 (va_A (cw_Locks cI cZ cO alk lk) sz)) 0 0 (va_A (cw_Locks cI cZ cO alk lk) sz) := by
  refine Met.ofW (cc := prog_3_method_4_code) (maxL := 3) (ret := (some .int)) (by decide) rfl ?_
  intro p e s m args below meth c s₁ B hml hv
  obtain ⟨rfl, hsz, hP, hK, hD0⟩ := hv
  have hx := B.exec
  have hb := B.bytes
  have hr := B.returns
  have hts0 := atoms_spec (ws := nw_Locks_acquire) B.pre
  have hts : ∀ w ∈ ng_tbl, w.before ([.ref (alk 0), .int x1, .int x2] : List Value).toArray s = true := fun w h => hts0 w (List.mem_cons_of_mem _ h)
  have hown : s.vm.findClass "CeilingRows$Locks" = some m.cls := findClass_of_methodNamed B.named
  have hlocks := B.notSynchronized
  subst hsz
  have hD := hD0.self (sz := s.heap.size)
  generalize hAe : va_A (cw_Locks cI cZ cO alk lk) s.heap.size = A at hD ⊢
  have hA : ∀ q : Nat, s.heap.size ≤ q → A q := fun q h => by rw [← hAe]; exact Or.inr h
  have hS : va_S A s.heap s.heap [] := va_S.rf
  have hP : va_P (dC, dI) vwCl (cw_Locks cI cZ cO alk lk) s.heap := hP
  have hl := lv_entry ([.ref (alk 0), .int x1, .int x2]) (n := 3) (Nat.le_of_ble_eq_true rfl)
  rw [lg_entry_eq]
  generalize (lg_sl ([.ref (alk 0), .int x1, .int x2]) ++ List.replicate (3 - (lg_sl ([.ref (alk 0), .int x1, .int x2])).length) Slot.unset).toArray = ls at hl ⊢
  have hl : lv_has ls 3 [(0, .ref (alk 0)), (1, .int x1), (2, .int x2)] := hl
  have k_m16 : (-16 : Int32).toInt = -16 := by decide
  have k_0 : (0 : Int32).toInt = 0 := by decide
  have k_1 : (1 : Int32).toInt = 1 := by decide
  obtain ⟨tgt, hT⟩ : ∃ z, md_Locks_acquire lk x1 x2 = z := ⟨_, rfl⟩
  have hM := hT
  unfold md_Locks_acquire at hM
  refine lv_iload_n hx hb nd_Locks_acquire_0 rfl (lv_at hl 2 rfl) ?_
  refine lv_aload_n hx hb nd_Locks_acquire_1 rfl (lv_at hl 0 rfl) ?_
  refine lv_iload_n hx hb nd_Locks_acquire_2 rfl (lv_at hl 1 rfl) ?_
  have hPc := hP
  have hDc := hD
  have hFc := va_free (wc := cw_Locks cI cZ cO alk lk) hD hS hA [0, 1, 2, 3] rfl
  refine va_calli (va_runV (As := [.int x1]) (rest := [.int x2]) ⟨hx, hb, hml, hown, hts⟩ (ct_Locks_lastTakenBy l dC dI cI cZ cO alk s.heap.size lk x1 hR_lk) (cwV 1 hts (ng_V tw_316 tw_318 tp_8 tw_4 tw_319) rfl rfl rfl (by decide +kernel) ⟨Nat.le_of_ble_eq_true rfl, Nat.le_of_ble_eq_true rfl⟩) ⟨fun a U g mk q => by obtain ⟨q0, q1, qP, qK, qD⟩ := q; exact ⟨q0, q1, qP, va_K.moved (u := U) (U := U.calling g mk a) (Vm.Alike.refl U.vm) qK, qD⟩, va_recv hK hPc (ci := 2) (q0 := 0) rfl rfl, fun U hU hW => ⟨rfl, by rw [hU], by rw [hU]; exact hPc, va_K.moved hW.alike hK, hDc.weaken (fun _ _ _ _ => trivial)⟩⟩ rfl rfl hl.1 rfl (lv_room (Nat.le_of_ble_eq_true rfl)) nd_Locks_acquire_3 ⟨Nat.zero_le _, Nat.zero_le _⟩) hS (fun q _ h => hFc q h) hFc (fun r_1 u t H1 locs ht hvm hw hB hz1 hk1 hS => ?_)
  obtain ⟨hP1, hK1, hD1⟩ := hB
  rw [ht] at hP1
  obtain ⟨w_2, f_3⟩ := hw
  try rw [← w_2] at hM
  have hP := hP1
  have hD := cr_Dw hD1 hFc
  generalize H1 = H at hP hS ⊢
  refine lv_icmp_gt (tgt := 12) hx hb nd_Locks_acquire_6 (by decide) (fun c_4 => ?_) (fun c_4 => ?_)
  · have c_4t := cr_lt c_4
    rw [if_pos c_4] at hM
    refine lv_aload_n hx hb nd_Locks_acquire_12 rfl (lv_at hl 0 rfl) ?_
    refine va_get (D := (dC, dI)) (ci := 2) (v := .ref (alk 1)) (C := "CeilingRows$Locks") (T := nf_Locks) (N := 4) hx hb hts nin_Locks hown hK hP 0 rfl rfl 0 (by decide) (hts _ tw_100) (fun _ h9 => h9) rfl nd_Locks_acquire_13 ?_
    refine lv_iload_n hx hb nd_Locks_acquire_16 rfl (lv_at hl 2 rfl) ?_
    have b_5 : vp_in x2 9 := vp_in_iff.mpr (by omega)
    refine va_iald hx hb hK hP 1 0 rfl rfl b_5 nd_Locks_acquire_17 ?_
    have f_6 := cr_rgo hR_lk.1 (x2.toNatClampNeg)
    refine lv_if_ne (tgt := 30) hx hb nd_Locks_acquire_18 (by decide) (fun c_7 => ?_) (fun c_7 => ?_)
    · have c_7t := cr_ne c_7
      rw [if_neg c_7] at hM
      refine lv_aload_n hx hb nd_Locks_acquire_30 rfl (lv_at hl 0 rfl) ?_
      refine va_get (D := (dC, dI)) (ci := 2) (v := .ref (alk 2)) (C := "CeilingRows$Locks") (T := nf_Locks) (N := 4) hx hb hts nin_Locks hown hK hP 0 rfl rfl 1 (by decide) (hts _ tw_101) (fun _ h9 => h9) rfl nd_Locks_acquire_31 ?_
      refine lv_iload_n hx hb nd_Locks_acquire_34 rfl (lv_at hl 1 rfl) ?_
      refine lv_iload_n hx hb nd_Locks_acquire_35 rfl (lv_at hl 2 rfl) ?_
      have b_8 : vp_in x1 4 := vp_in_iff.mpr (by omega)
      refine va_iast hx hb hK hP hD hS 2 0 rfl rfl b_8 nd_Locks_acquire_36 (fun H locs hP hD hS => ?_)
      have hP : va_P (dC, dI) vwCl (cw_Locks cI cZ cO alk (cr_up lk 2 x1.toNatClampNeg x2)) H := hP
      have hD : va_D A (cw_Locks cI cZ cO alk (cr_up lk 2 x1.toNatClampNeg x2)) := hD
      have hR_9 : cr_RLocks (cr_up lk 2 x1.toNatClampNeg x2) := ⟨cr_rg_up hR_lk.1 (fun e => absurd e (by decide)), cr_rg_up hR_lk.2 (fun _ => by omega)⟩
      obtain ⟨lkq_10, hlkq_10⟩ : ∃ z, (cr_up lk 2 x1.toNatClampNeg x2) = z := ⟨_, rfl⟩
      rw [hlkq_10] at hP hD hR_9
      try rw [hlkq_10] at hM
      refine lv_aload_n hx hb nd_Locks_acquire_37 rfl (lv_at hl 0 rfl) ?_
      refine lv_dup hx hb nd_Locks_acquire_38 rfl ?_
      refine va_get (D := (dC, dI)) (ci := 2) (v := .int (lkq_10 0 0)) (C := "CeilingRows$Locks") (T := nf_Locks) (N := 4) hx hb hts nin_Locks hown hK hP 0 rfl rfl 3 (by decide) (hts _ tw_103) (fun _ h9 => h9) rfl nd_Locks_acquire_39 ?_
      refine lv_iconst (v := 1) hx hb nd_Locks_acquire_42 (by decide) ?_
      refine lv_iadd hx hb nd_Locks_acquire_43 ?_
      refine va_put (D := (dC, dI)) (ci := 2) (v := .int ((lkq_10 0 0) + (1 : Int32))) (ty := .int) (C := "CeilingRows$Locks") (T := nf_Locks) (N := 4) hx hb hts nin_Locks nt_Locks nto_Locks nno_Locks hown hK hP hD hS 0 rfl rfl 3 (by decide) (hts _ tw_103) (fun _ h9 => h9) rfl (by decide +kernel) rfl rfl (Nat.le_of_ble_eq_true rfl) nd_Locks_acquire_44 (fun H locs hP hD hS => ?_)
      have hP : va_P (dC, dI) vwCl (cw_Locks cI cZ cO alk (cr_up lkq_10 0 0 ((lkq_10 0 0) + (1 : Int32)))) H := hP
      have hD : va_D A (cw_Locks cI cZ cO alk (cr_up lkq_10 0 0 ((lkq_10 0 0) + (1 : Int32)))) := hD
      have hR_11 : cr_RLocks (cr_up lkq_10 0 0 ((lkq_10 0 0) + (1 : Int32))) := ⟨cr_rg_up hR_9.1 (fun e => absurd e (by decide)), cr_rg_up hR_9.2 (fun e => absurd e (by decide))⟩
      obtain ⟨lkq_12, hlkq_12⟩ : ∃ z, (cr_up lkq_10 0 0 ((lkq_10 0 0) + (1 : Int32))) = z := ⟨_, rfl⟩
      rw [hlkq_12] at hP hD hR_11
      try rw [hlkq_12] at hM
      refine lv_aload_n hx hb nd_Locks_acquire_47 rfl (lv_at hl 0 rfl) ?_
      refine va_get (D := (dC, dI)) (ci := 2) (v := .ref (alk 3)) (C := "CeilingRows$Locks") (T := nf_Locks) (N := 4) hx hb hts nin_Locks hown hK hP 0 rfl rfl 2 (by decide) (hts _ tw_102) (fun _ h9 => h9) rfl nd_Locks_acquire_48 ?_
      refine lv_iload_n hx hb nd_Locks_acquire_51 rfl (lv_at hl 1 rfl) ?_
      refine lv_aload_n hx hb nd_Locks_acquire_52 rfl (lv_at hl 0 rfl) ?_
      refine va_get (D := (dC, dI)) (ci := 2) (v := .int (lkq_12 0 0)) (C := "CeilingRows$Locks") (T := nf_Locks) (N := 4) hx hb hts nin_Locks hown hK hP 0 rfl rfl 3 (by decide) (hts _ tw_103) (fun _ h9 => h9) rfl nd_Locks_acquire_53 ?_
      have b_13 : vp_in x1 4 := vp_in_iff.mpr (by omega)
      refine va_iast hx hb hK hP hD hS 3 0 rfl rfl b_13 nd_Locks_acquire_56 (fun H locs hP hD hS => ?_)
      have hP : va_P (dC, dI) vwCl (cw_Locks cI cZ cO alk (cr_up lkq_12 3 x1.toNatClampNeg (lkq_12 0 0))) H := hP
      have hD : va_D A (cw_Locks cI cZ cO alk (cr_up lkq_12 3 x1.toNatClampNeg (lkq_12 0 0))) := hD
      have hR_14 : cr_RLocks (cr_up lkq_12 3 x1.toNatClampNeg (lkq_12 0 0)) := ⟨cr_rg_up hR_11.1 (fun e => absurd e (by decide)), cr_rg_up hR_11.2 (fun e => absurd e (by decide))⟩
      obtain ⟨lkq_15, hlkq_15⟩ : ∃ z, (cr_up lkq_12 3 x1.toNatClampNeg (lkq_12 0 0)) = z := ⟨_, rfl⟩
      rw [hlkq_15] at hP hD hR_14
      try rw [hlkq_15] at hM
      refine lv_iconst (v := 0) hx hb nd_Locks_acquire_57 (by decide) ?_
      exact W.iret (v := (0 : Int32)) hx hb hr (fun t ht hW => ⟨⟨(0 : Int32), lkq_15, rfl, ⟨by rw [hT, ← hM], by rw [hT, ← hM], hR_14⟩, by rw [ht]; exact hP, va_K.moved hW.alike hK, hD⟩, hS.F ht⟩) hS.2.2 nd_Locks_acquire_58
    · have c_7t := cr_eq c_7
      rw [if_pos c_7] at hM
      refine lv_aload_n hx hb nd_Locks_acquire_21 rfl (lv_at hl 0 rfl) ?_
      refine va_get (D := (dC, dI)) (ci := 2) (v := .ref (alk 1)) (C := "CeilingRows$Locks") (T := nf_Locks) (N := 4) hx hb hts nin_Locks hown hK hP 0 rfl rfl 0 (by decide) (hts _ tw_100) (fun _ h9 => h9) rfl nd_Locks_acquire_22 ?_
      refine lv_iload_n hx hb nd_Locks_acquire_25 rfl (lv_at hl 2 rfl) ?_
      refine lv_iload_n hx hb nd_Locks_acquire_26 rfl (lv_at hl 1 rfl) ?_
      have b_16 : vp_in x2 9 := vp_in_iff.mpr (by omega)
      refine va_iast hx hb hK hP hD hS 1 0 rfl rfl b_16 nd_Locks_acquire_27 (fun H locs hP hD hS => ?_)
      have hP : va_P (dC, dI) vwCl (cw_Locks cI cZ cO alk (cr_up lk 1 x2.toNatClampNeg x1)) H := hP
      have hD : va_D A (cw_Locks cI cZ cO alk (cr_up lk 1 x2.toNatClampNeg x1)) := hD
      have hR_17 : cr_RLocks (cr_up lk 1 x2.toNatClampNeg x1) := ⟨cr_rg_up hR_lk.1 (fun _ => by omega), cr_rg_up hR_lk.2 (fun e => absurd e (by decide))⟩
      obtain ⟨lkq_18, hlkq_18⟩ : ∃ z, (cr_up lk 1 x2.toNatClampNeg x1) = z := ⟨_, rfl⟩
      rw [hlkq_18] at hP hD hR_17
      try rw [hlkq_18] at hM
      refine lv_iconst (v := 1) hx hb nd_Locks_acquire_28 (by decide) ?_
      exact W.iret (v := (1 : Int32)) hx hb hr (fun t ht hW => ⟨⟨(1 : Int32), lkq_18, rfl, ⟨by rw [hT, ← hM], by rw [hT, ← hM], hR_17⟩, by rw [ht]; exact hP, va_K.moved hW.alike hK, hD⟩, hS.F ht⟩) hS.2.2 nd_Locks_acquire_29
  · have c_4t := cr_nlt c_4
    rw [if_neg c_4] at hM
    refine lv_bipush (v := -16) hx hb nd_Locks_acquire_9 (by decide) ?_
    exact W.iret (v := (-16 : Int32)) hx hb hr (fun t ht hW => ⟨⟨(-16 : Int32), lk, rfl, ⟨by rw [hT, ← hM], by rw [hT, ← hM], hR_lk⟩, by rw [ht]; exact hP, va_K.moved hW.alike hK, hD⟩, hS.F ht⟩) hS.2.2 nd_Locks_acquire_11

theorem nd_Locks_longestSpinnerFor_0 : decode prog_3_method_6_code 0 = .ok (.iconst 0, 1) := by decide +kernel
theorem nd_Locks_longestSpinnerFor_1 : decode prog_3_method_6_code 1 = .ok (.istore_n 2, 1) := by decide +kernel
theorem nd_Locks_longestSpinnerFor_2 : decode prog_3_method_6_code 2 = .ok (.iconst 1, 1) := by decide +kernel
theorem nd_Locks_longestSpinnerFor_3 : decode prog_3_method_6_code 3 = .ok (.istore_n 3, 1) := by decide +kernel
theorem nd_Locks_longestSpinnerFor_4 : decode prog_3_method_6_code 4 = .ok (.iload_n 3, 1) := by decide +kernel
theorem nd_Locks_longestSpinnerFor_5 : decode prog_3_method_6_code 5 = .ok (.iconst 3, 1) := by decide +kernel
theorem nd_Locks_longestSpinnerFor_6 : decode prog_3_method_6_code 6 = .ok (.if_icmp .gt (52), 3) := by decide +kernel
theorem nd_Locks_longestSpinnerFor_9 : decode prog_3_method_6_code 9 = .ok (.iload_n 2, 1) := by decide +kernel
theorem nd_Locks_longestSpinnerFor_10 : decode prog_3_method_6_code 10 = .ok (.ifCond .eq (18), 3) := by decide +kernel
theorem nd_Locks_longestSpinnerFor_13 : decode prog_3_method_6_code 13 = .ok (.aload_n 0, 1) := by decide +kernel
theorem nd_Locks_longestSpinnerFor_14 : decode prog_3_method_6_code 14 = .ok (.getfield 18, 3) := by decide +kernel
theorem nd_Locks_longestSpinnerFor_17 : decode prog_3_method_6_code 17 = .ok (.iload_n 3, 1) := by decide +kernel
theorem nd_Locks_longestSpinnerFor_18 : decode prog_3_method_6_code 18 = .ok (.iaload, 1) := by decide +kernel
theorem nd_Locks_longestSpinnerFor_19 : decode prog_3_method_6_code 19 = .ok (.aload_n 0, 1) := by decide +kernel
theorem nd_Locks_longestSpinnerFor_20 : decode prog_3_method_6_code 20 = .ok (.getfield 18, 3) := by decide +kernel
theorem nd_Locks_longestSpinnerFor_23 : decode prog_3_method_6_code 23 = .ok (.iload_n 2, 1) := by decide +kernel
theorem nd_Locks_longestSpinnerFor_24 : decode prog_3_method_6_code 24 = .ok (.iaload, 1) := by decide +kernel
theorem nd_Locks_longestSpinnerFor_25 : decode prog_3_method_6_code 25 = .ok (.if_icmp .ge (7), 3) := by decide +kernel
theorem nd_Locks_longestSpinnerFor_28 : decode prog_3_method_6_code 28 = .ok (.iconst 1, 1) := by decide +kernel
theorem nd_Locks_longestSpinnerFor_29 : decode prog_3_method_6_code 29 = .ok (.goto (4), 3) := by decide +kernel
theorem nd_Locks_longestSpinnerFor_32 : decode prog_3_method_6_code 32 = .ok (.iconst 0, 1) := by decide +kernel
theorem nd_Locks_longestSpinnerFor_33 : decode prog_3_method_6_code 33 = .ok (.istore 4, 2) := by decide +kernel
theorem nd_Locks_longestSpinnerFor_35 : decode prog_3_method_6_code 35 = .ok (.aload_n 0, 1) := by decide +kernel
theorem nd_Locks_longestSpinnerFor_36 : decode prog_3_method_6_code 36 = .ok (.getfield 15, 3) := by decide +kernel
theorem nd_Locks_longestSpinnerFor_39 : decode prog_3_method_6_code 39 = .ok (.iload_n 3, 1) := by decide +kernel
theorem nd_Locks_longestSpinnerFor_40 : decode prog_3_method_6_code 40 = .ok (.iaload, 1) := by decide +kernel
theorem nd_Locks_longestSpinnerFor_41 : decode prog_3_method_6_code 41 = .ok (.iload_n 1, 1) := by decide +kernel
theorem nd_Locks_longestSpinnerFor_42 : decode prog_3_method_6_code 42 = .ok (.if_icmp .ne (10), 3) := by decide +kernel
theorem nd_Locks_longestSpinnerFor_45 : decode prog_3_method_6_code 45 = .ok (.iload 4, 2) := by decide +kernel
theorem nd_Locks_longestSpinnerFor_47 : decode prog_3_method_6_code 47 = .ok (.ifCond .eq (5), 3) := by decide +kernel
theorem nd_Locks_longestSpinnerFor_50 : decode prog_3_method_6_code 50 = .ok (.iload_n 3, 1) := by decide +kernel
theorem nd_Locks_longestSpinnerFor_51 : decode prog_3_method_6_code 51 = .ok (.istore_n 2, 1) := by decide +kernel
theorem nd_Locks_longestSpinnerFor_52 : decode prog_3_method_6_code 52 = .ok (.iinc 3 1, 3) := by decide +kernel
theorem nd_Locks_longestSpinnerFor_55 : decode prog_3_method_6_code 55 = .ok (.goto (-51), 3) := by decide +kernel
theorem nd_Locks_longestSpinnerFor_58 : decode prog_3_method_6_code 58 = .ok (.iload_n 2, 1) := by decide +kernel
theorem nd_Locks_longestSpinnerFor_59 : decode prog_3_method_6_code 59 = .ok (.ireturn, 1) := by decide +kernel
abbrev pq_Locks_longestSpinnerFor (dC : Nat → ClassId) (dI : Nat → Nat → Nat) (cI cZ cO : ClassId) (alk : Nat → Nat) (lk : cr_S) (x1 : Int32) (A : Nat → Prop) : Array Value → State → Outcome → State → Prop :=
  va_Qi (fun (r : Int32) (_ : Unit) => r = md_Locks_longestSpinnerFor lk x1 ∧ (0 ≤ r.toInt ∧ r.toInt ≤ 3)) (fun (_ : Unit) t => va_P (dC, dI) vwCl (cw_Locks cI cZ cO alk lk) t.heap ∧ va_K (dC, dI) vwCl [(cI, .int), (cZ, .boolean), (cO, .array .int)] t ∧ va_D A (cw_Locks cI cZ cO alk lk)) A
set_option maxHeartbeats 4000000 in
set_option maxRecDepth 100000 in
theorem ct_Locks_longestSpinnerFor (l : Launch) (dC : Nat → ClassId) (dI : Nat → Nat → Nat) (cI cZ cO : ClassId) (alk : Nat → Nat) (sz : Nat) (lk : cr_S) (x1 : Int32) (hR_lk : cr_RLocks lk) : Met l ny_Locks_longestSpinnerFor nw_Locks_longestSpinnerFor ({ frames := 0, cells := 0, slots := 0, locals := 0 } : Room) (va_Pc [.ref (alk 0), .int x1] (fun U => U.heap.size = sz ∧ va_P (dC, dI) vwCl (cw_Locks cI cZ cO alk lk) U.heap ∧ va_K (dC, dI) vwCl [(cI, .int), (cZ, .boolean), (cO, .array .int)] U ∧ va_D (fun _ => True) (cw_Locks cI cZ cO alk lk))) (pq_Locks_longestSpinnerFor dC dI cI cZ cO alk lk x1 (va_A (cw_Locks cI cZ cO alk lk) sz)) 0 0 (va_A (cw_Locks cI cZ cO alk lk) sz) := by
  refine Met.ofW (cc := prog_3_method_6_code) (maxL := 5) (ret := (some .int)) (by decide) rfl ?_
  intro p e s m args below meth c s₁ B hml hv
  obtain ⟨rfl, hsz, hP, hK, hD0⟩ := hv
  have hx := B.exec
  have hb := B.bytes
  have hr := B.returns
  have hts0 := atoms_spec (ws := nw_Locks_longestSpinnerFor) B.pre
  have hts : ∀ w ∈ ng_tbl, w.before ([.ref (alk 0), .int x1] : List Value).toArray s = true := fun w h => hts0 w (List.mem_cons_of_mem _ h)
  have hown : s.vm.findClass "CeilingRows$Locks" = some m.cls := findClass_of_methodNamed B.named
  have hlocks := B.notSynchronized
  subst hsz
  have hD := hD0.self (sz := s.heap.size)
  generalize hAe : va_A (cw_Locks cI cZ cO alk lk) s.heap.size = A at hD ⊢
  have hA : ∀ q : Nat, s.heap.size ≤ q → A q := fun q h => by rw [← hAe]; exact Or.inr h
  have hS : va_S A s.heap s.heap [] := va_S.rf
  have hP : va_P (dC, dI) vwCl (cw_Locks cI cZ cO alk lk) s.heap := hP
  have hl := lv_entry ([.ref (alk 0), .int x1]) (n := 5) (Nat.le_of_ble_eq_true rfl)
  rw [lg_entry_eq]
  generalize (lg_sl ([.ref (alk 0), .int x1]) ++ List.replicate (5 - (lg_sl ([.ref (alk 0), .int x1])).length) Slot.unset).toArray = ls at hl ⊢
  have hl : lv_has ls 5 [(0, .ref (alk 0)), (1, .int x1)] := hl
  have k_0 : (0 : Int32).toInt = 0 := by decide
  have k_1 : (1 : Int32).toInt = 1 := by decide
  have k_3 : (3 : Int32).toInt = 3 := by decide
  obtain ⟨tgt, hT⟩ : ∃ z, md_Locks_longestSpinnerFor lk x1 = z := ⟨_, rfl⟩
  have hM := hT
  unfold md_Locks_longestSpinnerFor at hM
  refine lv_iconst (v := 0) hx hb nd_Locks_longestSpinnerFor_0 (by decide) ?_
  refine lv_istore_n (lv' := [(2, .int (0 : Int32)), (0, .ref (alk 0)), (1, .int x1)]) hx hb nd_Locks_longestSpinnerFor_1 rfl hl (by decide) rfl (fun ls hl => ?_)
  refine lv_iconst (v := 1) hx hb nd_Locks_longestSpinnerFor_2 (by decide) ?_
  refine lv_istore_n (lv' := [(3, .int (1 : Int32)), (2, .int (0 : Int32)), (0, .ref (alk 0)), (1, .int x1)]) hx hb nd_Locks_longestSpinnerFor_3 rfl hl (by decide) rfl (fun ls hl => ?_)
  have hl := lv_sub hl [2, 3, 1, 0] rfl
  have lp_4 : ∀ (n_4 : Nat) (v2_4 : Int32) (v3_4 : Int32), (1 ≤ v3_4.toInt ∧ v3_4.toInt ≤ 4) → (0 ≤ v2_4.toInt ∧ v2_4.toInt ≤ 3) → (4 < v3_4.toInt + (n_4 : Int)) → lo_Locks_longestSpinnerFor_4 lk x1 n_4 v2_4 v3_4 = tgt → ∀ (H : Heap) (locs : List Loc), va_P (dC, dI) vwCl (cw_Locks cI cZ cO alk lk) H → va_D A (cw_Locks cI cZ cO alk lk) → va_S A s.heap H locs → ∀ ls : Array Slot, lv_has ls 5 [(0, .ref (alk 0)), (1, .int x1), (2, .int v2_4), (3, .int v3_4)] → W p l e (headSpec nw_Locks_longestSpinnerFor ({ frames := 0, cells := 0, slots := 0, locals := 0 } : Room)).room s m ([.ref (alk 0), .int x1] : List Value).toArray below meth c H locs 0 0 (MQ below (pq_Locks_longestSpinnerFor dC dI cI cZ cO alk lk x1 A) ([.ref (alk 0), .int x1] : List Value).toArray s 0 0 A) (F0 m 4 ls []) := by
    intro n_4
    induction n_4 with
    | zero =>
      intro v2_4 v3_4 hv3_4 hv2_4 hn_4
      exfalso; omega
    | succ n_4 ih_4 =>
      intro v2_4 v3_4 hv3_4 hv2_4 hn_4 hM H locs hP hD hS ls hl
      have hn_4 : 4 < v3_4.toInt + ((n_4 : Int) + 1) := by omega
      rw [lo_Locks_longestSpinnerFor_4] at hM
      refine lv_iload_n hx hb nd_Locks_longestSpinnerFor_4 rfl (lv_at hl 3 rfl) ?_
      refine lv_iconst (v := 3) hx hb nd_Locks_longestSpinnerFor_5 (by decide) ?_
      refine lv_icmp_gt (tgt := 58) hx hb nd_Locks_longestSpinnerFor_6 (by decide) (fun c_1 => ?_) (fun c_1 => ?_)
      · have c_1t := cr_lt c_1
        rw [if_pos c_1] at hM
        refine lv_iload_n hx hb nd_Locks_longestSpinnerFor_58 rfl (lv_at hl 2 rfl) ?_
        exact W.iret (v := v2_4) hx hb hr (fun t ht hW => ⟨⟨v2_4, (), rfl, ⟨by rw [hT, ← hM], by omega⟩, by rw [ht]; exact hP, va_K.moved hW.alike hK, hD⟩, hS.F ht⟩) hS.2.2 nd_Locks_longestSpinnerFor_59
      · have c_1t := cr_nlt c_1
        rw [if_neg c_1] at hM
        refine lv_iload_n hx hb nd_Locks_longestSpinnerFor_9 rfl (lv_at hl 2 rfl) ?_
        refine lv_if_eq (tgt := 28) hx hb nd_Locks_longestSpinnerFor_10 (by decide) (fun c_2 => ?_) (fun c_2 => ?_)
        · have c_2t := cr_eq c_2
          rw [if_pos c_2] at hM
          refine lv_iconst (v := 1) hx hb nd_Locks_longestSpinnerFor_28 (by decide) ?_
          refine lv_goto (tgt := 33) hx hb nd_Locks_longestSpinnerFor_29 (by decide) ?_
          refine lv_istore (lv' := [(4, .int (1 : Int32)), (0, .ref (alk 0)), (1, .int x1), (2, .int v2_4), (3, .int v3_4)]) hx hb nd_Locks_longestSpinnerFor_33 hl (by decide) rfl (fun ls hl => ?_)
          refine lv_aload_n hx hb nd_Locks_longestSpinnerFor_35 rfl (lv_at hl 1 rfl) ?_
          refine va_get (D := (dC, dI)) (ci := 2) (v := .ref (alk 2)) (C := "CeilingRows$Locks") (T := nf_Locks) (N := 4) hx hb hts nin_Locks hown hK hP 0 rfl rfl 1 (by decide) (hts _ tw_101) (fun _ h9 => h9) rfl nd_Locks_longestSpinnerFor_36 ?_
          refine lv_iload_n hx hb nd_Locks_longestSpinnerFor_39 rfl (lv_at hl 4 rfl) ?_
          have b_3 : vp_in v3_4 4 := vp_in_iff.mpr (by omega)
          refine va_iald hx hb hK hP 2 0 rfl rfl b_3 nd_Locks_longestSpinnerFor_40 ?_
          have f_4 := cr_rgo hR_lk.2 (v3_4.toNatClampNeg)
          refine lv_iload_n hx hb nd_Locks_longestSpinnerFor_41 rfl (lv_at hl 2 rfl) ?_
          refine lv_icmp_ne (tgt := 52) hx hb nd_Locks_longestSpinnerFor_42 (by decide) (fun c_5 => ?_) (fun c_5 => ?_)
          · have c_5t := cr_ne c_5
            rw [if_neg c_5] at hM
            have e_6 : (v3_4 + (1 : Int32)).toInt = v3_4.toInt + (1 : Int32).toInt := cr_add (by omega)
            refine lv_iinc (v := (v3_4 + (1 : Int32))) (lv' := [(3, .int (v3_4 + (1 : Int32))), (4, .int (1 : Int32)), (0, .ref (alk 0)), (1, .int x1), (2, .int v2_4)]) hx hb nd_Locks_longestSpinnerFor_52 hl (k := 4) rfl (by rfl) (by decide) rfl (fun ls hl => ?_)
            refine lv_goto (tgt := 4) hx hb nd_Locks_longestSpinnerFor_55 (by decide) ?_
            exact ih_4 v2_4 (v3_4 + (1 : Int32)) (by omega) (by omega) (by omega) hM _ _ hP hD hS _ (lv_sub hl [2, 3, 4, 0] rfl)
          · have c_5t := cr_eq c_5
            rw [if_pos c_5] at hM
            refine lv_iload hx hb nd_Locks_longestSpinnerFor_45 (lv_at hl 0 rfl) ?_
            refine lv_if_eq (tgt := 52) hx hb nd_Locks_longestSpinnerFor_47 (by decide) (fun c_7 => ?_) (fun c_7 => ?_)
            · exact absurd c_7 (by decide)
            · refine lv_iload_n hx hb nd_Locks_longestSpinnerFor_50 rfl (lv_at hl 4 rfl) ?_
              refine lv_istore_n (lv' := [(2, .int v3_4), (4, .int (1 : Int32)), (0, .ref (alk 0)), (1, .int x1), (3, .int v3_4)]) hx hb nd_Locks_longestSpinnerFor_51 rfl hl (by decide) rfl (fun ls hl => ?_)
              have e_8 : (v3_4 + (1 : Int32)).toInt = v3_4.toInt + (1 : Int32).toInt := cr_add (by omega)
              refine lv_iinc (v := (v3_4 + (1 : Int32))) (lv' := [(3, .int (v3_4 + (1 : Int32))), (2, .int v3_4), (4, .int (1 : Int32)), (0, .ref (alk 0)), (1, .int x1)]) hx hb nd_Locks_longestSpinnerFor_52 hl (k := 4) rfl (by rfl) (by decide) rfl (fun ls hl => ?_)
              refine lv_goto (tgt := 4) hx hb nd_Locks_longestSpinnerFor_55 (by decide) ?_
              exact ih_4 v3_4 (v3_4 + (1 : Int32)) (by omega) (by omega) (by omega) hM _ _ hP hD hS _ (lv_sub hl [3, 4, 1, 0] rfl)
        · have c_2t := cr_ne c_2
          rw [if_neg c_2] at hM
          refine lv_aload_n hx hb nd_Locks_longestSpinnerFor_13 rfl (lv_at hl 0 rfl) ?_
          refine va_get (D := (dC, dI)) (ci := 2) (v := .ref (alk 3)) (C := "CeilingRows$Locks") (T := nf_Locks) (N := 4) hx hb hts nin_Locks hown hK hP 0 rfl rfl 2 (by decide) (hts _ tw_102) (fun _ h9 => h9) rfl nd_Locks_longestSpinnerFor_14 ?_
          refine lv_iload_n hx hb nd_Locks_longestSpinnerFor_17 rfl (lv_at hl 3 rfl) ?_
          have b_9 : vp_in v3_4 4 := vp_in_iff.mpr (by omega)
          refine va_iald hx hb hK hP 3 0 rfl rfl b_9 nd_Locks_longestSpinnerFor_18 ?_
          refine lv_aload_n hx hb nd_Locks_longestSpinnerFor_19 rfl (lv_at hl 0 rfl) ?_
          refine va_get (D := (dC, dI)) (ci := 2) (v := .ref (alk 3)) (C := "CeilingRows$Locks") (T := nf_Locks) (N := 4) hx hb hts nin_Locks hown hK hP 0 rfl rfl 2 (by decide) (hts _ tw_102) (fun _ h9 => h9) rfl nd_Locks_longestSpinnerFor_20 ?_
          refine lv_iload_n hx hb nd_Locks_longestSpinnerFor_23 rfl (lv_at hl 2 rfl) ?_
          have b_10 : vp_in v2_4 4 := vp_in_iff.mpr (by omega)
          refine va_iald hx hb hK hP 3 0 rfl rfl b_10 nd_Locks_longestSpinnerFor_24 ?_
          refine lv_icmp_ge (tgt := 32) hx hb nd_Locks_longestSpinnerFor_25 (by decide) (fun c_11 => ?_) (fun c_11 => ?_)
          · have c_11t := cr_le c_11
            rw [if_pos c_11] at hM
            refine lv_iconst (v := 0) hx hb nd_Locks_longestSpinnerFor_32 (by decide) ?_
            refine lv_istore (lv' := [(4, .int (0 : Int32)), (0, .ref (alk 0)), (1, .int x1), (2, .int v2_4), (3, .int v3_4)]) hx hb nd_Locks_longestSpinnerFor_33 hl (by decide) rfl (fun ls hl => ?_)
            refine lv_aload_n hx hb nd_Locks_longestSpinnerFor_35 rfl (lv_at hl 1 rfl) ?_
            refine va_get (D := (dC, dI)) (ci := 2) (v := .ref (alk 2)) (C := "CeilingRows$Locks") (T := nf_Locks) (N := 4) hx hb hts nin_Locks hown hK hP 0 rfl rfl 1 (by decide) (hts _ tw_101) (fun _ h9 => h9) rfl nd_Locks_longestSpinnerFor_36 ?_
            refine lv_iload_n hx hb nd_Locks_longestSpinnerFor_39 rfl (lv_at hl 4 rfl) ?_
            have b_12 : vp_in v3_4 4 := vp_in_iff.mpr (by omega)
            refine va_iald hx hb hK hP 2 0 rfl rfl b_12 nd_Locks_longestSpinnerFor_40 ?_
            have f_13 := cr_rgo hR_lk.2 (v3_4.toNatClampNeg)
            refine lv_iload_n hx hb nd_Locks_longestSpinnerFor_41 rfl (lv_at hl 2 rfl) ?_
            refine lv_icmp_ne (tgt := 52) hx hb nd_Locks_longestSpinnerFor_42 (by decide) (fun c_14 => ?_) (fun c_14 => ?_)
            · have c_14t := cr_ne c_14
              rw [if_neg c_14] at hM
              have e_15 : (v3_4 + (1 : Int32)).toInt = v3_4.toInt + (1 : Int32).toInt := cr_add (by omega)
              refine lv_iinc (v := (v3_4 + (1 : Int32))) (lv' := [(3, .int (v3_4 + (1 : Int32))), (4, .int (0 : Int32)), (0, .ref (alk 0)), (1, .int x1), (2, .int v2_4)]) hx hb nd_Locks_longestSpinnerFor_52 hl (k := 4) rfl (by rfl) (by decide) rfl (fun ls hl => ?_)
              refine lv_goto (tgt := 4) hx hb nd_Locks_longestSpinnerFor_55 (by decide) ?_
              exact ih_4 v2_4 (v3_4 + (1 : Int32)) (by omega) (by omega) (by omega) hM _ _ hP hD hS _ (lv_sub hl [2, 3, 4, 0] rfl)
            · have c_14t := cr_eq c_14
              rw [if_pos c_14] at hM
              refine lv_iload hx hb nd_Locks_longestSpinnerFor_45 (lv_at hl 0 rfl) ?_
              refine lv_if_eq (tgt := 52) hx hb nd_Locks_longestSpinnerFor_47 (by decide) (fun c_16 => ?_) (fun c_16 => ?_)
              · have e_17 : (v3_4 + (1 : Int32)).toInt = v3_4.toInt + (1 : Int32).toInt := cr_add (by omega)
                refine lv_iinc (v := (v3_4 + (1 : Int32))) (lv' := [(3, .int (v3_4 + (1 : Int32))), (4, .int (0 : Int32)), (0, .ref (alk 0)), (1, .int x1), (2, .int v2_4)]) hx hb nd_Locks_longestSpinnerFor_52 hl (k := 4) rfl (by rfl) (by decide) rfl (fun ls hl => ?_)
                refine lv_goto (tgt := 4) hx hb nd_Locks_longestSpinnerFor_55 (by decide) ?_
                exact ih_4 v2_4 (v3_4 + (1 : Int32)) (by omega) (by omega) (by omega) hM _ _ hP hD hS _ (lv_sub hl [2, 3, 4, 0] rfl)
              · exact absurd c_16 (by decide)
          · have c_11t := cr_nle c_11
            rw [if_neg c_11] at hM
            refine lv_iconst (v := 1) hx hb nd_Locks_longestSpinnerFor_28 (by decide) ?_
            refine lv_goto (tgt := 33) hx hb nd_Locks_longestSpinnerFor_29 (by decide) ?_
            refine lv_istore (lv' := [(4, .int (1 : Int32)), (0, .ref (alk 0)), (1, .int x1), (2, .int v2_4), (3, .int v3_4)]) hx hb nd_Locks_longestSpinnerFor_33 hl (by decide) rfl (fun ls hl => ?_)
            refine lv_aload_n hx hb nd_Locks_longestSpinnerFor_35 rfl (lv_at hl 1 rfl) ?_
            refine va_get (D := (dC, dI)) (ci := 2) (v := .ref (alk 2)) (C := "CeilingRows$Locks") (T := nf_Locks) (N := 4) hx hb hts nin_Locks hown hK hP 0 rfl rfl 1 (by decide) (hts _ tw_101) (fun _ h9 => h9) rfl nd_Locks_longestSpinnerFor_36 ?_
            refine lv_iload_n hx hb nd_Locks_longestSpinnerFor_39 rfl (lv_at hl 4 rfl) ?_
            have b_18 : vp_in v3_4 4 := vp_in_iff.mpr (by omega)
            refine va_iald hx hb hK hP 2 0 rfl rfl b_18 nd_Locks_longestSpinnerFor_40 ?_
            have f_19 := cr_rgo hR_lk.2 (v3_4.toNatClampNeg)
            refine lv_iload_n hx hb nd_Locks_longestSpinnerFor_41 rfl (lv_at hl 2 rfl) ?_
            refine lv_icmp_ne (tgt := 52) hx hb nd_Locks_longestSpinnerFor_42 (by decide) (fun c_20 => ?_) (fun c_20 => ?_)
            · have c_20t := cr_ne c_20
              rw [if_neg c_20] at hM
              have e_21 : (v3_4 + (1 : Int32)).toInt = v3_4.toInt + (1 : Int32).toInt := cr_add (by omega)
              refine lv_iinc (v := (v3_4 + (1 : Int32))) (lv' := [(3, .int (v3_4 + (1 : Int32))), (4, .int (1 : Int32)), (0, .ref (alk 0)), (1, .int x1), (2, .int v2_4)]) hx hb nd_Locks_longestSpinnerFor_52 hl (k := 4) rfl (by rfl) (by decide) rfl (fun ls hl => ?_)
              refine lv_goto (tgt := 4) hx hb nd_Locks_longestSpinnerFor_55 (by decide) ?_
              exact ih_4 v2_4 (v3_4 + (1 : Int32)) (by omega) (by omega) (by omega) hM _ _ hP hD hS _ (lv_sub hl [2, 3, 4, 0] rfl)
            · have c_20t := cr_eq c_20
              rw [if_pos c_20] at hM
              refine lv_iload hx hb nd_Locks_longestSpinnerFor_45 (lv_at hl 0 rfl) ?_
              refine lv_if_eq (tgt := 52) hx hb nd_Locks_longestSpinnerFor_47 (by decide) (fun c_22 => ?_) (fun c_22 => ?_)
              · exact absurd c_22 (by decide)
              · refine lv_iload_n hx hb nd_Locks_longestSpinnerFor_50 rfl (lv_at hl 4 rfl) ?_
                refine lv_istore_n (lv' := [(2, .int v3_4), (4, .int (1 : Int32)), (0, .ref (alk 0)), (1, .int x1), (3, .int v3_4)]) hx hb nd_Locks_longestSpinnerFor_51 rfl hl (by decide) rfl (fun ls hl => ?_)
                have e_23 : (v3_4 + (1 : Int32)).toInt = v3_4.toInt + (1 : Int32).toInt := cr_add (by omega)
                refine lv_iinc (v := (v3_4 + (1 : Int32))) (lv' := [(3, .int (v3_4 + (1 : Int32))), (2, .int v3_4), (4, .int (1 : Int32)), (0, .ref (alk 0)), (1, .int x1)]) hx hb nd_Locks_longestSpinnerFor_52 hl (k := 4) rfl (by rfl) (by decide) rfl (fun ls hl => ?_)
                refine lv_goto (tgt := 4) hx hb nd_Locks_longestSpinnerFor_55 (by decide) ?_
                exact ih_4 v3_4 (v3_4 + (1 : Int32)) (by omega) (by omega) (by omega) hM _ _ hP hD hS _ (lv_sub hl [3, 4, 1, 0] rfl)
  exact lp_4 4 (0 : Int32) (1 : Int32) (by omega) (by omega) (by omega) hM _ _ hP hD hS _ hl

theorem nd_Locks_release_0 : decode prog_3_method_5_code 0 = .ok (.iload_n 2, 1) := by decide +kernel
theorem nd_Locks_release_1 : decode prog_3_method_5_code 1 = .ok (.aload_n 0, 1) := by decide +kernel
theorem nd_Locks_release_2 : decode prog_3_method_5_code 2 = .ok (.iload_n 1, 1) := by decide +kernel
theorem nd_Locks_release_3 : decode prog_3_method_5_code 3 = .ok (.invokevirtual 21, 3) := by decide +kernel
theorem nd_Locks_release_6 : decode prog_3_method_5_code 6 = .ok (.if_icmp .eq (6), 3) := by decide +kernel
theorem nd_Locks_release_9 : decode prog_3_method_5_code 9 = .ok (.bipush (-17), 2) := by decide +kernel
theorem nd_Locks_release_11 : decode prog_3_method_5_code 11 = .ok (.ireturn, 1) := by decide +kernel
theorem nd_Locks_release_12 : decode prog_3_method_5_code 12 = .ok (.aload_n 0, 1) := by decide +kernel
theorem nd_Locks_release_13 : decode prog_3_method_5_code 13 = .ok (.iload_n 2, 1) := by decide +kernel
theorem nd_Locks_release_14 : decode prog_3_method_5_code 14 = .ok (.invokevirtual 29, 3) := by decide +kernel
theorem nd_Locks_release_17 : decode prog_3_method_5_code 17 = .ok (.istore_n 3, 1) := by decide +kernel
theorem nd_Locks_release_18 : decode prog_3_method_5_code 18 = .ok (.aload_n 0, 1) := by decide +kernel
theorem nd_Locks_release_19 : decode prog_3_method_5_code 19 = .ok (.getfield 9, 3) := by decide +kernel
theorem nd_Locks_release_22 : decode prog_3_method_5_code 22 = .ok (.iload_n 2, 1) := by decide +kernel
theorem nd_Locks_release_23 : decode prog_3_method_5_code 23 = .ok (.iload_n 3, 1) := by decide +kernel
theorem nd_Locks_release_24 : decode prog_3_method_5_code 24 = .ok (.iastore, 1) := by decide +kernel
theorem nd_Locks_release_25 : decode prog_3_method_5_code 25 = .ok (.aload_n 0, 1) := by decide +kernel
theorem nd_Locks_release_26 : decode prog_3_method_5_code 26 = .ok (.getfield 15, 3) := by decide +kernel
theorem nd_Locks_release_29 : decode prog_3_method_5_code 29 = .ok (.iload_n 3, 1) := by decide +kernel
theorem nd_Locks_release_30 : decode prog_3_method_5_code 30 = .ok (.iconst 0, 1) := by decide +kernel
theorem nd_Locks_release_31 : decode prog_3_method_5_code 31 = .ok (.iastore, 1) := by decide +kernel
theorem nd_Locks_release_32 : decode prog_3_method_5_code 32 = .ok (.iconst 1, 1) := by decide +kernel
theorem nd_Locks_release_33 : decode prog_3_method_5_code 33 = .ok (.ireturn, 1) := by decide +kernel
abbrev pq_Locks_release (dC : Nat → ClassId) (dI : Nat → Nat → Nat) (cI cZ cO : ClassId) (alk : Nat → Nat) (lk : cr_S) (x1 : Int32) (x2 : Int32) (A : Nat → Prop) : Array Value → State → Outcome → State → Prop :=
  va_Qi (fun (r : Int32) (lk' : cr_S) => r = (md_Locks_release lk x1 x2).1 ∧ lk' = (md_Locks_release lk x1 x2).2 ∧ cr_RLocks lk') (fun (lk' : cr_S) t => va_P (dC, dI) vwCl (cw_Locks cI cZ cO alk lk') t.heap ∧ va_K (dC, dI) vwCl [(cI, .int), (cZ, .boolean), (cO, .array .int)] t ∧ va_D A (cw_Locks cI cZ cO alk lk')) A
set_option maxHeartbeats 4000000 in
set_option maxRecDepth 100000 in
theorem ct_Locks_release (l : Launch) (dC : Nat → ClassId) (dI : Nat → Nat → Nat) (cI cZ cO : ClassId) (alk : Nat → Nat) (sz : Nat) (lk : cr_S) (x1 : Int32) (x2 : Int32) (hR_lk : cr_RLocks lk) (hx1 : 1 ≤ x1.toInt ∧ x1.toInt ≤ 3) (hx2 : 1 ≤ x2.toInt ∧ x2.toInt ≤ 8) : Met l ny_Locks_release nw_Locks_release ({ frames := 1, cells := 0, slots := 0, locals := 24 } : Room) (va_Pc [.ref (alk 0), .int x1, .int x2] (fun U => U.heap.size = sz ∧ va_P (dC, dI) vwCl (cw_Locks cI cZ cO alk lk) U.heap ∧ va_K (dC, dI) vwCl [(cI, .int), (cZ, .boolean), (cO, .array .int)] U ∧ va_D (fun _ => True) (cw_Locks cI cZ cO alk lk))) (pq_Locks_release dC dI cI cZ cO alk lk x1 x2 (va_A (cw_Locks cI cZ cO alk lk) sz)) 0 0 (va_A (cw_Locks cI cZ cO alk lk) sz) := by
  refine Met.ofW (cc := prog_3_method_5_code) (maxL := 4) (ret := (some .int)) (by decide) rfl ?_
  intro p e s m args below meth c s₁ B hml hv
  obtain ⟨rfl, hsz, hP, hK, hD0⟩ := hv
  have hx := B.exec
  have hb := B.bytes
  have hr := B.returns
  have hts0 := atoms_spec (ws := nw_Locks_release) B.pre
  have hts : ∀ w ∈ ng_tbl, w.before ([.ref (alk 0), .int x1, .int x2] : List Value).toArray s = true := fun w h => hts0 w (List.mem_cons_of_mem _ h)
  have hown : s.vm.findClass "CeilingRows$Locks" = some m.cls := findClass_of_methodNamed B.named
  have hlocks := B.notSynchronized
  subst hsz
  have hD := hD0.self (sz := s.heap.size)
  generalize hAe : va_A (cw_Locks cI cZ cO alk lk) s.heap.size = A at hD ⊢
  have hA : ∀ q : Nat, s.heap.size ≤ q → A q := fun q h => by rw [← hAe]; exact Or.inr h
  have hS : va_S A s.heap s.heap [] := va_S.rf
  have hP : va_P (dC, dI) vwCl (cw_Locks cI cZ cO alk lk) s.heap := hP
  have hl := lv_entry ([.ref (alk 0), .int x1, .int x2]) (n := 4) (Nat.le_of_ble_eq_true rfl)
  rw [lg_entry_eq]
  generalize (lg_sl ([.ref (alk 0), .int x1, .int x2]) ++ List.replicate (4 - (lg_sl ([.ref (alk 0), .int x1, .int x2])).length) Slot.unset).toArray = ls at hl ⊢
  have hl : lv_has ls 4 [(0, .ref (alk 0)), (1, .int x1), (2, .int x2)] := hl
  have k_m17 : (-17 : Int32).toInt = -17 := by decide
  have k_0 : (0 : Int32).toInt = 0 := by decide
  have k_1 : (1 : Int32).toInt = 1 := by decide
  obtain ⟨tgt, hT⟩ : ∃ z, md_Locks_release lk x1 x2 = z := ⟨_, rfl⟩
  have hM := hT
  unfold md_Locks_release at hM
  refine lv_iload_n hx hb nd_Locks_release_0 rfl (lv_at hl 2 rfl) ?_
  refine lv_aload_n hx hb nd_Locks_release_1 rfl (lv_at hl 0 rfl) ?_
  refine lv_iload_n hx hb nd_Locks_release_2 rfl (lv_at hl 1 rfl) ?_
  have hPc := hP
  have hDc := hD
  have hFc := va_free (wc := cw_Locks cI cZ cO alk lk) hD hS hA [0, 1, 2, 3] rfl
  refine va_calli (va_runV (As := [.int x1]) (rest := [.int x2]) ⟨hx, hb, hml, hown, hts⟩ (ct_Locks_lastTakenBy l dC dI cI cZ cO alk s.heap.size lk x1 hR_lk) (cwV 1 hts (ng_V tw_316 tw_318 tp_8 tw_4 tw_319) rfl rfl rfl (by decide +kernel) ⟨Nat.le_of_ble_eq_true rfl, Nat.le_of_ble_eq_true rfl⟩) ⟨fun a U g mk q => by obtain ⟨q0, q1, qP, qK, qD⟩ := q; exact ⟨q0, q1, qP, va_K.moved (u := U) (U := U.calling g mk a) (Vm.Alike.refl U.vm) qK, qD⟩, va_recv hK hPc (ci := 2) (q0 := 0) rfl rfl, fun U hU hW => ⟨rfl, by rw [hU], by rw [hU]; exact hPc, va_K.moved hW.alike hK, hDc.weaken (fun _ _ _ _ => trivial)⟩⟩ rfl rfl hl.1 rfl (lv_room (Nat.le_of_ble_eq_true rfl)) nd_Locks_release_3 ⟨Nat.zero_le _, Nat.zero_le _⟩) hS (fun q _ h => hFc q h) hFc (fun r_1 u t H1 locs ht hvm hw hB hz1 hk1 hS => ?_)
  obtain ⟨hP1, hK1, hD1⟩ := hB
  rw [ht] at hP1
  obtain ⟨w_2, f_3⟩ := hw
  try rw [← w_2] at hM
  have hP := hP1
  have hD := cr_Dw hD1 hFc
  generalize H1 = H at hP hS ⊢
  refine lv_icmp_eq (tgt := 12) hx hb nd_Locks_release_6 (by decide) (fun c_4 => ?_) (fun c_4 => ?_)
  · have c_4t := cr_eq c_4
    rw [if_pos c_4] at hM
    refine lv_aload_n hx hb nd_Locks_release_12 rfl (lv_at hl 0 rfl) ?_
    refine lv_iload_n hx hb nd_Locks_release_13 rfl (lv_at hl 2 rfl) ?_
    have hPc := hP
    have hDc := hD
    have hFc := va_free (wc := cw_Locks cI cZ cO alk lk) hD hS hA [0, 1, 2, 3] rfl
    refine va_calli (va_runV (As := [.int x2]) (rest := []) ⟨hx, hb, hml, hown, hts⟩ (ct_Locks_longestSpinnerFor l dC dI cI cZ cO alk H.size lk x2 hR_lk) (cwV 1 hts (ng_V tw_324 tw_326 tp_9 tw_4 tw_327) rfl rfl rfl (by decide +kernel) ⟨Nat.le_of_ble_eq_true rfl, Nat.le_of_ble_eq_true rfl⟩) ⟨fun a U g mk q => by obtain ⟨q0, q1, qP, qK, qD⟩ := q; exact ⟨q0, q1, qP, va_K.moved (u := U) (U := U.calling g mk a) (Vm.Alike.refl U.vm) qK, qD⟩, va_recv hK hPc (ci := 2) (q0 := 0) rfl rfl, fun U hU hW => ⟨rfl, by rw [hU], by rw [hU]; exact hPc, va_K.moved hW.alike hK, hDc.weaken (fun _ _ _ _ => trivial)⟩⟩ rfl rfl hl.1 rfl (lv_room (Nat.le_of_ble_eq_true rfl)) nd_Locks_release_14 ⟨Nat.zero_le _, Nat.zero_le _⟩) hS (fun q _ h => hFc q h) hFc (fun r_5 u t H1 locs ht hvm hw hB hz1 hk1 hS => ?_)
    obtain ⟨hP1, hK1, hD1⟩ := hB
    rw [ht] at hP1
    obtain ⟨w_6, f_7⟩ := hw
    try rw [← w_6] at hM
    have hP := hP1
    have hD := cr_Dw hD1 hFc
    generalize H1 = H at hP hS ⊢
    refine lv_istore_n (lv' := [(3, .int r_5), (0, .ref (alk 0)), (1, .int x1), (2, .int x2)]) hx hb nd_Locks_release_17 rfl hl (by decide) rfl (fun ls hl => ?_)
    refine lv_aload_n hx hb nd_Locks_release_18 rfl (lv_at hl 1 rfl) ?_
    refine va_get (D := (dC, dI)) (ci := 2) (v := .ref (alk 1)) (C := "CeilingRows$Locks") (T := nf_Locks) (N := 4) hx hb hts nin_Locks hown hK hP 0 rfl rfl 0 (by decide) (hts _ tw_100) (fun _ h9 => h9) rfl nd_Locks_release_19 ?_
    refine lv_iload_n hx hb nd_Locks_release_22 rfl (lv_at hl 3 rfl) ?_
    refine lv_iload_n hx hb nd_Locks_release_23 rfl (lv_at hl 0 rfl) ?_
    have b_8 : vp_in x2 9 := vp_in_iff.mpr (by omega)
    refine va_iast hx hb hK hP hD hS 1 0 rfl rfl b_8 nd_Locks_release_24 (fun H locs hP hD hS => ?_)
    have hP : va_P (dC, dI) vwCl (cw_Locks cI cZ cO alk (cr_up lk 1 x2.toNatClampNeg r_5)) H := hP
    have hD : va_D A (cw_Locks cI cZ cO alk (cr_up lk 1 x2.toNatClampNeg r_5)) := hD
    have hR_9 : cr_RLocks (cr_up lk 1 x2.toNatClampNeg r_5) := ⟨cr_rg_up hR_lk.1 (fun _ => by omega), cr_rg_up hR_lk.2 (fun e => absurd e (by decide))⟩
    obtain ⟨lkq_10, hlkq_10⟩ : ∃ z, (cr_up lk 1 x2.toNatClampNeg r_5) = z := ⟨_, rfl⟩
    rw [hlkq_10] at hP hD hR_9
    try rw [hlkq_10] at hM
    refine lv_aload_n hx hb nd_Locks_release_25 rfl (lv_at hl 1 rfl) ?_
    refine va_get (D := (dC, dI)) (ci := 2) (v := .ref (alk 2)) (C := "CeilingRows$Locks") (T := nf_Locks) (N := 4) hx hb hts nin_Locks hown hK hP 0 rfl rfl 1 (by decide) (hts _ tw_101) (fun _ h9 => h9) rfl nd_Locks_release_26 ?_
    refine lv_iload_n hx hb nd_Locks_release_29 rfl (lv_at hl 0 rfl) ?_
    refine lv_iconst (v := 0) hx hb nd_Locks_release_30 (by decide) ?_
    have b_11 : vp_in r_5 4 := vp_in_iff.mpr (by omega)
    refine va_iast hx hb hK hP hD hS 2 0 rfl rfl b_11 nd_Locks_release_31 (fun H locs hP hD hS => ?_)
    have hP : va_P (dC, dI) vwCl (cw_Locks cI cZ cO alk (cr_up lkq_10 2 r_5.toNatClampNeg (0 : Int32))) H := hP
    have hD : va_D A (cw_Locks cI cZ cO alk (cr_up lkq_10 2 r_5.toNatClampNeg (0 : Int32))) := hD
    have hR_12 : cr_RLocks (cr_up lkq_10 2 r_5.toNatClampNeg (0 : Int32)) := ⟨cr_rg_up hR_9.1 (fun e => absurd e (by decide)), cr_rg_up hR_9.2 (fun _ => by omega)⟩
    obtain ⟨lkq_13, hlkq_13⟩ : ∃ z, (cr_up lkq_10 2 r_5.toNatClampNeg (0 : Int32)) = z := ⟨_, rfl⟩
    rw [hlkq_13] at hP hD hR_12
    try rw [hlkq_13] at hM
    refine lv_iconst (v := 1) hx hb nd_Locks_release_32 (by decide) ?_
    exact W.iret (v := (1 : Int32)) hx hb hr (fun t ht hW => ⟨⟨(1 : Int32), lkq_13, rfl, ⟨by rw [hT, ← hM], by rw [hT, ← hM], hR_12⟩, by rw [ht]; exact hP, va_K.moved hW.alike hK, hD⟩, hS.F ht⟩) hS.2.2 nd_Locks_release_33
  · have c_4t := cr_ne c_4
    rw [if_neg c_4] at hM
    refine lv_bipush (v := -17) hx hb nd_Locks_release_9 (by decide) ?_
    exact W.iret (v := (-17 : Int32)) hx hb hr (fun t ht hW => ⟨⟨(-17 : Int32), lk, rfl, ⟨by rw [hT, ← hM], by rw [hT, ← hM], hR_lk⟩, by rw [ht]; exact hP, va_K.moved hW.alike hK, hD⟩, hS.F ht⟩) hS.2.2 nd_Locks_release_11

theorem nd_Locks_waitsForItself_0 : decode prog_3_method_7_code 0 = .ok (.iload_n 1, 1) := by decide +kernel
theorem nd_Locks_waitsForItself_1 : decode prog_3_method_7_code 1 = .ok (.istore_n 2, 1) := by decide +kernel
theorem nd_Locks_waitsForItself_2 : decode prog_3_method_7_code 2 = .ok (.iconst 0, 1) := by decide +kernel
theorem nd_Locks_waitsForItself_3 : decode prog_3_method_7_code 3 = .ok (.istore_n 3, 1) := by decide +kernel
theorem nd_Locks_waitsForItself_4 : decode prog_3_method_7_code 4 = .ok (.iload_n 3, 1) := by decide +kernel
theorem nd_Locks_waitsForItself_5 : decode prog_3_method_7_code 5 = .ok (.iconst 3, 1) := by decide +kernel
theorem nd_Locks_waitsForItself_6 : decode prog_3_method_7_code 6 = .ok (.if_icmp .ge (36), 3) := by decide +kernel
theorem nd_Locks_waitsForItself_9 : decode prog_3_method_7_code 9 = .ok (.aload_n 0, 1) := by decide +kernel
theorem nd_Locks_waitsForItself_10 : decode prog_3_method_7_code 10 = .ok (.iload_n 2, 1) := by decide +kernel
theorem nd_Locks_waitsForItself_11 : decode prog_3_method_7_code 11 = .ok (.invokevirtual 32, 3) := by decide +kernel
theorem nd_Locks_waitsForItself_14 : decode prog_3_method_7_code 14 = .ok (.ifCond .eq (28), 3) := by decide +kernel
theorem nd_Locks_waitsForItself_17 : decode prog_3_method_7_code 17 = .ok (.aload_n 0, 1) := by decide +kernel
theorem nd_Locks_waitsForItself_18 : decode prog_3_method_7_code 18 = .ok (.getfield 9, 3) := by decide +kernel
theorem nd_Locks_waitsForItself_21 : decode prog_3_method_7_code 21 = .ok (.aload_n 0, 1) := by decide +kernel
theorem nd_Locks_waitsForItself_22 : decode prog_3_method_7_code 22 = .ok (.getfield 15, 3) := by decide +kernel
theorem nd_Locks_waitsForItself_25 : decode prog_3_method_7_code 25 = .ok (.iload_n 2, 1) := by decide +kernel
theorem nd_Locks_waitsForItself_26 : decode prog_3_method_7_code 26 = .ok (.iaload, 1) := by decide +kernel
theorem nd_Locks_waitsForItself_27 : decode prog_3_method_7_code 27 = .ok (.iaload, 1) := by decide +kernel
theorem nd_Locks_waitsForItself_28 : decode prog_3_method_7_code 28 = .ok (.istore_n 2, 1) := by decide +kernel
theorem nd_Locks_waitsForItself_29 : decode prog_3_method_7_code 29 = .ok (.iload_n 2, 1) := by decide +kernel
theorem nd_Locks_waitsForItself_30 : decode prog_3_method_7_code 30 = .ok (.iload_n 1, 1) := by decide +kernel
theorem nd_Locks_waitsForItself_31 : decode prog_3_method_7_code 31 = .ok (.if_icmp .ne (5), 3) := by decide +kernel
theorem nd_Locks_waitsForItself_34 : decode prog_3_method_7_code 34 = .ok (.iconst 1, 1) := by decide +kernel
theorem nd_Locks_waitsForItself_35 : decode prog_3_method_7_code 35 = .ok (.ireturn, 1) := by decide +kernel
theorem nd_Locks_waitsForItself_36 : decode prog_3_method_7_code 36 = .ok (.iinc 3 1, 3) := by decide +kernel
theorem nd_Locks_waitsForItself_39 : decode prog_3_method_7_code 39 = .ok (.goto (-35), 3) := by decide +kernel
theorem nd_Locks_waitsForItself_42 : decode prog_3_method_7_code 42 = .ok (.iconst 0, 1) := by decide +kernel
theorem nd_Locks_waitsForItself_43 : decode prog_3_method_7_code 43 = .ok (.ireturn, 1) := by decide +kernel
abbrev pq_Locks_waitsForItself (dC : Nat → ClassId) (dI : Nat → Nat → Nat) (cI cZ cO : ClassId) (alk : Nat → Nat) (lk : cr_S) (x1 : Int32) (A : Nat → Prop) : Array Value → State → Outcome → State → Prop :=
  va_Qi (fun (r : Int32) (_ : Unit) => r = md_Locks_waitsForItself lk x1) (fun (_ : Unit) t => va_P (dC, dI) vwCl (cw_Locks cI cZ cO alk lk) t.heap ∧ va_K (dC, dI) vwCl [(cI, .int), (cZ, .boolean), (cO, .array .int)] t ∧ va_D A (cw_Locks cI cZ cO alk lk)) A
set_option maxHeartbeats 4000000 in
set_option maxRecDepth 100000 in
theorem ct_Locks_waitsForItself (l : Launch) (dC : Nat → ClassId) (dI : Nat → Nat → Nat) (cI cZ cO : ClassId) (alk : Nat → Nat) (sz : Nat) (lk : cr_S) (x1 : Int32) (hR_lk : cr_RLocks lk) (hx1 : 1 ≤ x1.toInt ∧ x1.toInt ≤ 3) : Met l ny_Locks_waitsForItself nw_Locks_waitsForItself ({ frames := 1, cells := 0, slots := 0, locals := 21 } : Room) (va_Pc [.ref (alk 0), .int x1] (fun U => U.heap.size = sz ∧ va_P (dC, dI) vwCl (cw_Locks cI cZ cO alk lk) U.heap ∧ va_K (dC, dI) vwCl [(cI, .int), (cZ, .boolean), (cO, .array .int)] U ∧ va_D (fun _ => True) (cw_Locks cI cZ cO alk lk))) (pq_Locks_waitsForItself dC dI cI cZ cO alk lk x1 (va_A (cw_Locks cI cZ cO alk lk) sz)) 0 0 (va_A (cw_Locks cI cZ cO alk lk) sz) := by
  refine Met.ofW (cc := prog_3_method_7_code) (maxL := 4) (ret := (some .boolean)) (by decide) rfl ?_
  intro p e s m args below meth c s₁ B hml hv
  obtain ⟨rfl, hsz, hP, hK, hD0⟩ := hv
  have hx := B.exec
  have hb := B.bytes
  have hr := B.returns
  have hts0 := atoms_spec (ws := nw_Locks_waitsForItself) B.pre
  have hts : ∀ w ∈ ng_tbl, w.before ([.ref (alk 0), .int x1] : List Value).toArray s = true := fun w h => hts0 w (List.mem_cons_of_mem _ h)
  have hown : s.vm.findClass "CeilingRows$Locks" = some m.cls := findClass_of_methodNamed B.named
  have hlocks := B.notSynchronized
  subst hsz
  have hD := hD0.self (sz := s.heap.size)
  generalize hAe : va_A (cw_Locks cI cZ cO alk lk) s.heap.size = A at hD ⊢
  have hA : ∀ q : Nat, s.heap.size ≤ q → A q := fun q h => by rw [← hAe]; exact Or.inr h
  have hS : va_S A s.heap s.heap [] := va_S.rf
  have hP : va_P (dC, dI) vwCl (cw_Locks cI cZ cO alk lk) s.heap := hP
  have hl := lv_entry ([.ref (alk 0), .int x1]) (n := 4) (Nat.le_of_ble_eq_true rfl)
  rw [lg_entry_eq]
  generalize (lg_sl ([.ref (alk 0), .int x1]) ++ List.replicate (4 - (lg_sl ([.ref (alk 0), .int x1])).length) Slot.unset).toArray = ls at hl ⊢
  have hl : lv_has ls 4 [(0, .ref (alk 0)), (1, .int x1)] := hl
  have k_0 : (0 : Int32).toInt = 0 := by decide
  have k_1 : (1 : Int32).toInt = 1 := by decide
  have k_3 : (3 : Int32).toInt = 3 := by decide
  obtain ⟨tgt, hT⟩ : ∃ z, md_Locks_waitsForItself lk x1 = z := ⟨_, rfl⟩
  have hM := hT
  unfold md_Locks_waitsForItself at hM
  refine lv_iload_n hx hb nd_Locks_waitsForItself_0 rfl (lv_at hl 1 rfl) ?_
  refine lv_istore_n (lv' := [(2, .int x1), (0, .ref (alk 0)), (1, .int x1)]) hx hb nd_Locks_waitsForItself_1 rfl hl (by decide) rfl (fun ls hl => ?_)
  refine lv_iconst (v := 0) hx hb nd_Locks_waitsForItself_2 (by decide) ?_
  refine lv_istore_n (lv' := [(3, .int (0 : Int32)), (2, .int x1), (0, .ref (alk 0)), (1, .int x1)]) hx hb nd_Locks_waitsForItself_3 rfl hl (by decide) rfl (fun ls hl => ?_)
  have hl := lv_sub hl [2, 3, 1, 0] rfl
  have lp_4 : ∀ (n_4 : Nat) (v2_4 : Int32) (v3_4 : Int32), (0 ≤ v3_4.toInt ∧ v3_4.toInt ≤ 3) → (0 ≤ v2_4.toInt ∧ v2_4.toInt ≤ 3) → (3 < v3_4.toInt + (n_4 : Int)) → lo_Locks_waitsForItself_4 lk x1 n_4 v2_4 v3_4 = tgt → ∀ (H : Heap) (locs : List Loc), va_P (dC, dI) vwCl (cw_Locks cI cZ cO alk lk) H → va_D A (cw_Locks cI cZ cO alk lk) → va_S A s.heap H locs → ∀ ls : Array Slot, lv_has ls 4 [(0, .ref (alk 0)), (1, .int x1), (2, .int v2_4), (3, .int v3_4)] → W p l e (headSpec nw_Locks_waitsForItself ({ frames := 1, cells := 0, slots := 0, locals := 21 } : Room)).room s m ([.ref (alk 0), .int x1] : List Value).toArray below meth c H locs 0 0 (MQ below (pq_Locks_waitsForItself dC dI cI cZ cO alk lk x1 A) ([.ref (alk 0), .int x1] : List Value).toArray s 0 0 A) (F0 m 4 ls []) := by
    intro n_4
    induction n_4 with
    | zero =>
      intro v2_4 v3_4 hv3_4 hv2_4 hn_4
      exfalso; omega
    | succ n_4 ih_4 =>
      intro v2_4 v3_4 hv3_4 hv2_4 hn_4 hM H locs hP hD hS ls hl
      have hn_4 : 3 < v3_4.toInt + ((n_4 : Int) + 1) := by omega
      rw [lo_Locks_waitsForItself_4] at hM
      refine lv_iload_n hx hb nd_Locks_waitsForItself_4 rfl (lv_at hl 3 rfl) ?_
      refine lv_iconst (v := 3) hx hb nd_Locks_waitsForItself_5 (by decide) ?_
      refine lv_icmp_ge (tgt := 42) hx hb nd_Locks_waitsForItself_6 (by decide) (fun c_1 => ?_) (fun c_1 => ?_)
      · have c_1t := cr_le c_1
        rw [if_pos c_1] at hM
        refine lv_iconst (v := 0) hx hb nd_Locks_waitsForItself_42 (by decide) ?_
        exact W.zret (v := (0 : Int32)) (ty := .boolean) hx hb hr (by decide) (fun t ht hW => ⟨⟨(0 : Int32), (), rfl, by rw [hT, ← hM], by rw [ht]; exact hP, va_K.moved hW.alike hK, hD⟩, hS.F ht⟩) hS.2.2 nd_Locks_waitsForItself_43
      · have c_1t := cr_nle c_1
        rw [if_neg c_1] at hM
        refine lv_aload_n hx hb nd_Locks_waitsForItself_9 rfl (lv_at hl 0 rfl) ?_
        refine lv_iload_n hx hb nd_Locks_waitsForItself_10 rfl (lv_at hl 2 rfl) ?_
        have hPc := hP
        have hDc := hD
        have hFc := va_free (wc := cw_Locks cI cZ cO alk lk) hD hS hA [0, 1, 2, 3] rfl
        refine va_calli (va_runV (As := [.int v2_4]) (rest := []) ⟨hx, hb, hml, hown, hts⟩ (ct_Locks_spins l dC dI cI cZ cO alk H.size lk v2_4 hR_lk (by omega)) (cwV 1 hts (ng_V tw_336 tw_235 tw_236 tw_4 tw_237) rfl rfl rfl (by decide +kernel) ⟨Nat.le_of_ble_eq_true rfl, Nat.le_of_ble_eq_true rfl⟩) ⟨fun a U g mk q => by obtain ⟨q0, q1, qP, qK, qD⟩ := q; exact ⟨q0, q1, qP, va_K.moved (u := U) (U := U.calling g mk a) (Vm.Alike.refl U.vm) qK, qD⟩, va_recv hK hPc (ci := 2) (q0 := 0) rfl rfl, fun U hU hW => ⟨rfl, by rw [hU], by rw [hU]; exact hPc, va_K.moved hW.alike hK, hDc.weaken (fun _ _ _ _ => trivial)⟩⟩ rfl rfl hl.1 rfl (lv_room (Nat.le_of_ble_eq_true rfl)) nd_Locks_waitsForItself_11 ⟨Nat.zero_le _, Nat.zero_le _⟩) hS (fun q _ h => hFc q h) hFc (fun r_2 u t H1 locs ht hvm hw hB hz1 hk1 hS => ?_)
        obtain ⟨hP1, hK1, hD1⟩ := hB
        rw [ht] at hP1
        have w_3 := hw
        try rw [← w_3] at hM
        have hP := hP1
        have hD := cr_Dw hD1 hFc
        generalize H1 = H at hP hS ⊢
        refine lv_if_eq (tgt := 42) hx hb nd_Locks_waitsForItself_14 (by decide) (fun c_4 => ?_) (fun c_4 => ?_)
        · have c_4t := cr_eq c_4
          rw [if_pos c_4] at hM
          refine lv_iconst (v := 0) hx hb nd_Locks_waitsForItself_42 (by decide) ?_
          exact W.zret (v := (0 : Int32)) (ty := .boolean) hx hb hr (by decide) (fun t ht hW => ⟨⟨(0 : Int32), (), rfl, by rw [hT, ← hM], by rw [ht]; exact hP, va_K.moved hW.alike hK, hD⟩, hS.F ht⟩) hS.2.2 nd_Locks_waitsForItself_43
        · have c_4t := cr_ne c_4
          rw [if_neg c_4] at hM
          refine lv_aload_n hx hb nd_Locks_waitsForItself_17 rfl (lv_at hl 0 rfl) ?_
          refine va_get (D := (dC, dI)) (ci := 2) (v := .ref (alk 1)) (C := "CeilingRows$Locks") (T := nf_Locks) (N := 4) hx hb hts nin_Locks hown hK hP 0 rfl rfl 0 (by decide) (hts _ tw_100) (fun _ h9 => h9) rfl nd_Locks_waitsForItself_18 ?_
          refine lv_aload_n hx hb nd_Locks_waitsForItself_21 rfl (lv_at hl 0 rfl) ?_
          refine va_get (D := (dC, dI)) (ci := 2) (v := .ref (alk 2)) (C := "CeilingRows$Locks") (T := nf_Locks) (N := 4) hx hb hts nin_Locks hown hK hP 0 rfl rfl 1 (by decide) (hts _ tw_101) (fun _ h9 => h9) rfl nd_Locks_waitsForItself_22 ?_
          refine lv_iload_n hx hb nd_Locks_waitsForItself_25 rfl (lv_at hl 2 rfl) ?_
          have b_5 : vp_in v2_4 4 := vp_in_iff.mpr (by omega)
          refine va_iald hx hb hK hP 2 0 rfl rfl b_5 nd_Locks_waitsForItself_26 ?_
          have f_6 := cr_rgo hR_lk.2 (v2_4.toNatClampNeg)
          have b_7 : vp_in (lk 2 v2_4.toNatClampNeg) 9 := vp_in_iff.mpr (by omega)
          refine va_iald hx hb hK hP 1 0 rfl rfl b_7 nd_Locks_waitsForItself_27 ?_
          have f_8 := cr_rgo hR_lk.1 ((lk 2 v2_4.toNatClampNeg).toNatClampNeg)
          refine lv_istore_n (lv' := [(2, .int (lk 1 (lk 2 v2_4.toNatClampNeg).toNatClampNeg)), (0, .ref (alk 0)), (1, .int x1), (3, .int v3_4)]) hx hb nd_Locks_waitsForItself_28 rfl hl (by decide) rfl (fun ls hl => ?_)
          refine lv_iload_n hx hb nd_Locks_waitsForItself_29 rfl (lv_at hl 0 rfl) ?_
          refine lv_iload_n hx hb nd_Locks_waitsForItself_30 rfl (lv_at hl 2 rfl) ?_
          refine lv_icmp_ne (tgt := 36) hx hb nd_Locks_waitsForItself_31 (by decide) (fun c_9 => ?_) (fun c_9 => ?_)
          · have c_9t := cr_ne c_9
            rw [if_neg c_9] at hM
            have e_10 : (v3_4 + (1 : Int32)).toInt = v3_4.toInt + (1 : Int32).toInt := cr_add (by omega)
            refine lv_iinc (v := (v3_4 + (1 : Int32))) (lv' := [(3, .int (v3_4 + (1 : Int32))), (2, .int (lk 1 (lk 2 v2_4.toNatClampNeg).toNatClampNeg)), (0, .ref (alk 0)), (1, .int x1)]) hx hb nd_Locks_waitsForItself_36 hl (k := 3) rfl (by rfl) (by decide) rfl (fun ls hl => ?_)
            refine lv_goto (tgt := 4) hx hb nd_Locks_waitsForItself_39 (by decide) ?_
            exact ih_4 (lk 1 (lk 2 v2_4.toNatClampNeg).toNatClampNeg) (v3_4 + (1 : Int32)) (by omega) (by omega) (by omega) hM _ _ hP hD hS _ (lv_sub hl [2, 3, 1, 0] rfl)
          · have c_9t := cr_eq c_9
            rw [if_pos c_9] at hM
            refine lv_iconst (v := 1) hx hb nd_Locks_waitsForItself_34 (by decide) ?_
            exact W.zret (v := (1 : Int32)) (ty := .boolean) hx hb hr (by decide) (fun t ht hW => ⟨⟨(1 : Int32), (), rfl, by rw [hT, ← hM], by rw [ht]; exact hP, va_K.moved hW.alike hK, hD⟩, hS.F ht⟩) hS.2.2 nd_Locks_waitsForItself_35
  exact lp_4 4 x1 (0 : Int32) (by omega) (by omega) (by omega) hM _ _ hP hD hS _ hl
