theorem nd_Plan_hasTask_0 : decode prog_4_method_2_code 0 = .ok (.iload_n 1, 1) := by decide +kernel
theorem nd_Plan_hasTask_1 : decode prog_4_method_2_code 1 = .ok (.iconst 1, 1) := by decide +kernel
theorem nd_Plan_hasTask_2 : decode prog_4_method_2_code 2 = .ok (.if_icmp .lt (15), 3) := by decide +kernel
theorem nd_Plan_hasTask_5 : decode prog_4_method_2_code 5 = .ok (.iload_n 1, 1) := by decide +kernel
theorem nd_Plan_hasTask_6 : decode prog_4_method_2_code 6 = .ok (.aload_n 0, 1) := by decide +kernel
theorem nd_Plan_hasTask_7 : decode prog_4_method_2_code 7 = .ok (.getfield 29, 3) := by decide +kernel
theorem nd_Plan_hasTask_10 : decode prog_4_method_2_code 10 = .ok (.if_icmp .gt (7), 3) := by decide +kernel
theorem nd_Plan_hasTask_13 : decode prog_4_method_2_code 13 = .ok (.iconst 1, 1) := by decide +kernel
theorem nd_Plan_hasTask_14 : decode prog_4_method_2_code 14 = .ok (.goto (4), 3) := by decide +kernel
theorem nd_Plan_hasTask_17 : decode prog_4_method_2_code 17 = .ok (.iconst 0, 1) := by decide +kernel
theorem nd_Plan_hasTask_18 : decode prog_4_method_2_code 18 = .ok (.ireturn, 1) := by decide +kernel
abbrev pq_Plan_hasTask (dC : Nat → ClassId) (dI : Nat → Nat → Nat) (cI cZ cO : ClassId) (apl : Nat → Nat) (pl : cr_S) (x1 : Int32) (A : Nat → Prop) : Array Value → State → Outcome → State → Prop :=
  va_Qi (fun (r : Int32) (_ : Unit) => r = md_Plan_hasTask pl x1 ∧ (r.toInt = 0 ∨ (1 ≤ x1.toInt ∧ x1.toInt ≤ (pl 0 0).toInt))) (fun (_ : Unit) t => va_P (dC, dI) vwCl (cw_Plan cI cZ cO apl pl) t.heap ∧ va_K (dC, dI) vwCl [(cI, .int), (cZ, .boolean), (cO, .array .int)] t ∧ va_D A (cw_Plan cI cZ cO apl pl)) A
set_option maxHeartbeats 4000000 in
set_option maxRecDepth 100000 in
theorem ct_Plan_hasTask (l : Launch) (dC : Nat → ClassId) (dI : Nat → Nat → Nat) (cI cZ cO : ClassId) (apl : Nat → Nat) (sz : Nat) (pl : cr_S) (x1 : Int32) (hR_pl : cr_RPlan pl) : Met l ny_Plan_hasTask nw_Plan_hasTask ({ frames := 0, cells := 0, slots := 0, locals := 0 } : Room) (va_Pc [.ref (apl 0), .int x1] (fun U => U.heap.size = sz ∧ va_P (dC, dI) vwCl (cw_Plan cI cZ cO apl pl) U.heap ∧ va_K (dC, dI) vwCl [(cI, .int), (cZ, .boolean), (cO, .array .int)] U ∧ va_D (fun _ => True) (cw_Plan cI cZ cO apl pl))) (pq_Plan_hasTask dC dI cI cZ cO apl pl x1 (va_A (cw_Plan cI cZ cO apl pl) sz)) 0 0 (va_A (cw_Plan cI cZ cO apl pl) sz) := by
  refine Met.ofW (cc := prog_4_method_2_code) (maxL := 2) (ret := (some .boolean)) (by decide) rfl ?_
  intro p e s m args below meth c s₁ B hml hv
  obtain ⟨rfl, hsz, hP, hK, hD0⟩ := hv
  have hx := B.exec
  have hb := B.bytes
  have hr := B.returns
  have hts0 := atoms_spec (ws := nw_Plan_hasTask) B.pre
  have hts : ∀ w ∈ ng_tbl, w.before ([.ref (apl 0), .int x1] : List Value).toArray s = true := fun w h => hts0 w (List.mem_cons_of_mem _ h)
  have hown : s.vm.findClass "CeilingRows$Plan" = some m.cls := findClass_of_methodNamed B.named
  have hlocks := B.notSynchronized
  subst hsz
  have hD := hD0.self (sz := s.heap.size)
  generalize hAe : va_A (cw_Plan cI cZ cO apl pl) s.heap.size = A at hD ⊢
  have hA : ∀ q : Nat, s.heap.size ≤ q → A q := fun q h => by rw [← hAe]; exact Or.inr h
  have hS : va_S A s.heap s.heap [] := va_S.rf
  have hP : va_P (dC, dI) vwCl (cw_Plan cI cZ cO apl pl) s.heap := hP
  have hl := lv_entry ([.ref (apl 0), .int x1]) (n := 2) (Nat.le_of_ble_eq_true rfl)
  rw [lg_entry_eq]
  generalize (lg_sl ([.ref (apl 0), .int x1]) ++ List.replicate (2 - (lg_sl ([.ref (apl 0), .int x1])).length) Slot.unset).toArray = ls at hl ⊢
  have hl : lv_has ls 2 [(0, .ref (apl 0)), (1, .int x1)] := hl
  have k_0 : (0 : Int32).toInt = 0 := by decide
  have k_1 : (1 : Int32).toInt = 1 := by decide
  obtain ⟨tgt, hT⟩ : ∃ z, md_Plan_hasTask pl x1 = z := ⟨_, rfl⟩
  have hM := hT
  unfold md_Plan_hasTask at hM
  refine lv_iload_n hx hb nd_Plan_hasTask_0 rfl (lv_at hl 1 rfl) ?_
  refine lv_iconst (v := 1) hx hb nd_Plan_hasTask_1 (by decide) ?_
  refine lv_icmp_lt (tgt := 17) hx hb nd_Plan_hasTask_2 (by decide) (fun c_1 => ?_) (fun c_1 => ?_)
  · have c_1t := cr_lt c_1
    rw [if_pos c_1] at hM
    refine lv_iconst (v := 0) hx hb nd_Plan_hasTask_17 (by decide) ?_
    exact W.zret (v := (0 : Int32)) (ty := .boolean) hx hb hr (by decide) (fun t ht hW => ⟨⟨(0 : Int32), (), rfl, ⟨by rw [hT, ← hM], by omega⟩, by rw [ht]; exact hP, va_K.moved hW.alike hK, hD⟩, hS.F ht⟩) hS.2.2 nd_Plan_hasTask_18
  · have c_1t := cr_nlt c_1
    rw [if_neg c_1] at hM
    refine lv_iload_n hx hb nd_Plan_hasTask_5 rfl (lv_at hl 1 rfl) ?_
    refine lv_aload_n hx hb nd_Plan_hasTask_6 rfl (lv_at hl 0 rfl) ?_
    refine va_get (D := (dC, dI)) (ci := 0) (v := .int (pl 0 0)) (C := "CeilingRows$Plan") (T := nf_Plan) (N := 7) hx hb hts nin_Plan hown hK hP 0 rfl rfl 0 (by decide) (hts _ tw_26) (fun _ h9 => h9) rfl nd_Plan_hasTask_7 ?_
    have f_2 := cr_rfo hR_pl.1
    refine lv_icmp_gt (tgt := 17) hx hb nd_Plan_hasTask_10 (by decide) (fun c_3 => ?_) (fun c_3 => ?_)
    · have c_3t := cr_lt c_3
      rw [if_pos c_3] at hM
      refine lv_iconst (v := 0) hx hb nd_Plan_hasTask_17 (by decide) ?_
      exact W.zret (v := (0 : Int32)) (ty := .boolean) hx hb hr (by decide) (fun t ht hW => ⟨⟨(0 : Int32), (), rfl, ⟨by rw [hT, ← hM], by omega⟩, by rw [ht]; exact hP, va_K.moved hW.alike hK, hD⟩, hS.F ht⟩) hS.2.2 nd_Plan_hasTask_18
    · have c_3t := cr_nlt c_3
      rw [if_neg c_3] at hM
      refine lv_iconst (v := 1) hx hb nd_Plan_hasTask_13 (by decide) ?_
      refine lv_goto (tgt := 18) hx hb nd_Plan_hasTask_14 (by decide) ?_
      exact W.zret (v := (1 : Int32)) (ty := .boolean) hx hb hr (by decide) (fun t ht hW => ⟨⟨(1 : Int32), (), rfl, ⟨by rw [hT, ← hM], by omega⟩, by rw [ht]; exact hP, va_K.moved hW.alike hK, hD⟩, hS.F ht⟩) hS.2.2 nd_Plan_hasTask_18

theorem nd_Plan_hasResource_0 : decode prog_4_method_3_code 0 = .ok (.iload_n 1, 1) := by decide +kernel
theorem nd_Plan_hasResource_1 : decode prog_4_method_3_code 1 = .ok (.iconst 1, 1) := by decide +kernel
theorem nd_Plan_hasResource_2 : decode prog_4_method_3_code 2 = .ok (.if_icmp .lt (15), 3) := by decide +kernel
theorem nd_Plan_hasResource_5 : decode prog_4_method_3_code 5 = .ok (.iload_n 1, 1) := by decide +kernel
theorem nd_Plan_hasResource_6 : decode prog_4_method_3_code 6 = .ok (.aload_n 0, 1) := by decide +kernel
theorem nd_Plan_hasResource_7 : decode prog_4_method_3_code 7 = .ok (.getfield 33, 3) := by decide +kernel
theorem nd_Plan_hasResource_10 : decode prog_4_method_3_code 10 = .ok (.if_icmp .gt (7), 3) := by decide +kernel
theorem nd_Plan_hasResource_13 : decode prog_4_method_3_code 13 = .ok (.iconst 1, 1) := by decide +kernel
theorem nd_Plan_hasResource_14 : decode prog_4_method_3_code 14 = .ok (.goto (4), 3) := by decide +kernel
theorem nd_Plan_hasResource_17 : decode prog_4_method_3_code 17 = .ok (.iconst 0, 1) := by decide +kernel
theorem nd_Plan_hasResource_18 : decode prog_4_method_3_code 18 = .ok (.ireturn, 1) := by decide +kernel
abbrev pq_Plan_hasResource (dC : Nat → ClassId) (dI : Nat → Nat → Nat) (cI cZ cO : ClassId) (apl : Nat → Nat) (pl : cr_S) (x1 : Int32) (A : Nat → Prop) : Array Value → State → Outcome → State → Prop :=
  va_Qi (fun (r : Int32) (_ : Unit) => r = md_Plan_hasResource pl x1 ∧ (r.toInt = 0 ∨ (1 ≤ x1.toInt ∧ x1.toInt ≤ (pl 0 1).toInt))) (fun (_ : Unit) t => va_P (dC, dI) vwCl (cw_Plan cI cZ cO apl pl) t.heap ∧ va_K (dC, dI) vwCl [(cI, .int), (cZ, .boolean), (cO, .array .int)] t ∧ va_D A (cw_Plan cI cZ cO apl pl)) A
set_option maxHeartbeats 4000000 in
set_option maxRecDepth 100000 in
theorem ct_Plan_hasResource (l : Launch) (dC : Nat → ClassId) (dI : Nat → Nat → Nat) (cI cZ cO : ClassId) (apl : Nat → Nat) (sz : Nat) (pl : cr_S) (x1 : Int32) (hR_pl : cr_RPlan pl) : Met l ny_Plan_hasResource nw_Plan_hasResource ({ frames := 0, cells := 0, slots := 0, locals := 0 } : Room) (va_Pc [.ref (apl 0), .int x1] (fun U => U.heap.size = sz ∧ va_P (dC, dI) vwCl (cw_Plan cI cZ cO apl pl) U.heap ∧ va_K (dC, dI) vwCl [(cI, .int), (cZ, .boolean), (cO, .array .int)] U ∧ va_D (fun _ => True) (cw_Plan cI cZ cO apl pl))) (pq_Plan_hasResource dC dI cI cZ cO apl pl x1 (va_A (cw_Plan cI cZ cO apl pl) sz)) 0 0 (va_A (cw_Plan cI cZ cO apl pl) sz) := by
  refine Met.ofW (cc := prog_4_method_3_code) (maxL := 2) (ret := (some .boolean)) (by decide) rfl ?_
  intro p e s m args below meth c s₁ B hml hv
  obtain ⟨rfl, hsz, hP, hK, hD0⟩ := hv
  have hx := B.exec
  have hb := B.bytes
  have hr := B.returns
  have hts0 := atoms_spec (ws := nw_Plan_hasResource) B.pre
  have hts : ∀ w ∈ ng_tbl, w.before ([.ref (apl 0), .int x1] : List Value).toArray s = true := fun w h => hts0 w (List.mem_cons_of_mem _ h)
  have hown : s.vm.findClass "CeilingRows$Plan" = some m.cls := findClass_of_methodNamed B.named
  have hlocks := B.notSynchronized
  subst hsz
  have hD := hD0.self (sz := s.heap.size)
  generalize hAe : va_A (cw_Plan cI cZ cO apl pl) s.heap.size = A at hD ⊢
  have hA : ∀ q : Nat, s.heap.size ≤ q → A q := fun q h => by rw [← hAe]; exact Or.inr h
  have hS : va_S A s.heap s.heap [] := va_S.rf
  have hP : va_P (dC, dI) vwCl (cw_Plan cI cZ cO apl pl) s.heap := hP
  have hl := lv_entry ([.ref (apl 0), .int x1]) (n := 2) (Nat.le_of_ble_eq_true rfl)
  rw [lg_entry_eq]
  generalize (lg_sl ([.ref (apl 0), .int x1]) ++ List.replicate (2 - (lg_sl ([.ref (apl 0), .int x1])).length) Slot.unset).toArray = ls at hl ⊢
  have hl : lv_has ls 2 [(0, .ref (apl 0)), (1, .int x1)] := hl
  have k_0 : (0 : Int32).toInt = 0 := by decide
  have k_1 : (1 : Int32).toInt = 1 := by decide
  obtain ⟨tgt, hT⟩ : ∃ z, md_Plan_hasResource pl x1 = z := ⟨_, rfl⟩
  have hM := hT
  unfold md_Plan_hasResource at hM
  refine lv_iload_n hx hb nd_Plan_hasResource_0 rfl (lv_at hl 1 rfl) ?_
  refine lv_iconst (v := 1) hx hb nd_Plan_hasResource_1 (by decide) ?_
  refine lv_icmp_lt (tgt := 17) hx hb nd_Plan_hasResource_2 (by decide) (fun c_1 => ?_) (fun c_1 => ?_)
  · have c_1t := cr_lt c_1
    rw [if_pos c_1] at hM
    refine lv_iconst (v := 0) hx hb nd_Plan_hasResource_17 (by decide) ?_
    exact W.zret (v := (0 : Int32)) (ty := .boolean) hx hb hr (by decide) (fun t ht hW => ⟨⟨(0 : Int32), (), rfl, ⟨by rw [hT, ← hM], by omega⟩, by rw [ht]; exact hP, va_K.moved hW.alike hK, hD⟩, hS.F ht⟩) hS.2.2 nd_Plan_hasResource_18
  · have c_1t := cr_nlt c_1
    rw [if_neg c_1] at hM
    refine lv_iload_n hx hb nd_Plan_hasResource_5 rfl (lv_at hl 1 rfl) ?_
    refine lv_aload_n hx hb nd_Plan_hasResource_6 rfl (lv_at hl 0 rfl) ?_
    refine va_get (D := (dC, dI)) (ci := 0) (v := .int (pl 0 1)) (C := "CeilingRows$Plan") (T := nf_Plan) (N := 7) hx hb hts nin_Plan hown hK hP 0 rfl rfl 1 (by decide) (hts _ tw_31) (fun _ h9 => h9) rfl nd_Plan_hasResource_7 ?_
    have f_2 := cr_rfo hR_pl.2.1
    refine lv_icmp_gt (tgt := 17) hx hb nd_Plan_hasResource_10 (by decide) (fun c_3 => ?_) (fun c_3 => ?_)
    · have c_3t := cr_lt c_3
      rw [if_pos c_3] at hM
      refine lv_iconst (v := 0) hx hb nd_Plan_hasResource_17 (by decide) ?_
      exact W.zret (v := (0 : Int32)) (ty := .boolean) hx hb hr (by decide) (fun t ht hW => ⟨⟨(0 : Int32), (), rfl, ⟨by rw [hT, ← hM], by omega⟩, by rw [ht]; exact hP, va_K.moved hW.alike hK, hD⟩, hS.F ht⟩) hS.2.2 nd_Plan_hasResource_18
    · have c_3t := cr_nlt c_3
      rw [if_neg c_3] at hM
      refine lv_iconst (v := 1) hx hb nd_Plan_hasResource_13 (by decide) ?_
      refine lv_goto (tgt := 18) hx hb nd_Plan_hasResource_14 (by decide) ?_
      exact W.zret (v := (1 : Int32)) (ty := .boolean) hx hb hr (by decide) (fun t ht hW => ⟨⟨(1 : Int32), (), rfl, ⟨by rw [hT, ← hM], by omega⟩, by rw [ht]; exact hP, va_K.moved hW.alike hK, hD⟩, hS.F ht⟩) hS.2.2 nd_Plan_hasResource_18

theorem nd_Plan_addTask_0 : decode prog_4_method_4_code 0 = .ok (.aload_n 0, 1) := by decide +kernel
theorem nd_Plan_addTask_1 : decode prog_4_method_4_code 1 = .ok (.dup, 1) := by decide +kernel
theorem nd_Plan_addTask_2 : decode prog_4_method_4_code 2 = .ok (.getfield 29, 3) := by decide +kernel
theorem nd_Plan_addTask_5 : decode prog_4_method_4_code 5 = .ok (.iconst 1, 1) := by decide +kernel
theorem nd_Plan_addTask_6 : decode prog_4_method_4_code 6 = .ok (.iadd, 1) := by decide +kernel
theorem nd_Plan_addTask_7 : decode prog_4_method_4_code 7 = .ok (.putfield 29, 3) := by decide +kernel
theorem nd_Plan_addTask_10 : decode prog_4_method_4_code 10 = .ok (.aload_n 0, 1) := by decide +kernel
theorem nd_Plan_addTask_11 : decode prog_4_method_4_code 11 = .ok (.getfield 9, 3) := by decide +kernel
theorem nd_Plan_addTask_14 : decode prog_4_method_4_code 14 = .ok (.aload_n 0, 1) := by decide +kernel
theorem nd_Plan_addTask_15 : decode prog_4_method_4_code 15 = .ok (.getfield 29, 3) := by decide +kernel
theorem nd_Plan_addTask_18 : decode prog_4_method_4_code 18 = .ok (.iload_n 1, 1) := by decide +kernel
theorem nd_Plan_addTask_19 : decode prog_4_method_4_code 19 = .ok (.iastore, 1) := by decide +kernel
theorem nd_Plan_addTask_20 : decode prog_4_method_4_code 20 = .ok (.aload_n 0, 1) := by decide +kernel
theorem nd_Plan_addTask_21 : decode prog_4_method_4_code 21 = .ok (.getfield 15, 3) := by decide +kernel
theorem nd_Plan_addTask_24 : decode prog_4_method_4_code 24 = .ok (.aload_n 0, 1) := by decide +kernel
theorem nd_Plan_addTask_25 : decode prog_4_method_4_code 25 = .ok (.getfield 29, 3) := by decide +kernel
theorem nd_Plan_addTask_28 : decode prog_4_method_4_code 28 = .ok (.iload_n 2, 1) := by decide +kernel
theorem nd_Plan_addTask_29 : decode prog_4_method_4_code 29 = .ok (.iastore, 1) := by decide +kernel
theorem nd_Plan_addTask_30 : decode prog_4_method_4_code 30 = .ok (.aload_n 0, 1) := by decide +kernel
theorem nd_Plan_addTask_31 : decode prog_4_method_4_code 31 = .ok (.getfield 29, 3) := by decide +kernel
theorem nd_Plan_addTask_34 : decode prog_4_method_4_code 34 = .ok (.ireturn, 1) := by decide +kernel
abbrev pq_Plan_addTask (dC : Nat → ClassId) (dI : Nat → Nat → Nat) (cI cZ cO : ClassId) (apl : Nat → Nat) (pl : cr_S) (x1 : Int32) (x2 : Int32) (A : Nat → Prop) : Array Value → State → Outcome → State → Prop :=
  va_Qi (fun (r : Int32) (pl' : cr_S) => r = (md_Plan_addTask pl x1 x2).1 ∧ pl' = (md_Plan_addTask pl x1 x2).2 ∧ cr_RPlan pl') (fun (pl' : cr_S) t => va_P (dC, dI) vwCl (cw_Plan cI cZ cO apl pl') t.heap ∧ va_K (dC, dI) vwCl [(cI, .int), (cZ, .boolean), (cO, .array .int)] t ∧ va_D A (cw_Plan cI cZ cO apl pl')) A
set_option maxHeartbeats 4000000 in
set_option maxRecDepth 100000 in
theorem ct_Plan_addTask (l : Launch) (dC : Nat → ClassId) (dI : Nat → Nat → Nat) (cI cZ cO : ClassId) (apl : Nat → Nat) (sz : Nat) (pl : cr_S) (x1 : Int32) (x2 : Int32) (hR_pl : cr_RPlan pl) (hx2 : 1 ≤ x2.toInt ∧ x2.toInt ≤ 3) (hq : (pl 0 0).toInt ≤ 9) : Met l ny_Plan_addTask nw_Plan_addTask ({ frames := 0, cells := 0, slots := 0, locals := 0 } : Room) (va_Pc [.ref (apl 0), .int x1, .int x2] (fun U => U.heap.size = sz ∧ va_P (dC, dI) vwCl (cw_Plan cI cZ cO apl pl) U.heap ∧ va_K (dC, dI) vwCl [(cI, .int), (cZ, .boolean), (cO, .array .int)] U ∧ va_D (fun _ => True) (cw_Plan cI cZ cO apl pl))) (pq_Plan_addTask dC dI cI cZ cO apl pl x1 x2 (va_A (cw_Plan cI cZ cO apl pl) sz)) 0 0 (va_A (cw_Plan cI cZ cO apl pl) sz) := by
  refine Met.ofW (cc := prog_4_method_4_code) (maxL := 3) (ret := (some .int)) (by decide) rfl ?_
  intro p e s m args below meth c s₁ B hml hv
  obtain ⟨rfl, hsz, hP, hK, hD0⟩ := hv
  have hx := B.exec
  have hb := B.bytes
  have hr := B.returns
  have hts0 := atoms_spec (ws := nw_Plan_addTask) B.pre
  have hts : ∀ w ∈ ng_tbl, w.before ([.ref (apl 0), .int x1, .int x2] : List Value).toArray s = true := fun w h => hts0 w (List.mem_cons_of_mem _ h)
  have hown : s.vm.findClass "CeilingRows$Plan" = some m.cls := findClass_of_methodNamed B.named
  have hlocks := B.notSynchronized
  subst hsz
  have hD := hD0.self (sz := s.heap.size)
  generalize hAe : va_A (cw_Plan cI cZ cO apl pl) s.heap.size = A at hD ⊢
  have hA : ∀ q : Nat, s.heap.size ≤ q → A q := fun q h => by rw [← hAe]; exact Or.inr h
  have hS : va_S A s.heap s.heap [] := va_S.rf
  have hP : va_P (dC, dI) vwCl (cw_Plan cI cZ cO apl pl) s.heap := hP
  have hl := lv_entry ([.ref (apl 0), .int x1, .int x2]) (n := 3) (Nat.le_of_ble_eq_true rfl)
  rw [lg_entry_eq]
  generalize (lg_sl ([.ref (apl 0), .int x1, .int x2]) ++ List.replicate (3 - (lg_sl ([.ref (apl 0), .int x1, .int x2])).length) Slot.unset).toArray = ls at hl ⊢
  have hl : lv_has ls 3 [(0, .ref (apl 0)), (1, .int x1), (2, .int x2)] := hl
  have k_1 : (1 : Int32).toInt = 1 := by decide
  obtain ⟨tgt, hT⟩ : ∃ z, md_Plan_addTask pl x1 x2 = z := ⟨_, rfl⟩
  have hM := hT
  unfold md_Plan_addTask at hM
  refine lv_aload_n hx hb nd_Plan_addTask_0 rfl (lv_at hl 0 rfl) ?_
  refine lv_dup hx hb nd_Plan_addTask_1 rfl ?_
  refine va_get (D := (dC, dI)) (ci := 0) (v := .int (pl 0 0)) (C := "CeilingRows$Plan") (T := nf_Plan) (N := 7) hx hb hts nin_Plan hown hK hP 0 rfl rfl 0 (by decide) (hts _ tw_26) (fun _ h9 => h9) rfl nd_Plan_addTask_2 ?_
  have f_1 := cr_rfo hR_pl.1
  refine lv_iconst (v := 1) hx hb nd_Plan_addTask_5 (by decide) ?_
  refine lv_iadd hx hb nd_Plan_addTask_6 ?_
  have e_2 : ((pl 0 0) + (1 : Int32)).toInt = (pl 0 0).toInt + (1 : Int32).toInt := cr_add (by omega)
  refine va_put (D := (dC, dI)) (ci := 0) (v := .int ((pl 0 0) + (1 : Int32))) (ty := .int) (C := "CeilingRows$Plan") (T := nf_Plan) (N := 7) hx hb hts nin_Plan nt_Plan nto_Plan nno_Plan hown hK hP hD hS 0 rfl rfl 0 (by decide) (hts _ tw_26) (fun _ h9 => h9) rfl (by decide +kernel) rfl rfl (Nat.le_of_ble_eq_true rfl) nd_Plan_addTask_7 (fun H locs hP hD hS => ?_)
  have hP : va_P (dC, dI) vwCl (cw_Plan cI cZ cO apl (cr_up pl 0 0 ((pl 0 0) + (1 : Int32)))) H := hP
  have hD : va_D A (cw_Plan cI cZ cO apl (cr_up pl 0 0 ((pl 0 0) + (1 : Int32)))) := hD
  have hR_3 : cr_RPlan (cr_up pl 0 0 ((pl 0 0) + (1 : Int32))) := ⟨cr_rf_up hR_pl.1 (fun _ _ => by omega), cr_rf_up hR_pl.2.1 (fun _ e => absurd e (by decide)), cr_rg_up hR_pl.2.2 (fun e => absurd e (by decide))⟩
  obtain ⟨plq_4, hplq_4⟩ : ∃ z, (cr_up pl 0 0 ((pl 0 0) + (1 : Int32))) = z := ⟨_, rfl⟩
  rw [hplq_4] at hP hD hR_3
  try rw [hplq_4] at hM
  refine lv_aload_n hx hb nd_Plan_addTask_10 rfl (lv_at hl 0 rfl) ?_
  refine va_get (D := (dC, dI)) (ci := 0) (v := .ref (apl 1)) (C := "CeilingRows$Plan") (T := nf_Plan) (N := 7) hx hb hts nin_Plan hown hK hP 0 rfl rfl 2 (by decide) (hts _ tw_34) (fun _ h9 => h9) rfl nd_Plan_addTask_11 ?_
  refine lv_aload_n hx hb nd_Plan_addTask_14 rfl (lv_at hl 0 rfl) ?_
  refine va_get (D := (dC, dI)) (ci := 0) (v := .int (plq_4 0 0)) (C := "CeilingRows$Plan") (T := nf_Plan) (N := 7) hx hb hts nin_Plan hown hK hP 0 rfl rfl 0 (by decide) (hts _ tw_26) (fun _ h9 => h9) rfl nd_Plan_addTask_15 ?_
  have f_5 := cr_rfo hR_3.1
  refine lv_iload_n hx hb nd_Plan_addTask_18 rfl (lv_at hl 1 rfl) ?_
  have b_6 : vp_in (plq_4 0 0) 11 := vp_in_iff.mpr (by omega)
  refine va_iast hx hb hK hP hD hS 1 0 rfl rfl b_6 nd_Plan_addTask_19 (fun H locs hP hD hS => ?_)
  have hP : va_P (dC, dI) vwCl (cw_Plan cI cZ cO apl (cr_up plq_4 1 (plq_4 0 0).toNatClampNeg x1)) H := hP
  have hD : va_D A (cw_Plan cI cZ cO apl (cr_up plq_4 1 (plq_4 0 0).toNatClampNeg x1)) := hD
  have hR_7 : cr_RPlan (cr_up plq_4 1 (plq_4 0 0).toNatClampNeg x1) := ⟨cr_rf_up hR_3.1 (fun e _ => absurd e (by decide)), cr_rf_up hR_3.2.1 (fun e _ => absurd e (by decide)), cr_rg_up hR_3.2.2 (fun e => absurd e (by decide))⟩
  obtain ⟨plq_8, hplq_8⟩ : ∃ z, (cr_up plq_4 1 (plq_4 0 0).toNatClampNeg x1) = z := ⟨_, rfl⟩
  rw [hplq_8] at hP hD hR_7
  try rw [hplq_8] at hM
  refine lv_aload_n hx hb nd_Plan_addTask_20 rfl (lv_at hl 0 rfl) ?_
  refine va_get (D := (dC, dI)) (ci := 0) (v := .ref (apl 2)) (C := "CeilingRows$Plan") (T := nf_Plan) (N := 7) hx hb hts nin_Plan hown hK hP 0 rfl rfl 3 (by decide) (hts _ tw_36) (fun _ h9 => h9) rfl nd_Plan_addTask_21 ?_
  refine lv_aload_n hx hb nd_Plan_addTask_24 rfl (lv_at hl 0 rfl) ?_
  refine va_get (D := (dC, dI)) (ci := 0) (v := .int (plq_8 0 0)) (C := "CeilingRows$Plan") (T := nf_Plan) (N := 7) hx hb hts nin_Plan hown hK hP 0 rfl rfl 0 (by decide) (hts _ tw_26) (fun _ h9 => h9) rfl nd_Plan_addTask_25 ?_
  have f_9 := cr_rfo hR_7.1
  refine lv_iload_n hx hb nd_Plan_addTask_28 rfl (lv_at hl 2 rfl) ?_
  have b_10 : vp_in (plq_8 0 0) 11 := vp_in_iff.mpr (by omega)
  refine va_iast hx hb hK hP hD hS 2 0 rfl rfl b_10 nd_Plan_addTask_29 (fun H locs hP hD hS => ?_)
  have hP : va_P (dC, dI) vwCl (cw_Plan cI cZ cO apl (cr_up plq_8 2 (plq_8 0 0).toNatClampNeg x2)) H := hP
  have hD : va_D A (cw_Plan cI cZ cO apl (cr_up plq_8 2 (plq_8 0 0).toNatClampNeg x2)) := hD
  have hR_11 : cr_RPlan (cr_up plq_8 2 (plq_8 0 0).toNatClampNeg x2) := ⟨cr_rf_up hR_7.1 (fun e _ => absurd e (by decide)), cr_rf_up hR_7.2.1 (fun e _ => absurd e (by decide)), cr_rg_up hR_7.2.2 (fun _ => by omega)⟩
  obtain ⟨plq_12, hplq_12⟩ : ∃ z, (cr_up plq_8 2 (plq_8 0 0).toNatClampNeg x2) = z := ⟨_, rfl⟩
  rw [hplq_12] at hP hD hR_11
  try rw [hplq_12] at hM
  refine lv_aload_n hx hb nd_Plan_addTask_30 rfl (lv_at hl 0 rfl) ?_
  refine va_get (D := (dC, dI)) (ci := 0) (v := .int (plq_12 0 0)) (C := "CeilingRows$Plan") (T := nf_Plan) (N := 7) hx hb hts nin_Plan hown hK hP 0 rfl rfl 0 (by decide) (hts _ tw_26) (fun _ h9 => h9) rfl nd_Plan_addTask_31 ?_
  have f_13 := cr_rfo hR_11.1
  exact W.iret (v := (plq_12 0 0)) hx hb hr (fun t ht hW => ⟨⟨(plq_12 0 0), plq_12, rfl, ⟨by rw [hT, ← hM], by rw [hT, ← hM], hR_11⟩, by rw [ht]; exact hP, va_K.moved hW.alike hK, hD⟩, hS.F ht⟩) hS.2.2 nd_Plan_addTask_34

theorem nd_Plan_addResource_0 : decode prog_4_method_5_code 0 = .ok (.aload_n 0, 1) := by decide +kernel
theorem nd_Plan_addResource_1 : decode prog_4_method_5_code 1 = .ok (.dup, 1) := by decide +kernel
theorem nd_Plan_addResource_2 : decode prog_4_method_5_code 2 = .ok (.getfield 33, 3) := by decide +kernel
theorem nd_Plan_addResource_5 : decode prog_4_method_5_code 5 = .ok (.iconst 1, 1) := by decide +kernel
theorem nd_Plan_addResource_6 : decode prog_4_method_5_code 6 = .ok (.iadd, 1) := by decide +kernel
theorem nd_Plan_addResource_7 : decode prog_4_method_5_code 7 = .ok (.putfield 33, 3) := by decide +kernel
theorem nd_Plan_addResource_10 : decode prog_4_method_5_code 10 = .ok (.aload_n 0, 1) := by decide +kernel
theorem nd_Plan_addResource_11 : decode prog_4_method_5_code 11 = .ok (.getfield 33, 3) := by decide +kernel
theorem nd_Plan_addResource_14 : decode prog_4_method_5_code 14 = .ok (.ireturn, 1) := by decide +kernel
abbrev pq_Plan_addResource (dC : Nat → ClassId) (dI : Nat → Nat → Nat) (cI cZ cO : ClassId) (apl : Nat → Nat) (pl : cr_S)  (A : Nat → Prop) : Array Value → State → Outcome → State → Prop :=
  va_Qi (fun (r : Int32) (pl' : cr_S) => r = (md_Plan_addResource pl).1 ∧ pl' = (md_Plan_addResource pl).2 ∧ cr_RPlan pl') (fun (pl' : cr_S) t => va_P (dC, dI) vwCl (cw_Plan cI cZ cO apl pl') t.heap ∧ va_K (dC, dI) vwCl [(cI, .int), (cZ, .boolean), (cO, .array .int)] t ∧ va_D A (cw_Plan cI cZ cO apl pl')) A
set_option maxHeartbeats 4000000 in
set_option maxRecDepth 100000 in
theorem ct_Plan_addResource (l : Launch) (dC : Nat → ClassId) (dI : Nat → Nat → Nat) (cI cZ cO : ClassId) (apl : Nat → Nat) (sz : Nat) (pl : cr_S)  (hR_pl : cr_RPlan pl) (hq : (pl 0 1).toInt ≤ 7) : Met l ny_Plan_addResource nw_Plan_addResource ({ frames := 0, cells := 0, slots := 0, locals := 0 } : Room) (va_Pc [.ref (apl 0)] (fun U => U.heap.size = sz ∧ va_P (dC, dI) vwCl (cw_Plan cI cZ cO apl pl) U.heap ∧ va_K (dC, dI) vwCl [(cI, .int), (cZ, .boolean), (cO, .array .int)] U ∧ va_D (fun _ => True) (cw_Plan cI cZ cO apl pl))) (pq_Plan_addResource dC dI cI cZ cO apl pl  (va_A (cw_Plan cI cZ cO apl pl) sz)) 0 0 (va_A (cw_Plan cI cZ cO apl pl) sz) := by
  refine Met.ofW (cc := prog_4_method_5_code) (maxL := 1) (ret := (some .int)) (by decide) rfl ?_
  intro p e s m args below meth c s₁ B hml hv
  obtain ⟨rfl, hsz, hP, hK, hD0⟩ := hv
  have hx := B.exec
  have hb := B.bytes
  have hr := B.returns
  have hts0 := atoms_spec (ws := nw_Plan_addResource) B.pre
  have hts : ∀ w ∈ ng_tbl, w.before ([.ref (apl 0)] : List Value).toArray s = true := fun w h => hts0 w (List.mem_cons_of_mem _ h)
  have hown : s.vm.findClass "CeilingRows$Plan" = some m.cls := findClass_of_methodNamed B.named
  have hlocks := B.notSynchronized
  subst hsz
  have hD := hD0.self (sz := s.heap.size)
  generalize hAe : va_A (cw_Plan cI cZ cO apl pl) s.heap.size = A at hD ⊢
  have hA : ∀ q : Nat, s.heap.size ≤ q → A q := fun q h => by rw [← hAe]; exact Or.inr h
  have hS : va_S A s.heap s.heap [] := va_S.rf
  have hP : va_P (dC, dI) vwCl (cw_Plan cI cZ cO apl pl) s.heap := hP
  have hl := lv_entry ([.ref (apl 0)]) (n := 1) (Nat.le_of_ble_eq_true rfl)
  rw [lg_entry_eq]
  generalize (lg_sl ([.ref (apl 0)]) ++ List.replicate (1 - (lg_sl ([.ref (apl 0)])).length) Slot.unset).toArray = ls at hl ⊢
  have hl : lv_has ls 1 [(0, .ref (apl 0))] := hl
  have k_1 : (1 : Int32).toInt = 1 := by decide
  obtain ⟨tgt, hT⟩ : ∃ z, md_Plan_addResource pl = z := ⟨_, rfl⟩
  have hM := hT
  unfold md_Plan_addResource at hM
  refine lv_aload_n hx hb nd_Plan_addResource_0 rfl (lv_at hl 0 rfl) ?_
  refine lv_dup hx hb nd_Plan_addResource_1 rfl ?_
  refine va_get (D := (dC, dI)) (ci := 0) (v := .int (pl 0 1)) (C := "CeilingRows$Plan") (T := nf_Plan) (N := 7) hx hb hts nin_Plan hown hK hP 0 rfl rfl 1 (by decide) (hts _ tw_31) (fun _ h9 => h9) rfl nd_Plan_addResource_2 ?_
  have f_1 := cr_rfo hR_pl.2.1
  refine lv_iconst (v := 1) hx hb nd_Plan_addResource_5 (by decide) ?_
  refine lv_iadd hx hb nd_Plan_addResource_6 ?_
  have e_2 : ((pl 0 1) + (1 : Int32)).toInt = (pl 0 1).toInt + (1 : Int32).toInt := cr_add (by omega)
  refine va_put (D := (dC, dI)) (ci := 0) (v := .int ((pl 0 1) + (1 : Int32))) (ty := .int) (C := "CeilingRows$Plan") (T := nf_Plan) (N := 7) hx hb hts nin_Plan nt_Plan nto_Plan nno_Plan hown hK hP hD hS 0 rfl rfl 1 (by decide) (hts _ tw_31) (fun _ h9 => h9) rfl (by decide +kernel) rfl rfl (Nat.le_of_ble_eq_true rfl) nd_Plan_addResource_7 (fun H locs hP hD hS => ?_)
  have hP : va_P (dC, dI) vwCl (cw_Plan cI cZ cO apl (cr_up pl 0 1 ((pl 0 1) + (1 : Int32)))) H := hP
  have hD : va_D A (cw_Plan cI cZ cO apl (cr_up pl 0 1 ((pl 0 1) + (1 : Int32)))) := hD
  have hR_3 : cr_RPlan (cr_up pl 0 1 ((pl 0 1) + (1 : Int32))) := ⟨cr_rf_up hR_pl.1 (fun _ e => absurd e (by decide)), cr_rf_up hR_pl.2.1 (fun _ _ => by omega), cr_rg_up hR_pl.2.2 (fun e => absurd e (by decide))⟩
  obtain ⟨plq_4, hplq_4⟩ : ∃ z, (cr_up pl 0 1 ((pl 0 1) + (1 : Int32))) = z := ⟨_, rfl⟩
  rw [hplq_4] at hP hD hR_3
  try rw [hplq_4] at hM
  refine lv_aload_n hx hb nd_Plan_addResource_10 rfl (lv_at hl 0 rfl) ?_
  refine va_get (D := (dC, dI)) (ci := 0) (v := .int (plq_4 0 1)) (C := "CeilingRows$Plan") (T := nf_Plan) (N := 7) hx hb hts nin_Plan hown hK hP 0 rfl rfl 1 (by decide) (hts _ tw_31) (fun _ h9 => h9) rfl nd_Plan_addResource_11 ?_
  have f_5 := cr_rfo hR_3.2.1
  exact W.iret (v := (plq_4 0 1)) hx hb hr (fun t ht hW => ⟨⟨(plq_4 0 1), plq_4, rfl, ⟨by rw [hT, ← hM], by rw [hT, ← hM], hR_3⟩, by rw [ht]; exact hP, va_K.moved hW.alike hK, hD⟩, hS.F ht⟩) hS.2.2 nd_Plan_addResource_14

theorem nd_Plan_isUsedBy_0 : decode prog_4_method_6_code 0 = .ok (.aload_n 0, 1) := by decide +kernel
theorem nd_Plan_isUsedBy_1 : decode prog_4_method_6_code 1 = .ok (.getfield 26, 3) := by decide +kernel
theorem nd_Plan_isUsedBy_4 : decode prog_4_method_6_code 4 = .ok (.iload_n 1, 1) := by decide +kernel
theorem nd_Plan_isUsedBy_5 : decode prog_4_method_6_code 5 = .ok (.aaload, 1) := by decide +kernel
theorem nd_Plan_isUsedBy_6 : decode prog_4_method_6_code 6 = .ok (.iload_n 2, 1) := by decide +kernel
theorem nd_Plan_isUsedBy_7 : decode prog_4_method_6_code 7 = .ok (.iaload, 1) := by decide +kernel
theorem nd_Plan_isUsedBy_8 : decode prog_4_method_6_code 8 = .ok (.ifCond .le (7), 3) := by decide +kernel
theorem nd_Plan_isUsedBy_11 : decode prog_4_method_6_code 11 = .ok (.iconst 1, 1) := by decide +kernel
theorem nd_Plan_isUsedBy_12 : decode prog_4_method_6_code 12 = .ok (.goto (4), 3) := by decide +kernel
theorem nd_Plan_isUsedBy_15 : decode prog_4_method_6_code 15 = .ok (.iconst 0, 1) := by decide +kernel
theorem nd_Plan_isUsedBy_16 : decode prog_4_method_6_code 16 = .ok (.ireturn, 1) := by decide +kernel
abbrev pq_Plan_isUsedBy (dC : Nat → ClassId) (dI : Nat → Nat → Nat) (cI cZ cO : ClassId) (apl : Nat → Nat) (pl : cr_S) (x1 : Int32) (x2 : Int32) (A : Nat → Prop) : Array Value → State → Outcome → State → Prop :=
  va_Qi (fun (r : Int32) (_ : Unit) => r = md_Plan_isUsedBy pl x1 x2) (fun (_ : Unit) t => va_P (dC, dI) vwCl (cw_Plan cI cZ cO apl pl) t.heap ∧ va_K (dC, dI) vwCl [(cI, .int), (cZ, .boolean), (cO, .array .int)] t ∧ va_D A (cw_Plan cI cZ cO apl pl)) A
set_option maxHeartbeats 4000000 in
set_option maxRecDepth 100000 in
theorem ct_Plan_isUsedBy (l : Launch) (dC : Nat → ClassId) (dI : Nat → Nat → Nat) (cI cZ cO : ClassId) (apl : Nat → Nat) (sz : Nat) (pl : cr_S) (x1 : Int32) (x2 : Int32) (hR_pl : cr_RPlan pl) (hx1 : 0 ≤ x1.toInt ∧ x1.toInt ≤ 10) (hx2 : 0 ≤ x2.toInt ∧ x2.toInt ≤ 8) : Met l ny_Plan_isUsedBy nw_Plan_isUsedBy ({ frames := 0, cells := 0, slots := 0, locals := 0 } : Room) (va_Pc [.ref (apl 0), .int x1, .int x2] (fun U => U.heap.size = sz ∧ va_P (dC, dI) vwCl (cw_Plan cI cZ cO apl pl) U.heap ∧ va_K (dC, dI) vwCl [(cI, .int), (cZ, .boolean), (cO, .array .int)] U ∧ va_D (fun _ => True) (cw_Plan cI cZ cO apl pl))) (pq_Plan_isUsedBy dC dI cI cZ cO apl pl x1 x2 (va_A (cw_Plan cI cZ cO apl pl) sz)) 0 0 (va_A (cw_Plan cI cZ cO apl pl) sz) := by
  refine Met.ofW (cc := prog_4_method_6_code) (maxL := 3) (ret := (some .boolean)) (by decide) rfl ?_
  intro p e s m args below meth c s₁ B hml hv
  obtain ⟨rfl, hsz, hP, hK, hD0⟩ := hv
  have hx := B.exec
  have hb := B.bytes
  have hr := B.returns
  have hts0 := atoms_spec (ws := nw_Plan_isUsedBy) B.pre
  have hts : ∀ w ∈ ng_tbl, w.before ([.ref (apl 0), .int x1, .int x2] : List Value).toArray s = true := fun w h => hts0 w (List.mem_cons_of_mem _ h)
  have hown : s.vm.findClass "CeilingRows$Plan" = some m.cls := findClass_of_methodNamed B.named
  have hlocks := B.notSynchronized
  subst hsz
  have hD := hD0.self (sz := s.heap.size)
  generalize hAe : va_A (cw_Plan cI cZ cO apl pl) s.heap.size = A at hD ⊢
  have hA : ∀ q : Nat, s.heap.size ≤ q → A q := fun q h => by rw [← hAe]; exact Or.inr h
  have hS : va_S A s.heap s.heap [] := va_S.rf
  have hP : va_P (dC, dI) vwCl (cw_Plan cI cZ cO apl pl) s.heap := hP
  have hl := lv_entry ([.ref (apl 0), .int x1, .int x2]) (n := 3) (Nat.le_of_ble_eq_true rfl)
  rw [lg_entry_eq]
  generalize (lg_sl ([.ref (apl 0), .int x1, .int x2]) ++ List.replicate (3 - (lg_sl ([.ref (apl 0), .int x1, .int x2])).length) Slot.unset).toArray = ls at hl ⊢
  have hl : lv_has ls 3 [(0, .ref (apl 0)), (1, .int x1), (2, .int x2)] := hl
  have k_0 : (0 : Int32).toInt = 0 := by decide
  have k_1 : (1 : Int32).toInt = 1 := by decide
  obtain ⟨tgt, hT⟩ : ∃ z, md_Plan_isUsedBy pl x1 x2 = z := ⟨_, rfl⟩
  have hM := hT
  unfold md_Plan_isUsedBy at hM
  refine lv_aload_n hx hb nd_Plan_isUsedBy_0 rfl (lv_at hl 0 rfl) ?_
  refine va_get (D := (dC, dI)) (ci := 0) (v := .ref (apl 5)) (C := "CeilingRows$Plan") (T := nf_Plan) (N := 7) hx hb hts nin_Plan hown hK hP 0 rfl rfl 6 (by decide) (hts _ tw_43) (fun _ h9 => h9) rfl nd_Plan_isUsedBy_1 ?_
  refine lv_iload_n hx hb nd_Plan_isUsedBy_4 rfl (lv_at hl 1 rfl) ?_
  have b_1 : vp_in x1 11 := vp_in_iff.mpr (by omega)
  have g_2 : x1.toNatClampNeg < 11 := cr_ix b_1
  refine ga_ald hx hb hK hP 5 2 rfl rfl b_1 g_2 nd_Plan_isUsedBy_5 ?_
  refine lv_iload_n hx hb nd_Plan_isUsedBy_6 rfl (lv_at hl 2 rfl) ?_
  have b_3 : vp_in x2 9 := vp_in_iff.mpr (by omega)
  refine va_iald hx hb hK hP (6 + x1.toNatClampNeg) 0 (cg_Plan_6 cI cZ cO apl pl _ g_2) rfl b_3 nd_Plan_isUsedBy_7 ?_
  refine lv_if_le (tgt := 15) hx hb nd_Plan_isUsedBy_8 (by decide) (fun c_4 => ?_) (fun c_4 => ?_)
  · have c_4t := cr_le c_4
    rw [if_pos c_4] at hM
    refine lv_iconst (v := 0) hx hb nd_Plan_isUsedBy_15 (by decide) ?_
    exact W.zret (v := (0 : Int32)) (ty := .boolean) hx hb hr (by decide) (fun t ht hW => ⟨⟨(0 : Int32), (), rfl, by rw [hT, ← hM], by rw [ht]; exact hP, va_K.moved hW.alike hK, hD⟩, hS.F ht⟩) hS.2.2 nd_Plan_isUsedBy_16
  · have c_4t := cr_nle c_4
    rw [if_neg c_4] at hM
    refine lv_iconst (v := 1) hx hb nd_Plan_isUsedBy_11 (by decide) ?_
    refine lv_goto (tgt := 16) hx hb nd_Plan_isUsedBy_12 (by decide) ?_
    exact W.zret (v := (1 : Int32)) (ty := .boolean) hx hb hr (by decide) (fun t ht hW => ⟨⟨(1 : Int32), (), rfl, by rw [hT, ← hM], by rw [ht]; exact hP, va_K.moved hW.alike hK, hD⟩, hS.F ht⟩) hS.2.2 nd_Plan_isUsedBy_16

theorem nd_Plan_isUsedByAnotherCore_0 : decode prog_4_method_7_code 0 = .ok (.aload_n 0, 1) := by decide +kernel
theorem nd_Plan_isUsedByAnotherCore_1 : decode prog_4_method_7_code 1 = .ok (.getfield 21, 3) := by decide +kernel
theorem nd_Plan_isUsedByAnotherCore_4 : decode prog_4_method_7_code 4 = .ok (.iload_n 1, 1) := by decide +kernel
theorem nd_Plan_isUsedByAnotherCore_5 : decode prog_4_method_7_code 5 = .ok (.iaload, 1) := by decide +kernel
theorem nd_Plan_isUsedByAnotherCore_6 : decode prog_4_method_7_code 6 = .ok (.ifCond .eq (17), 3) := by decide +kernel
theorem nd_Plan_isUsedByAnotherCore_9 : decode prog_4_method_7_code 9 = .ok (.aload_n 0, 1) := by decide +kernel
theorem nd_Plan_isUsedByAnotherCore_10 : decode prog_4_method_7_code 10 = .ok (.getfield 21, 3) := by decide +kernel
theorem nd_Plan_isUsedByAnotherCore_13 : decode prog_4_method_7_code 13 = .ok (.iload_n 1, 1) := by decide +kernel
theorem nd_Plan_isUsedByAnotherCore_14 : decode prog_4_method_7_code 14 = .ok (.iaload, 1) := by decide +kernel
theorem nd_Plan_isUsedByAnotherCore_15 : decode prog_4_method_7_code 15 = .ok (.iload_n 2, 1) := by decide +kernel
theorem nd_Plan_isUsedByAnotherCore_16 : decode prog_4_method_7_code 16 = .ok (.if_icmp .eq (7), 3) := by decide +kernel
theorem nd_Plan_isUsedByAnotherCore_19 : decode prog_4_method_7_code 19 = .ok (.iconst 1, 1) := by decide +kernel
theorem nd_Plan_isUsedByAnotherCore_20 : decode prog_4_method_7_code 20 = .ok (.goto (4), 3) := by decide +kernel
theorem nd_Plan_isUsedByAnotherCore_23 : decode prog_4_method_7_code 23 = .ok (.iconst 0, 1) := by decide +kernel
theorem nd_Plan_isUsedByAnotherCore_24 : decode prog_4_method_7_code 24 = .ok (.ireturn, 1) := by decide +kernel
abbrev pq_Plan_isUsedByAnotherCore (dC : Nat → ClassId) (dI : Nat → Nat → Nat) (cI cZ cO : ClassId) (apl : Nat → Nat) (pl : cr_S) (x1 : Int32) (x2 : Int32) (A : Nat → Prop) : Array Value → State → Outcome → State → Prop :=
  va_Qi (fun (r : Int32) (_ : Unit) => r = md_Plan_isUsedByAnotherCore pl x1 x2) (fun (_ : Unit) t => va_P (dC, dI) vwCl (cw_Plan cI cZ cO apl pl) t.heap ∧ va_K (dC, dI) vwCl [(cI, .int), (cZ, .boolean), (cO, .array .int)] t ∧ va_D A (cw_Plan cI cZ cO apl pl)) A
set_option maxHeartbeats 4000000 in
set_option maxRecDepth 100000 in
theorem ct_Plan_isUsedByAnotherCore (l : Launch) (dC : Nat → ClassId) (dI : Nat → Nat → Nat) (cI cZ cO : ClassId) (apl : Nat → Nat) (sz : Nat) (pl : cr_S) (x1 : Int32) (x2 : Int32) (hR_pl : cr_RPlan pl) (hx1 : 0 ≤ x1.toInt ∧ x1.toInt ≤ 8) : Met l ny_Plan_isUsedByAnotherCore nw_Plan_isUsedByAnotherCore ({ frames := 0, cells := 0, slots := 0, locals := 0 } : Room) (va_Pc [.ref (apl 0), .int x1, .int x2] (fun U => U.heap.size = sz ∧ va_P (dC, dI) vwCl (cw_Plan cI cZ cO apl pl) U.heap ∧ va_K (dC, dI) vwCl [(cI, .int), (cZ, .boolean), (cO, .array .int)] U ∧ va_D (fun _ => True) (cw_Plan cI cZ cO apl pl))) (pq_Plan_isUsedByAnotherCore dC dI cI cZ cO apl pl x1 x2 (va_A (cw_Plan cI cZ cO apl pl) sz)) 0 0 (va_A (cw_Plan cI cZ cO apl pl) sz) := by
  refine Met.ofW (cc := prog_4_method_7_code) (maxL := 3) (ret := (some .boolean)) (by decide) rfl ?_
  intro p e s m args below meth c s₁ B hml hv
  obtain ⟨rfl, hsz, hP, hK, hD0⟩ := hv
  have hx := B.exec
  have hb := B.bytes
  have hr := B.returns
  have hts0 := atoms_spec (ws := nw_Plan_isUsedByAnotherCore) B.pre
  have hts : ∀ w ∈ ng_tbl, w.before ([.ref (apl 0), .int x1, .int x2] : List Value).toArray s = true := fun w h => hts0 w (List.mem_cons_of_mem _ h)
  have hown : s.vm.findClass "CeilingRows$Plan" = some m.cls := findClass_of_methodNamed B.named
  have hlocks := B.notSynchronized
  subst hsz
  have hD := hD0.self (sz := s.heap.size)
  generalize hAe : va_A (cw_Plan cI cZ cO apl pl) s.heap.size = A at hD ⊢
  have hA : ∀ q : Nat, s.heap.size ≤ q → A q := fun q h => by rw [← hAe]; exact Or.inr h
  have hS : va_S A s.heap s.heap [] := va_S.rf
  have hP : va_P (dC, dI) vwCl (cw_Plan cI cZ cO apl pl) s.heap := hP
  have hl := lv_entry ([.ref (apl 0), .int x1, .int x2]) (n := 3) (Nat.le_of_ble_eq_true rfl)
  rw [lg_entry_eq]
  generalize (lg_sl ([.ref (apl 0), .int x1, .int x2]) ++ List.replicate (3 - (lg_sl ([.ref (apl 0), .int x1, .int x2])).length) Slot.unset).toArray = ls at hl ⊢
  have hl : lv_has ls 3 [(0, .ref (apl 0)), (1, .int x1), (2, .int x2)] := hl
  have k_0 : (0 : Int32).toInt = 0 := by decide
  have k_1 : (1 : Int32).toInt = 1 := by decide
  obtain ⟨tgt, hT⟩ : ∃ z, md_Plan_isUsedByAnotherCore pl x1 x2 = z := ⟨_, rfl⟩
  have hM := hT
  unfold md_Plan_isUsedByAnotherCore at hM
  refine lv_aload_n hx hb nd_Plan_isUsedByAnotherCore_0 rfl (lv_at hl 0 rfl) ?_
  refine va_get (D := (dC, dI)) (ci := 0) (v := .ref (apl 4)) (C := "CeilingRows$Plan") (T := nf_Plan) (N := 7) hx hb hts nin_Plan hown hK hP 0 rfl rfl 5 (by decide) (hts _ tw_42) (fun _ h9 => h9) rfl nd_Plan_isUsedByAnotherCore_1 ?_
  refine lv_iload_n hx hb nd_Plan_isUsedByAnotherCore_4 rfl (lv_at hl 1 rfl) ?_
  have b_1 : vp_in x1 9 := vp_in_iff.mpr (by omega)
  refine va_iald hx hb hK hP 4 0 rfl rfl b_1 nd_Plan_isUsedByAnotherCore_5 ?_
  refine lv_if_eq (tgt := 23) hx hb nd_Plan_isUsedByAnotherCore_6 (by decide) (fun c_2 => ?_) (fun c_2 => ?_)
  · have c_2t := cr_eq c_2
    rw [if_pos c_2] at hM
    refine lv_iconst (v := 0) hx hb nd_Plan_isUsedByAnotherCore_23 (by decide) ?_
    exact W.zret (v := (0 : Int32)) (ty := .boolean) hx hb hr (by decide) (fun t ht hW => ⟨⟨(0 : Int32), (), rfl, by rw [hT, ← hM], by rw [ht]; exact hP, va_K.moved hW.alike hK, hD⟩, hS.F ht⟩) hS.2.2 nd_Plan_isUsedByAnotherCore_24
  · have c_2t := cr_ne c_2
    rw [if_neg c_2] at hM
    refine lv_aload_n hx hb nd_Plan_isUsedByAnotherCore_9 rfl (lv_at hl 0 rfl) ?_
    refine va_get (D := (dC, dI)) (ci := 0) (v := .ref (apl 4)) (C := "CeilingRows$Plan") (T := nf_Plan) (N := 7) hx hb hts nin_Plan hown hK hP 0 rfl rfl 5 (by decide) (hts _ tw_42) (fun _ h9 => h9) rfl nd_Plan_isUsedByAnotherCore_10 ?_
    refine lv_iload_n hx hb nd_Plan_isUsedByAnotherCore_13 rfl (lv_at hl 1 rfl) ?_
    have b_3 : vp_in x1 9 := vp_in_iff.mpr (by omega)
    refine va_iald hx hb hK hP 4 0 rfl rfl b_3 nd_Plan_isUsedByAnotherCore_14 ?_
    refine lv_iload_n hx hb nd_Plan_isUsedByAnotherCore_15 rfl (lv_at hl 2 rfl) ?_
    refine lv_icmp_eq (tgt := 23) hx hb nd_Plan_isUsedByAnotherCore_16 (by decide) (fun c_4 => ?_) (fun c_4 => ?_)
    · have c_4t := cr_eq c_4
      rw [if_pos c_4] at hM
      refine lv_iconst (v := 0) hx hb nd_Plan_isUsedByAnotherCore_23 (by decide) ?_
      exact W.zret (v := (0 : Int32)) (ty := .boolean) hx hb hr (by decide) (fun t ht hW => ⟨⟨(0 : Int32), (), rfl, by rw [hT, ← hM], by rw [ht]; exact hP, va_K.moved hW.alike hK, hD⟩, hS.F ht⟩) hS.2.2 nd_Plan_isUsedByAnotherCore_24
    · have c_4t := cr_ne c_4
      rw [if_neg c_4] at hM
      refine lv_iconst (v := 1) hx hb nd_Plan_isUsedByAnotherCore_19 (by decide) ?_
      refine lv_goto (tgt := 24) hx hb nd_Plan_isUsedByAnotherCore_20 (by decide) ?_
      exact W.zret (v := (1 : Int32)) (ty := .boolean) hx hb hr (by decide) (fun t ht hW => ⟨⟨(1 : Int32), (), rfl, by rw [hT, ← hM], by rw [ht]; exact hP, va_K.moved hW.alike hK, hD⟩, hS.F ht⟩) hS.2.2 nd_Plan_isUsedByAnotherCore_24

theorem nd_Plan_setUse_0 : decode prog_4_method_8_code 0 = .ok (.aload_n 0, 1) := by decide +kernel
theorem nd_Plan_setUse_1 : decode prog_4_method_8_code 1 = .ok (.getfield 26, 3) := by decide +kernel
theorem nd_Plan_setUse_4 : decode prog_4_method_8_code 4 = .ok (.iload_n 1, 1) := by decide +kernel
theorem nd_Plan_setUse_5 : decode prog_4_method_8_code 5 = .ok (.aaload, 1) := by decide +kernel
theorem nd_Plan_setUse_6 : decode prog_4_method_8_code 6 = .ok (.iload_n 2, 1) := by decide +kernel
theorem nd_Plan_setUse_7 : decode prog_4_method_8_code 7 = .ok (.iload_n 3, 1) := by decide +kernel
theorem nd_Plan_setUse_8 : decode prog_4_method_8_code 8 = .ok (.iastore, 1) := by decide +kernel
theorem nd_Plan_setUse_9 : decode prog_4_method_8_code 9 = .ok (.aload_n 0, 1) := by decide +kernel
theorem nd_Plan_setUse_10 : decode prog_4_method_8_code 10 = .ok (.getfield 21, 3) := by decide +kernel
theorem nd_Plan_setUse_13 : decode prog_4_method_8_code 13 = .ok (.iload_n 2, 1) := by decide +kernel
theorem nd_Plan_setUse_14 : decode prog_4_method_8_code 14 = .ok (.aload_n 0, 1) := by decide +kernel
theorem nd_Plan_setUse_15 : decode prog_4_method_8_code 15 = .ok (.getfield 15, 3) := by decide +kernel
theorem nd_Plan_setUse_18 : decode prog_4_method_8_code 18 = .ok (.iload_n 1, 1) := by decide +kernel
theorem nd_Plan_setUse_19 : decode prog_4_method_8_code 19 = .ok (.iaload, 1) := by decide +kernel
theorem nd_Plan_setUse_20 : decode prog_4_method_8_code 20 = .ok (.iastore, 1) := by decide +kernel
theorem nd_Plan_setUse_21 : decode prog_4_method_8_code 21 = .ok (.aload_n 0, 1) := by decide +kernel
theorem nd_Plan_setUse_22 : decode prog_4_method_8_code 22 = .ok (.getfield 18, 3) := by decide +kernel
theorem nd_Plan_setUse_25 : decode prog_4_method_8_code 25 = .ok (.iload_n 2, 1) := by decide +kernel
theorem nd_Plan_setUse_26 : decode prog_4_method_8_code 26 = .ok (.aload_n 0, 1) := by decide +kernel
theorem nd_Plan_setUse_27 : decode prog_4_method_8_code 27 = .ok (.getfield 18, 3) := by decide +kernel
theorem nd_Plan_setUse_30 : decode prog_4_method_8_code 30 = .ok (.iload_n 2, 1) := by decide +kernel
theorem nd_Plan_setUse_31 : decode prog_4_method_8_code 31 = .ok (.iaload, 1) := by decide +kernel
theorem nd_Plan_setUse_32 : decode prog_4_method_8_code 32 = .ok (.aload_n 0, 1) := by decide +kernel
theorem nd_Plan_setUse_33 : decode prog_4_method_8_code 33 = .ok (.getfield 9, 3) := by decide +kernel
theorem nd_Plan_setUse_36 : decode prog_4_method_8_code 36 = .ok (.iload_n 1, 1) := by decide +kernel
theorem nd_Plan_setUse_37 : decode prog_4_method_8_code 37 = .ok (.iaload, 1) := by decide +kernel
theorem nd_Plan_setUse_38 : decode prog_4_method_8_code 38 = .ok (.invokestatic 36, 3) := by decide +kernel
theorem nd_Plan_setUse_41 : decode prog_4_method_8_code 41 = .ok (.iastore, 1) := by decide +kernel
theorem nd_Plan_setUse_42 : decode prog_4_method_8_code 42 = .ok (.return_, 1) := by decide +kernel
abbrev pq_Plan_setUse (dC : Nat → ClassId) (dI : Nat → Nat → Nat) (cI cZ cO : ClassId) (apl : Nat → Nat) (pl : cr_S) (x1 : Int32) (x2 : Int32) (x3 : Int32) (A : Nat → Prop) : Array Value → State → Outcome → State → Prop :=
  va_Qv (fun (pl' : cr_S) => pl' = md_Plan_setUse pl x1 x2 x3 ∧ cr_RPlan pl') (fun (pl' : cr_S) t => va_P (dC, dI) vwCl (cw_Plan cI cZ cO apl pl') t.heap ∧ va_K (dC, dI) vwCl [(cI, .int), (cZ, .boolean), (cO, .array .int)] t ∧ va_D A (cw_Plan cI cZ cO apl pl')) A
set_option maxHeartbeats 4000000 in
set_option maxRecDepth 100000 in
theorem ct_Plan_setUse (l : Launch) (dC : Nat → ClassId) (dI : Nat → Nat → Nat) (cI cZ cO : ClassId) (apl : Nat → Nat) (sz : Nat) (pl : cr_S) (x1 : Int32) (x2 : Int32) (x3 : Int32) (hR_pl : cr_RPlan pl) (hx1 : 0 ≤ x1.toInt ∧ x1.toInt ≤ 10) (hx2 : 0 ≤ x2.toInt ∧ x2.toInt ≤ 8) : Met l ny_Plan_setUse nw_Plan_setUse ({ frames := 1, cells := 0, slots := 0, locals := 21 } : Room) (va_Pc [.ref (apl 0), .int x1, .int x2, .int x3] (fun U => U.heap.size = sz ∧ va_P (dC, dI) vwCl (cw_Plan cI cZ cO apl pl) U.heap ∧ va_K (dC, dI) vwCl [(cI, .int), (cZ, .boolean), (cO, .array .int)] U ∧ va_D (fun _ => True) (cw_Plan cI cZ cO apl pl))) (pq_Plan_setUse dC dI cI cZ cO apl pl x1 x2 x3 (va_A (cw_Plan cI cZ cO apl pl) sz)) 0 0 (va_A (cw_Plan cI cZ cO apl pl) sz) := by
  refine Met.ofW (cc := prog_4_method_8_code) (maxL := 4) (ret := none) (by decide) rfl ?_
  intro p e s m args below meth c s₁ B hml hv
  obtain ⟨rfl, hsz, hP, hK, hD0⟩ := hv
  have hx := B.exec
  have hb := B.bytes
  have hr := B.returns
  have hts0 := atoms_spec (ws := nw_Plan_setUse) B.pre
  have hts : ∀ w ∈ ng_tbl, w.before ([.ref (apl 0), .int x1, .int x2, .int x3] : List Value).toArray s = true := fun w h => hts0 w (List.mem_cons_of_mem _ h)
  have hown : s.vm.findClass "CeilingRows$Plan" = some m.cls := findClass_of_methodNamed B.named
  have hlocks := B.notSynchronized
  subst hsz
  have hD := hD0.self (sz := s.heap.size)
  generalize hAe : va_A (cw_Plan cI cZ cO apl pl) s.heap.size = A at hD ⊢
  have hA : ∀ q : Nat, s.heap.size ≤ q → A q := fun q h => by rw [← hAe]; exact Or.inr h
  have hS : va_S A s.heap s.heap [] := va_S.rf
  have hP : va_P (dC, dI) vwCl (cw_Plan cI cZ cO apl pl) s.heap := hP
  have hl := lv_entry ([.ref (apl 0), .int x1, .int x2, .int x3]) (n := 4) (Nat.le_of_ble_eq_true rfl)
  rw [lg_entry_eq]
  generalize (lg_sl ([.ref (apl 0), .int x1, .int x2, .int x3]) ++ List.replicate (4 - (lg_sl ([.ref (apl 0), .int x1, .int x2, .int x3])).length) Slot.unset).toArray = ls at hl ⊢
  have hl : lv_has ls 4 [(0, .ref (apl 0)), (1, .int x1), (2, .int x2), (3, .int x3)] := hl
  obtain ⟨tgt, hT⟩ : ∃ z, md_Plan_setUse pl x1 x2 x3 = z := ⟨_, rfl⟩
  have hM := hT
  unfold md_Plan_setUse at hM
  refine lv_aload_n hx hb nd_Plan_setUse_0 rfl (lv_at hl 0 rfl) ?_
  refine va_get (D := (dC, dI)) (ci := 0) (v := .ref (apl 5)) (C := "CeilingRows$Plan") (T := nf_Plan) (N := 7) hx hb hts nin_Plan hown hK hP 0 rfl rfl 6 (by decide) (hts _ tw_43) (fun _ h9 => h9) rfl nd_Plan_setUse_1 ?_
  refine lv_iload_n hx hb nd_Plan_setUse_4 rfl (lv_at hl 1 rfl) ?_
  have b_1 : vp_in x1 11 := vp_in_iff.mpr (by omega)
  have g_2 : x1.toNatClampNeg < 11 := cr_ix b_1
  refine ga_ald hx hb hK hP 5 2 rfl rfl b_1 g_2 nd_Plan_setUse_5 ?_
  refine lv_iload_n hx hb nd_Plan_setUse_6 rfl (lv_at hl 2 rfl) ?_
  refine lv_iload_n hx hb nd_Plan_setUse_7 rfl (lv_at hl 3 rfl) ?_
  have b_3 : vp_in x2 9 := vp_in_iff.mpr (by omega)
  refine va_iast hx hb hK hP hD hS (6 + x1.toNatClampNeg) 0 (cg_Plan_6 cI cZ cO apl pl _ g_2) rfl b_3 nd_Plan_setUse_8 (fun H locs hP hD hS => ?_)
  rw [(cs_Plan_6 cI cZ cO apl pl x2.toNatClampNeg x3 _ g_2)] at hP hD
  have hP : va_P (dC, dI) vwCl (cw_Plan cI cZ cO apl (cr_up pl (6 + x1.toNatClampNeg) x2.toNatClampNeg x3)) H := hP
  have hD : va_D A (cw_Plan cI cZ cO apl (cr_up pl (6 + x1.toNatClampNeg) x2.toNatClampNeg x3)) := hD
  have hR_4 : cr_RPlan (cr_up pl (6 + x1.toNatClampNeg) x2.toNatClampNeg x3) := ⟨cr_rf_up hR_pl.1 (fun e _ => absurd e (by omega)), cr_rf_up hR_pl.2.1 (fun e _ => absurd e (by omega)), cr_rg_up hR_pl.2.2 (fun e => absurd e (by omega))⟩
  obtain ⟨plq_5, hplq_5⟩ : ∃ z, (cr_up pl (6 + x1.toNatClampNeg) x2.toNatClampNeg x3) = z := ⟨_, rfl⟩
  rw [hplq_5] at hP hD hR_4
  try rw [hplq_5] at hM
  refine lv_aload_n hx hb nd_Plan_setUse_9 rfl (lv_at hl 0 rfl) ?_
  refine va_get (D := (dC, dI)) (ci := 0) (v := .ref (apl 4)) (C := "CeilingRows$Plan") (T := nf_Plan) (N := 7) hx hb hts nin_Plan hown hK hP 0 rfl rfl 5 (by decide) (hts _ tw_42) (fun _ h9 => h9) rfl nd_Plan_setUse_10 ?_
  refine lv_iload_n hx hb nd_Plan_setUse_13 rfl (lv_at hl 2 rfl) ?_
  refine lv_aload_n hx hb nd_Plan_setUse_14 rfl (lv_at hl 0 rfl) ?_
  refine va_get (D := (dC, dI)) (ci := 0) (v := .ref (apl 2)) (C := "CeilingRows$Plan") (T := nf_Plan) (N := 7) hx hb hts nin_Plan hown hK hP 0 rfl rfl 3 (by decide) (hts _ tw_36) (fun _ h9 => h9) rfl nd_Plan_setUse_15 ?_
  refine lv_iload_n hx hb nd_Plan_setUse_18 rfl (lv_at hl 1 rfl) ?_
  have b_6 : vp_in x1 11 := vp_in_iff.mpr (by omega)
  refine va_iald hx hb hK hP 2 0 rfl rfl b_6 nd_Plan_setUse_19 ?_
  have f_7 := cr_rgo hR_4.2.2 (x1.toNatClampNeg)
  have b_8 : vp_in x2 9 := vp_in_iff.mpr (by omega)
  refine va_iast hx hb hK hP hD hS 4 0 rfl rfl b_8 nd_Plan_setUse_20 (fun H locs hP hD hS => ?_)
  have hP : va_P (dC, dI) vwCl (cw_Plan cI cZ cO apl (cr_up plq_5 4 x2.toNatClampNeg (plq_5 2 x1.toNatClampNeg))) H := hP
  have hD : va_D A (cw_Plan cI cZ cO apl (cr_up plq_5 4 x2.toNatClampNeg (plq_5 2 x1.toNatClampNeg))) := hD
  have hR_9 : cr_RPlan (cr_up plq_5 4 x2.toNatClampNeg (plq_5 2 x1.toNatClampNeg)) := ⟨cr_rf_up hR_4.1 (fun e _ => absurd e (by decide)), cr_rf_up hR_4.2.1 (fun e _ => absurd e (by decide)), cr_rg_up hR_4.2.2 (fun e => absurd e (by decide))⟩
  obtain ⟨plq_10, hplq_10⟩ : ∃ z, (cr_up plq_5 4 x2.toNatClampNeg (plq_5 2 x1.toNatClampNeg)) = z := ⟨_, rfl⟩
  rw [hplq_10] at hP hD hR_9
  try rw [hplq_10] at hM
  refine lv_aload_n hx hb nd_Plan_setUse_21 rfl (lv_at hl 0 rfl) ?_
  refine va_get (D := (dC, dI)) (ci := 0) (v := .ref (apl 3)) (C := "CeilingRows$Plan") (T := nf_Plan) (N := 7) hx hb hts nin_Plan hown hK hP 0 rfl rfl 4 (by decide) (hts _ tw_39) (fun _ h9 => h9) rfl nd_Plan_setUse_22 ?_
  refine lv_iload_n hx hb nd_Plan_setUse_25 rfl (lv_at hl 2 rfl) ?_
  refine lv_aload_n hx hb nd_Plan_setUse_26 rfl (lv_at hl 0 rfl) ?_
  refine va_get (D := (dC, dI)) (ci := 0) (v := .ref (apl 3)) (C := "CeilingRows$Plan") (T := nf_Plan) (N := 7) hx hb hts nin_Plan hown hK hP 0 rfl rfl 4 (by decide) (hts _ tw_39) (fun _ h9 => h9) rfl nd_Plan_setUse_27 ?_
  refine lv_iload_n hx hb nd_Plan_setUse_30 rfl (lv_at hl 2 rfl) ?_
  have b_11 : vp_in x2 9 := vp_in_iff.mpr (by omega)
  refine va_iald hx hb hK hP 3 0 rfl rfl b_11 nd_Plan_setUse_31 ?_
  refine lv_aload_n hx hb nd_Plan_setUse_32 rfl (lv_at hl 0 rfl) ?_
  refine va_get (D := (dC, dI)) (ci := 0) (v := .ref (apl 1)) (C := "CeilingRows$Plan") (T := nf_Plan) (N := 7) hx hb hts nin_Plan hown hK hP 0 rfl rfl 2 (by decide) (hts _ tw_34) (fun _ h9 => h9) rfl nd_Plan_setUse_33 ?_
  refine lv_iload_n hx hb nd_Plan_setUse_36 rfl (lv_at hl 1 rfl) ?_
  have b_12 : vp_in x1 11 := vp_in_iff.mpr (by omega)
  refine va_iald hx hb hK hP 1 0 rfl rfl b_12 nd_Plan_setUse_37 ?_
  refine va_mmax hx hb (by rw [hml]; exact hl.1.symm) hown (hts _ tw_206) (hts _ tw_207) (hts _ tw_7) (hts _ tw_208) (Nat.le_of_ble_eq_true rfl) (Nat.le_of_ble_eq_true rfl) (Nat.zero_le _) (Nat.zero_le _) nd_Plan_setUse_38 ?_
  have b_13 : vp_in x2 9 := vp_in_iff.mpr (by omega)
  refine va_iast hx hb hK hP hD hS 3 0 rfl rfl b_13 nd_Plan_setUse_41 (fun H locs hP hD hS => ?_)
  have hP : va_P (dC, dI) vwCl (cw_Plan cI cZ cO apl (cr_up plq_10 3 x2.toNatClampNeg (cr_max (plq_10 3 x2.toNatClampNeg) (plq_10 1 x1.toNatClampNeg)))) H := hP
  have hD : va_D A (cw_Plan cI cZ cO apl (cr_up plq_10 3 x2.toNatClampNeg (cr_max (plq_10 3 x2.toNatClampNeg) (plq_10 1 x1.toNatClampNeg)))) := hD
  have hR_14 : cr_RPlan (cr_up plq_10 3 x2.toNatClampNeg (cr_max (plq_10 3 x2.toNatClampNeg) (plq_10 1 x1.toNatClampNeg))) := ⟨cr_rf_up hR_9.1 (fun e _ => absurd e (by decide)), cr_rf_up hR_9.2.1 (fun e _ => absurd e (by decide)), cr_rg_up hR_9.2.2 (fun e => absurd e (by decide))⟩
  obtain ⟨plq_15, hplq_15⟩ : ∃ z, (cr_up plq_10 3 x2.toNatClampNeg (cr_max (plq_10 3 x2.toNatClampNeg) (plq_10 1 x1.toNatClampNeg))) = z := ⟨_, rfl⟩
  rw [hplq_15] at hP hD hR_14
  try rw [hplq_15] at hM
  exact W.vret hx hb hr (fun t ht hW => ⟨⟨plq_15, rfl, ⟨by rw [hT, ← hM], hR_14⟩, by rw [ht]; exact hP, va_K.moved hW.alike hK, hD⟩, hS.F ht⟩) hS.2.2 nd_Plan_setUse_42

theorem nd_Plan_isBelow_0 : decode prog_4_method_9_code 0 = .ok (.aload_n 0, 1) := by decide +kernel
theorem nd_Plan_isBelow_1 : decode prog_4_method_9_code 1 = .ok (.getfield 15, 3) := by decide +kernel
theorem nd_Plan_isBelow_4 : decode prog_4_method_9_code 4 = .ok (.iload_n 1, 1) := by decide +kernel
theorem nd_Plan_isBelow_5 : decode prog_4_method_9_code 5 = .ok (.iaload, 1) := by decide +kernel
theorem nd_Plan_isBelow_6 : decode prog_4_method_9_code 6 = .ok (.aload_n 0, 1) := by decide +kernel
theorem nd_Plan_isBelow_7 : decode prog_4_method_9_code 7 = .ok (.getfield 15, 3) := by decide +kernel
theorem nd_Plan_isBelow_10 : decode prog_4_method_9_code 10 = .ok (.iload_n 2, 1) := by decide +kernel
theorem nd_Plan_isBelow_11 : decode prog_4_method_9_code 11 = .ok (.iaload, 1) := by decide +kernel
theorem nd_Plan_isBelow_12 : decode prog_4_method_9_code 12 = .ok (.if_icmp .ne (22), 3) := by decide +kernel
theorem nd_Plan_isBelow_15 : decode prog_4_method_9_code 15 = .ok (.aload_n 0, 1) := by decide +kernel
theorem nd_Plan_isBelow_16 : decode prog_4_method_9_code 16 = .ok (.getfield 9, 3) := by decide +kernel
theorem nd_Plan_isBelow_19 : decode prog_4_method_9_code 19 = .ok (.iload_n 1, 1) := by decide +kernel
theorem nd_Plan_isBelow_20 : decode prog_4_method_9_code 20 = .ok (.iaload, 1) := by decide +kernel
theorem nd_Plan_isBelow_21 : decode prog_4_method_9_code 21 = .ok (.aload_n 0, 1) := by decide +kernel
theorem nd_Plan_isBelow_22 : decode prog_4_method_9_code 22 = .ok (.getfield 9, 3) := by decide +kernel
theorem nd_Plan_isBelow_25 : decode prog_4_method_9_code 25 = .ok (.iload_n 2, 1) := by decide +kernel
theorem nd_Plan_isBelow_26 : decode prog_4_method_9_code 26 = .ok (.iaload, 1) := by decide +kernel
theorem nd_Plan_isBelow_27 : decode prog_4_method_9_code 27 = .ok (.if_icmp .ge (7), 3) := by decide +kernel
theorem nd_Plan_isBelow_30 : decode prog_4_method_9_code 30 = .ok (.iconst 1, 1) := by decide +kernel
theorem nd_Plan_isBelow_31 : decode prog_4_method_9_code 31 = .ok (.goto (4), 3) := by decide +kernel
theorem nd_Plan_isBelow_34 : decode prog_4_method_9_code 34 = .ok (.iconst 0, 1) := by decide +kernel
theorem nd_Plan_isBelow_35 : decode prog_4_method_9_code 35 = .ok (.ireturn, 1) := by decide +kernel
abbrev pq_Plan_isBelow (dC : Nat → ClassId) (dI : Nat → Nat → Nat) (cI cZ cO : ClassId) (apl : Nat → Nat) (pl : cr_S) (x1 : Int32) (x2 : Int32) (A : Nat → Prop) : Array Value → State → Outcome → State → Prop :=
  va_Qi (fun (r : Int32) (_ : Unit) => r = md_Plan_isBelow pl x1 x2) (fun (_ : Unit) t => va_P (dC, dI) vwCl (cw_Plan cI cZ cO apl pl) t.heap ∧ va_K (dC, dI) vwCl [(cI, .int), (cZ, .boolean), (cO, .array .int)] t ∧ va_D A (cw_Plan cI cZ cO apl pl)) A
set_option maxHeartbeats 4000000 in
set_option maxRecDepth 100000 in
theorem ct_Plan_isBelow (l : Launch) (dC : Nat → ClassId) (dI : Nat → Nat → Nat) (cI cZ cO : ClassId) (apl : Nat → Nat) (sz : Nat) (pl : cr_S) (x1 : Int32) (x2 : Int32) (hR_pl : cr_RPlan pl) (hx1 : 0 ≤ x1.toInt ∧ x1.toInt ≤ 10) (hx2 : 0 ≤ x2.toInt ∧ x2.toInt ≤ 10) : Met l ny_Plan_isBelow nw_Plan_isBelow ({ frames := 0, cells := 0, slots := 0, locals := 0 } : Room) (va_Pc [.ref (apl 0), .int x1, .int x2] (fun U => U.heap.size = sz ∧ va_P (dC, dI) vwCl (cw_Plan cI cZ cO apl pl) U.heap ∧ va_K (dC, dI) vwCl [(cI, .int), (cZ, .boolean), (cO, .array .int)] U ∧ va_D (fun _ => True) (cw_Plan cI cZ cO apl pl))) (pq_Plan_isBelow dC dI cI cZ cO apl pl x1 x2 (va_A (cw_Plan cI cZ cO apl pl) sz)) 0 0 (va_A (cw_Plan cI cZ cO apl pl) sz) := by
  refine Met.ofW (cc := prog_4_method_9_code) (maxL := 3) (ret := (some .boolean)) (by decide) rfl ?_
  intro p e s m args below meth c s₁ B hml hv
  obtain ⟨rfl, hsz, hP, hK, hD0⟩ := hv
  have hx := B.exec
  have hb := B.bytes
  have hr := B.returns
  have hts0 := atoms_spec (ws := nw_Plan_isBelow) B.pre
  have hts : ∀ w ∈ ng_tbl, w.before ([.ref (apl 0), .int x1, .int x2] : List Value).toArray s = true := fun w h => hts0 w (List.mem_cons_of_mem _ h)
  have hown : s.vm.findClass "CeilingRows$Plan" = some m.cls := findClass_of_methodNamed B.named
  have hlocks := B.notSynchronized
  subst hsz
  have hD := hD0.self (sz := s.heap.size)
  generalize hAe : va_A (cw_Plan cI cZ cO apl pl) s.heap.size = A at hD ⊢
  have hA : ∀ q : Nat, s.heap.size ≤ q → A q := fun q h => by rw [← hAe]; exact Or.inr h
  have hS : va_S A s.heap s.heap [] := va_S.rf
  have hP : va_P (dC, dI) vwCl (cw_Plan cI cZ cO apl pl) s.heap := hP
  have hl := lv_entry ([.ref (apl 0), .int x1, .int x2]) (n := 3) (Nat.le_of_ble_eq_true rfl)
  rw [lg_entry_eq]
  generalize (lg_sl ([.ref (apl 0), .int x1, .int x2]) ++ List.replicate (3 - (lg_sl ([.ref (apl 0), .int x1, .int x2])).length) Slot.unset).toArray = ls at hl ⊢
  have hl : lv_has ls 3 [(0, .ref (apl 0)), (1, .int x1), (2, .int x2)] := hl
  have k_0 : (0 : Int32).toInt = 0 := by decide
  have k_1 : (1 : Int32).toInt = 1 := by decide
  obtain ⟨tgt, hT⟩ : ∃ z, md_Plan_isBelow pl x1 x2 = z := ⟨_, rfl⟩
  have hM := hT
  unfold md_Plan_isBelow at hM
  refine lv_aload_n hx hb nd_Plan_isBelow_0 rfl (lv_at hl 0 rfl) ?_
  refine va_get (D := (dC, dI)) (ci := 0) (v := .ref (apl 2)) (C := "CeilingRows$Plan") (T := nf_Plan) (N := 7) hx hb hts nin_Plan hown hK hP 0 rfl rfl 3 (by decide) (hts _ tw_36) (fun _ h9 => h9) rfl nd_Plan_isBelow_1 ?_
  refine lv_iload_n hx hb nd_Plan_isBelow_4 rfl (lv_at hl 1 rfl) ?_
  have b_1 : vp_in x1 11 := vp_in_iff.mpr (by omega)
  refine va_iald hx hb hK hP 2 0 rfl rfl b_1 nd_Plan_isBelow_5 ?_
  have f_2 := cr_rgo hR_pl.2.2 (x1.toNatClampNeg)
  refine lv_aload_n hx hb nd_Plan_isBelow_6 rfl (lv_at hl 0 rfl) ?_
  refine va_get (D := (dC, dI)) (ci := 0) (v := .ref (apl 2)) (C := "CeilingRows$Plan") (T := nf_Plan) (N := 7) hx hb hts nin_Plan hown hK hP 0 rfl rfl 3 (by decide) (hts _ tw_36) (fun _ h9 => h9) rfl nd_Plan_isBelow_7 ?_
  refine lv_iload_n hx hb nd_Plan_isBelow_10 rfl (lv_at hl 2 rfl) ?_
  have b_3 : vp_in x2 11 := vp_in_iff.mpr (by omega)
  refine va_iald hx hb hK hP 2 0 rfl rfl b_3 nd_Plan_isBelow_11 ?_
  have f_4 := cr_rgo hR_pl.2.2 (x2.toNatClampNeg)
  refine lv_icmp_ne (tgt := 34) hx hb nd_Plan_isBelow_12 (by decide) (fun c_5 => ?_) (fun c_5 => ?_)
  · have c_5t := cr_ne c_5
    rw [if_neg c_5] at hM
    refine lv_iconst (v := 0) hx hb nd_Plan_isBelow_34 (by decide) ?_
    exact W.zret (v := (0 : Int32)) (ty := .boolean) hx hb hr (by decide) (fun t ht hW => ⟨⟨(0 : Int32), (), rfl, by rw [hT, ← hM], by rw [ht]; exact hP, va_K.moved hW.alike hK, hD⟩, hS.F ht⟩) hS.2.2 nd_Plan_isBelow_35
  · have c_5t := cr_eq c_5
    rw [if_pos c_5] at hM
    refine lv_aload_n hx hb nd_Plan_isBelow_15 rfl (lv_at hl 0 rfl) ?_
    refine va_get (D := (dC, dI)) (ci := 0) (v := .ref (apl 1)) (C := "CeilingRows$Plan") (T := nf_Plan) (N := 7) hx hb hts nin_Plan hown hK hP 0 rfl rfl 2 (by decide) (hts _ tw_34) (fun _ h9 => h9) rfl nd_Plan_isBelow_16 ?_
    refine lv_iload_n hx hb nd_Plan_isBelow_19 rfl (lv_at hl 1 rfl) ?_
    have b_6 : vp_in x1 11 := vp_in_iff.mpr (by omega)
    refine va_iald hx hb hK hP 1 0 rfl rfl b_6 nd_Plan_isBelow_20 ?_
    refine lv_aload_n hx hb nd_Plan_isBelow_21 rfl (lv_at hl 0 rfl) ?_
    refine va_get (D := (dC, dI)) (ci := 0) (v := .ref (apl 1)) (C := "CeilingRows$Plan") (T := nf_Plan) (N := 7) hx hb hts nin_Plan hown hK hP 0 rfl rfl 2 (by decide) (hts _ tw_34) (fun _ h9 => h9) rfl nd_Plan_isBelow_22 ?_
    refine lv_iload_n hx hb nd_Plan_isBelow_25 rfl (lv_at hl 2 rfl) ?_
    have b_7 : vp_in x2 11 := vp_in_iff.mpr (by omega)
    refine va_iald hx hb hK hP 1 0 rfl rfl b_7 nd_Plan_isBelow_26 ?_
    refine lv_icmp_ge (tgt := 34) hx hb nd_Plan_isBelow_27 (by decide) (fun c_8 => ?_) (fun c_8 => ?_)
    · have c_8t := cr_le c_8
      rw [if_pos c_8] at hM
      refine lv_iconst (v := 0) hx hb nd_Plan_isBelow_34 (by decide) ?_
      exact W.zret (v := (0 : Int32)) (ty := .boolean) hx hb hr (by decide) (fun t ht hW => ⟨⟨(0 : Int32), (), rfl, by rw [hT, ← hM], by rw [ht]; exact hP, va_K.moved hW.alike hK, hD⟩, hS.F ht⟩) hS.2.2 nd_Plan_isBelow_35
    · have c_8t := cr_nle c_8
      rw [if_neg c_8] at hM
      refine lv_iconst (v := 1) hx hb nd_Plan_isBelow_30 (by decide) ?_
      refine lv_goto (tgt := 35) hx hb nd_Plan_isBelow_31 (by decide) ?_
      exact W.zret (v := (1 : Int32)) (ty := .boolean) hx hb hr (by decide) (fun t ht hW => ⟨⟨(1 : Int32), (), rfl, by rw [hT, ← hM], by rw [ht]; exact hP, va_K.moved hW.alike hK, hD⟩, hS.F ht⟩) hS.2.2 nd_Plan_isBelow_35

theorem nd_Plan_longestDelay_0 : decode prog_4_method_10_code 0 = .ok (.aload_n 0, 1) := by decide +kernel
theorem nd_Plan_longestDelay_1 : decode prog_4_method_10_code 1 = .ok (.iload_n 2, 1) := by decide +kernel
theorem nd_Plan_longestDelay_2 : decode prog_4_method_10_code 2 = .ok (.iload_n 1, 1) := by decide +kernel
theorem nd_Plan_longestDelay_3 : decode prog_4_method_10_code 3 = .ok (.invokevirtual 42, 3) := by decide +kernel
theorem nd_Plan_longestDelay_6 : decode prog_4_method_10_code 6 = .ok (.ifCond .ne (5), 3) := by decide +kernel
theorem nd_Plan_longestDelay_9 : decode prog_4_method_10_code 9 = .ok (.iconst 0, 1) := by decide +kernel
theorem nd_Plan_longestDelay_10 : decode prog_4_method_10_code 10 = .ok (.ireturn, 1) := by decide +kernel
theorem nd_Plan_longestDelay_11 : decode prog_4_method_10_code 11 = .ok (.iconst 0, 1) := by decide +kernel
theorem nd_Plan_longestDelay_12 : decode prog_4_method_10_code 12 = .ok (.istore_n 3, 1) := by decide +kernel
theorem nd_Plan_longestDelay_13 : decode prog_4_method_10_code 13 = .ok (.iconst 1, 1) := by decide +kernel
theorem nd_Plan_longestDelay_14 : decode prog_4_method_10_code 14 = .ok (.istore 4, 2) := by decide +kernel
theorem nd_Plan_longestDelay_16 : decode prog_4_method_10_code 16 = .ok (.iload 4, 2) := by decide +kernel
theorem nd_Plan_longestDelay_18 : decode prog_4_method_10_code 18 = .ok (.aload_n 0, 1) := by decide +kernel
theorem nd_Plan_longestDelay_19 : decode prog_4_method_10_code 19 = .ok (.getfield 33, 3) := by decide +kernel
theorem nd_Plan_longestDelay_22 : decode prog_4_method_10_code 22 = .ok (.if_icmp .gt (39), 3) := by decide +kernel
theorem nd_Plan_longestDelay_25 : decode prog_4_method_10_code 25 = .ok (.aload_n 0, 1) := by decide +kernel
theorem nd_Plan_longestDelay_26 : decode prog_4_method_10_code 26 = .ok (.getfield 18, 3) := by decide +kernel
theorem nd_Plan_longestDelay_29 : decode prog_4_method_10_code 29 = .ok (.iload 4, 2) := by decide +kernel
theorem nd_Plan_longestDelay_31 : decode prog_4_method_10_code 31 = .ok (.iaload, 1) := by decide +kernel
theorem nd_Plan_longestDelay_32 : decode prog_4_method_10_code 32 = .ok (.aload_n 0, 1) := by decide +kernel
theorem nd_Plan_longestDelay_33 : decode prog_4_method_10_code 33 = .ok (.getfield 9, 3) := by decide +kernel
theorem nd_Plan_longestDelay_36 : decode prog_4_method_10_code 36 = .ok (.iload_n 1, 1) := by decide +kernel
theorem nd_Plan_longestDelay_37 : decode prog_4_method_10_code 37 = .ok (.iaload, 1) := by decide +kernel
theorem nd_Plan_longestDelay_38 : decode prog_4_method_10_code 38 = .ok (.if_icmp .lt (17), 3) := by decide +kernel
theorem nd_Plan_longestDelay_41 : decode prog_4_method_10_code 41 = .ok (.iload_n 3, 1) := by decide +kernel
theorem nd_Plan_longestDelay_42 : decode prog_4_method_10_code 42 = .ok (.aload_n 0, 1) := by decide +kernel
theorem nd_Plan_longestDelay_43 : decode prog_4_method_10_code 43 = .ok (.getfield 26, 3) := by decide +kernel
theorem nd_Plan_longestDelay_46 : decode prog_4_method_10_code 46 = .ok (.iload_n 2, 1) := by decide +kernel
theorem nd_Plan_longestDelay_47 : decode prog_4_method_10_code 47 = .ok (.aaload, 1) := by decide +kernel
theorem nd_Plan_longestDelay_48 : decode prog_4_method_10_code 48 = .ok (.iload 4, 2) := by decide +kernel
theorem nd_Plan_longestDelay_50 : decode prog_4_method_10_code 50 = .ok (.iaload, 1) := by decide +kernel
theorem nd_Plan_longestDelay_51 : decode prog_4_method_10_code 51 = .ok (.invokestatic 36, 3) := by decide +kernel
theorem nd_Plan_longestDelay_54 : decode prog_4_method_10_code 54 = .ok (.istore_n 3, 1) := by decide +kernel
theorem nd_Plan_longestDelay_55 : decode prog_4_method_10_code 55 = .ok (.iinc 4 1, 3) := by decide +kernel
theorem nd_Plan_longestDelay_58 : decode prog_4_method_10_code 58 = .ok (.goto (-42), 3) := by decide +kernel
theorem nd_Plan_longestDelay_61 : decode prog_4_method_10_code 61 = .ok (.iload_n 3, 1) := by decide +kernel
theorem nd_Plan_longestDelay_62 : decode prog_4_method_10_code 62 = .ok (.ireturn, 1) := by decide +kernel
abbrev pq_Plan_longestDelay (dC : Nat → ClassId) (dI : Nat → Nat → Nat) (cI cZ cO : ClassId) (apl : Nat → Nat) (pl : cr_S) (x1 : Int32) (x2 : Int32) (A : Nat → Prop) : Array Value → State → Outcome → State → Prop :=
  va_Qi (fun (r : Int32) (_ : Unit) => r = md_Plan_longestDelay pl x1 x2) (fun (_ : Unit) t => va_P (dC, dI) vwCl (cw_Plan cI cZ cO apl pl) t.heap ∧ va_K (dC, dI) vwCl [(cI, .int), (cZ, .boolean), (cO, .array .int)] t ∧ va_D A (cw_Plan cI cZ cO apl pl)) A
set_option maxHeartbeats 4000000 in
set_option maxRecDepth 100000 in
theorem ct_Plan_longestDelay (l : Launch) (dC : Nat → ClassId) (dI : Nat → Nat → Nat) (cI cZ cO : ClassId) (apl : Nat → Nat) (sz : Nat) (pl : cr_S) (x1 : Int32) (x2 : Int32) (hR_pl : cr_RPlan pl) (hx1 : 0 ≤ x1.toInt ∧ x1.toInt ≤ 10) (hx2 : 0 ≤ x2.toInt ∧ x2.toInt ≤ 10) : Met l ny_Plan_longestDelay nw_Plan_longestDelay ({ frames := 1, cells := 0, slots := 0, locals := 22 } : Room) (va_Pc [.ref (apl 0), .int x1, .int x2] (fun U => U.heap.size = sz ∧ va_P (dC, dI) vwCl (cw_Plan cI cZ cO apl pl) U.heap ∧ va_K (dC, dI) vwCl [(cI, .int), (cZ, .boolean), (cO, .array .int)] U ∧ va_D (fun _ => True) (cw_Plan cI cZ cO apl pl))) (pq_Plan_longestDelay dC dI cI cZ cO apl pl x1 x2 (va_A (cw_Plan cI cZ cO apl pl) sz)) 0 0 (va_A (cw_Plan cI cZ cO apl pl) sz) := by
  refine Met.ofW (cc := prog_4_method_10_code) (maxL := 5) (ret := (some .int)) (by decide) rfl ?_
  intro p e s m args below meth c s₁ B hml hv
  obtain ⟨rfl, hsz, hP, hK, hD0⟩ := hv
  have hx := B.exec
  have hb := B.bytes
  have hr := B.returns
  have hts0 := atoms_spec (ws := nw_Plan_longestDelay) B.pre
  have hts : ∀ w ∈ ng_tbl, w.before ([.ref (apl 0), .int x1, .int x2] : List Value).toArray s = true := fun w h => hts0 w (List.mem_cons_of_mem _ h)
  have hown : s.vm.findClass "CeilingRows$Plan" = some m.cls := findClass_of_methodNamed B.named
  have hlocks := B.notSynchronized
  subst hsz
  have hD := hD0.self (sz := s.heap.size)
  generalize hAe : va_A (cw_Plan cI cZ cO apl pl) s.heap.size = A at hD ⊢
  have hA : ∀ q : Nat, s.heap.size ≤ q → A q := fun q h => by rw [← hAe]; exact Or.inr h
  have hS : va_S A s.heap s.heap [] := va_S.rf
  have hP : va_P (dC, dI) vwCl (cw_Plan cI cZ cO apl pl) s.heap := hP
  have hl := lv_entry ([.ref (apl 0), .int x1, .int x2]) (n := 5) (Nat.le_of_ble_eq_true rfl)
  rw [lg_entry_eq]
  generalize (lg_sl ([.ref (apl 0), .int x1, .int x2]) ++ List.replicate (5 - (lg_sl ([.ref (apl 0), .int x1, .int x2])).length) Slot.unset).toArray = ls at hl ⊢
  have hl : lv_has ls 5 [(0, .ref (apl 0)), (1, .int x1), (2, .int x2)] := hl
  have k_0 : (0 : Int32).toInt = 0 := by decide
  have k_1 : (1 : Int32).toInt = 1 := by decide
  obtain ⟨tgt, hT⟩ : ∃ z, md_Plan_longestDelay pl x1 x2 = z := ⟨_, rfl⟩
  have hM := hT
  unfold md_Plan_longestDelay at hM
  refine lv_aload_n hx hb nd_Plan_longestDelay_0 rfl (lv_at hl 0 rfl) ?_
  refine lv_iload_n hx hb nd_Plan_longestDelay_1 rfl (lv_at hl 2 rfl) ?_
  refine lv_iload_n hx hb nd_Plan_longestDelay_2 rfl (lv_at hl 1 rfl) ?_
  have hPc := hP
  have hDc := hD
  have hFc := va_free (wc := cw_Plan cI cZ cO apl pl) hD hS hA [0, 1, 2, 3, 4, 5, 6, 7, 8, 9, 10, 11, 12, 13, 14, 15, 16] rfl
  refine va_calli (va_runV (As := [.int x2, .int x1]) (rest := []) ⟨hx, hb, hml, hown, hts⟩ (ct_Plan_isBelow l dC dI cI cZ cO apl s.heap.size pl x2 x1 hR_pl (by omega) (by omega)) (cwV 2 hts (ng_V tw_303 tw_304 tw_305 tw_2 tw_306) rfl rfl rfl (by decide +kernel) ⟨Nat.le_of_ble_eq_true rfl, Nat.le_of_ble_eq_true rfl⟩) ⟨fun a U g mk q => by obtain ⟨q0, q1, qP, qK, qD⟩ := q; exact ⟨q0, q1, qP, va_K.moved (u := U) (U := U.calling g mk a) (Vm.Alike.refl U.vm) qK, qD⟩, va_recv hK hPc (ci := 0) (q0 := 0) rfl rfl, fun U hU hW => ⟨rfl, by rw [hU], by rw [hU]; exact hPc, va_K.moved hW.alike hK, hDc.weaken (fun _ _ _ _ => trivial)⟩⟩ rfl rfl hl.1 rfl (lv_room (Nat.le_of_ble_eq_true rfl)) nd_Plan_longestDelay_3 ⟨Nat.zero_le _, Nat.zero_le _⟩) hS (fun q _ h => hFc q h) hFc (fun r_1 u t H1 locs ht hvm hw hB hz1 hk1 hS => ?_)
  obtain ⟨hP1, hK1, hD1⟩ := hB
  rw [ht] at hP1
  have w_2 := hw
  try rw [← w_2] at hM
  have hP := hP1
  have hD := cr_Dw hD1 hFc
  generalize H1 = H at hP hS ⊢
  refine lv_if_ne (tgt := 11) hx hb nd_Plan_longestDelay_6 (by decide) (fun c_3 => ?_) (fun c_3 => ?_)
  · have c_3t := cr_ne c_3
    rw [if_neg c_3] at hM
    refine lv_iconst (v := 0) hx hb nd_Plan_longestDelay_11 (by decide) ?_
    refine lv_istore_n (lv' := [(3, .int (0 : Int32)), (0, .ref (apl 0)), (1, .int x1), (2, .int x2)]) hx hb nd_Plan_longestDelay_12 rfl hl (by decide) rfl (fun ls hl => ?_)
    refine lv_iconst (v := 1) hx hb nd_Plan_longestDelay_13 (by decide) ?_
    refine lv_istore (lv' := [(4, .int (1 : Int32)), (3, .int (0 : Int32)), (0, .ref (apl 0)), (1, .int x1), (2, .int x2)]) hx hb nd_Plan_longestDelay_14 hl (by decide) rfl (fun ls hl => ?_)
    have hl := lv_sub hl [2, 3, 4, 1, 0] rfl
    have lp_16 : ∀ (n_16 : Nat) (v3_16 : Int32) (v4_16 : Int32), (1 ≤ v4_16.toInt ∧ v4_16.toInt ≤ 9) → (9 < v4_16.toInt + (n_16 : Int)) → lo_Plan_longestDelay_16 pl x1 x2 n_16 v3_16 v4_16 = tgt → ∀ (H : Heap) (locs : List Loc), va_P (dC, dI) vwCl (cw_Plan cI cZ cO apl pl) H → va_D A (cw_Plan cI cZ cO apl pl) → va_S A s.heap H locs → ∀ ls : Array Slot, lv_has ls 5 [(0, .ref (apl 0)), (1, .int x1), (2, .int x2), (3, .int v3_16), (4, .int v4_16)] → W p l e (headSpec nw_Plan_longestDelay ({ frames := 1, cells := 0, slots := 0, locals := 22 } : Room)).room s m ([.ref (apl 0), .int x1, .int x2] : List Value).toArray below meth c H locs 0 0 (MQ below (pq_Plan_longestDelay dC dI cI cZ cO apl pl x1 x2 A) ([.ref (apl 0), .int x1, .int x2] : List Value).toArray s 0 0 A) (F0 m 16 ls []) := by
      intro n_16
      induction n_16 with
      | zero =>
        intro v3_16 v4_16 hv4_16 hn_16
        exfalso; omega
      | succ n_16 ih_16 =>
        intro v3_16 v4_16 hv4_16 hn_16 hM H locs hP hD hS ls hl
        have hn_16 : 9 < v4_16.toInt + ((n_16 : Int) + 1) := by omega
        rw [lo_Plan_longestDelay_16] at hM
        refine lv_iload hx hb nd_Plan_longestDelay_16 (lv_at hl 4 rfl) ?_
        refine lv_aload_n hx hb nd_Plan_longestDelay_18 rfl (lv_at hl 0 rfl) ?_
        refine va_get (D := (dC, dI)) (ci := 0) (v := .int (pl 0 1)) (C := "CeilingRows$Plan") (T := nf_Plan) (N := 7) hx hb hts nin_Plan hown hK hP 0 rfl rfl 1 (by decide) (hts _ tw_31) (fun _ h9 => h9) rfl nd_Plan_longestDelay_19 ?_
        have f_4 := cr_rfo hR_pl.2.1
        refine lv_icmp_gt (tgt := 61) hx hb nd_Plan_longestDelay_22 (by decide) (fun c_5 => ?_) (fun c_5 => ?_)
        · have c_5t := cr_lt c_5
          rw [if_pos c_5] at hM
          refine lv_iload_n hx hb nd_Plan_longestDelay_61 rfl (lv_at hl 3 rfl) ?_
          exact W.iret (v := v3_16) hx hb hr (fun t ht hW => ⟨⟨v3_16, (), rfl, by rw [hT, ← hM], by rw [ht]; exact hP, va_K.moved hW.alike hK, hD⟩, hS.F ht⟩) hS.2.2 nd_Plan_longestDelay_62
        · have c_5t := cr_nlt c_5
          rw [if_neg c_5] at hM
          refine lv_aload_n hx hb nd_Plan_longestDelay_25 rfl (lv_at hl 0 rfl) ?_
          refine va_get (D := (dC, dI)) (ci := 0) (v := .ref (apl 3)) (C := "CeilingRows$Plan") (T := nf_Plan) (N := 7) hx hb hts nin_Plan hown hK hP 0 rfl rfl 4 (by decide) (hts _ tw_39) (fun _ h9 => h9) rfl nd_Plan_longestDelay_26 ?_
          refine lv_iload hx hb nd_Plan_longestDelay_29 (lv_at hl 4 rfl) ?_
          have b_6 : vp_in v4_16 9 := vp_in_iff.mpr (by omega)
          refine va_iald hx hb hK hP 3 0 rfl rfl b_6 nd_Plan_longestDelay_31 ?_
          refine lv_aload_n hx hb nd_Plan_longestDelay_32 rfl (lv_at hl 0 rfl) ?_
          refine va_get (D := (dC, dI)) (ci := 0) (v := .ref (apl 1)) (C := "CeilingRows$Plan") (T := nf_Plan) (N := 7) hx hb hts nin_Plan hown hK hP 0 rfl rfl 2 (by decide) (hts _ tw_34) (fun _ h9 => h9) rfl nd_Plan_longestDelay_33 ?_
          refine lv_iload_n hx hb nd_Plan_longestDelay_36 rfl (lv_at hl 1 rfl) ?_
          have b_7 : vp_in x1 11 := vp_in_iff.mpr (by omega)
          refine va_iald hx hb hK hP 1 0 rfl rfl b_7 nd_Plan_longestDelay_37 ?_
          refine lv_icmp_lt (tgt := 55) hx hb nd_Plan_longestDelay_38 (by decide) (fun c_8 => ?_) (fun c_8 => ?_)
          · have c_8t := cr_lt c_8
            rw [if_pos c_8] at hM
            have e_9 : (v4_16 + (1 : Int32)).toInt = v4_16.toInt + (1 : Int32).toInt := cr_add (by omega)
            refine lv_iinc (v := (v4_16 + (1 : Int32))) (lv' := [(4, .int (v4_16 + (1 : Int32))), (0, .ref (apl 0)), (1, .int x1), (2, .int x2), (3, .int v3_16)]) hx hb nd_Plan_longestDelay_55 hl (k := 4) rfl (by rfl) (by decide) rfl (fun ls hl => ?_)
            refine lv_goto (tgt := 16) hx hb nd_Plan_longestDelay_58 (by decide) ?_
            exact ih_16 v3_16 (v4_16 + (1 : Int32)) (by omega) (by omega) hM _ _ hP hD hS _ (lv_sub hl [1, 2, 3, 4, 0] rfl)
          · have c_8t := cr_nlt c_8
            rw [if_neg c_8] at hM
            refine lv_iload_n hx hb nd_Plan_longestDelay_41 rfl (lv_at hl 3 rfl) ?_
            refine lv_aload_n hx hb nd_Plan_longestDelay_42 rfl (lv_at hl 0 rfl) ?_
            refine va_get (D := (dC, dI)) (ci := 0) (v := .ref (apl 5)) (C := "CeilingRows$Plan") (T := nf_Plan) (N := 7) hx hb hts nin_Plan hown hK hP 0 rfl rfl 6 (by decide) (hts _ tw_43) (fun _ h9 => h9) rfl nd_Plan_longestDelay_43 ?_
            refine lv_iload_n hx hb nd_Plan_longestDelay_46 rfl (lv_at hl 2 rfl) ?_
            have b_10 : vp_in x2 11 := vp_in_iff.mpr (by omega)
            have g_11 : x2.toNatClampNeg < 11 := cr_ix b_10
            refine ga_ald hx hb hK hP 5 2 rfl rfl b_10 g_11 nd_Plan_longestDelay_47 ?_
            refine lv_iload hx hb nd_Plan_longestDelay_48 (lv_at hl 4 rfl) ?_
            have b_12 : vp_in v4_16 9 := vp_in_iff.mpr (by omega)
            refine va_iald hx hb hK hP (6 + x2.toNatClampNeg) 0 (cg_Plan_6 cI cZ cO apl pl _ g_11) rfl b_12 nd_Plan_longestDelay_50 ?_
            refine va_mmax hx hb (by rw [hml]; exact hl.1.symm) hown (hts _ tw_206) (hts _ tw_207) (hts _ tw_7) (hts _ tw_208) (Nat.le_of_ble_eq_true rfl) (Nat.le_of_ble_eq_true rfl) (Nat.zero_le _) (Nat.zero_le _) nd_Plan_longestDelay_51 ?_
            refine lv_istore_n (lv' := [(3, .int (cr_max v3_16 (pl (6 + x2.toNatClampNeg) v4_16.toNatClampNeg))), (0, .ref (apl 0)), (1, .int x1), (2, .int x2), (4, .int v4_16)]) hx hb nd_Plan_longestDelay_54 rfl hl (by decide) rfl (fun ls hl => ?_)
            have e_13 : (v4_16 + (1 : Int32)).toInt = v4_16.toInt + (1 : Int32).toInt := cr_add (by omega)
            refine lv_iinc (v := (v4_16 + (1 : Int32))) (lv' := [(4, .int (v4_16 + (1 : Int32))), (3, .int (cr_max v3_16 (pl (6 + x2.toNatClampNeg) v4_16.toNatClampNeg))), (0, .ref (apl 0)), (1, .int x1), (2, .int x2)]) hx hb nd_Plan_longestDelay_55 hl (k := 4) rfl (by rfl) (by decide) rfl (fun ls hl => ?_)
            refine lv_goto (tgt := 16) hx hb nd_Plan_longestDelay_58 (by decide) ?_
            exact ih_16 (cr_max v3_16 (pl (6 + x2.toNatClampNeg) v4_16.toNatClampNeg)) (v4_16 + (1 : Int32)) (by omega) (by omega) hM _ _ hP hD hS _ (lv_sub hl [2, 3, 4, 1, 0] rfl)
    exact lp_16 9 (0 : Int32) (1 : Int32) (by omega) (by omega) hM _ _ hP hD hS _ hl
  · have c_3t := cr_eq c_3
    rw [if_pos c_3] at hM
    refine lv_iconst (v := 0) hx hb nd_Plan_longestDelay_9 (by decide) ?_
    exact W.iret (v := (0 : Int32)) hx hb hr (fun t ht hW => ⟨⟨(0 : Int32), (), rfl, by rw [hT, ← hM], by rw [ht]; exact hP, va_K.moved hW.alike hK, hD⟩, hS.F ht⟩) hS.2.2 nd_Plan_longestDelay_10
