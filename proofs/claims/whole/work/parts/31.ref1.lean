theorem nd_Ref_isTask_0 : decode prog_7_method_2_code 0 = .ok (.iload_n 1, 1) := by decide +kernel
theorem nd_Ref_isTask_1 : decode prog_7_method_2_code 1 = .ok (.iconst 1, 1) := by decide +kernel
theorem nd_Ref_isTask_2 : decode prog_7_method_2_code 2 = .ok (.if_icmp .lt (15), 3) := by decide +kernel
theorem nd_Ref_isTask_5 : decode prog_7_method_2_code 5 = .ok (.iload_n 1, 1) := by decide +kernel
theorem nd_Ref_isTask_6 : decode prog_7_method_2_code 6 = .ok (.aload_n 0, 1) := by decide +kernel
theorem nd_Ref_isTask_7 : decode prog_7_method_2_code 7 = .ok (.getfield 63, 3) := by decide +kernel
theorem nd_Ref_isTask_10 : decode prog_7_method_2_code 10 = .ok (.if_icmp .gt (7), 3) := by decide +kernel
theorem nd_Ref_isTask_13 : decode prog_7_method_2_code 13 = .ok (.iconst 1, 1) := by decide +kernel
theorem nd_Ref_isTask_14 : decode prog_7_method_2_code 14 = .ok (.goto (4), 3) := by decide +kernel
theorem nd_Ref_isTask_17 : decode prog_7_method_2_code 17 = .ok (.iconst 0, 1) := by decide +kernel
theorem nd_Ref_isTask_18 : decode prog_7_method_2_code 18 = .ok (.ireturn, 1) := by decide +kernel
abbrev pq_Ref_isTask (dC : Nat → ClassId) (dI : Nat → Nat → Nat) (cI cZ cJ : ClassId) (arf : Nat → Nat) (rf : cr_S) (lat : Int64) (ln : (Nat → Int64)) (x1 : Int32) (A : Nat → Prop) : Array Value → State → Outcome → State → Prop :=
  va_Qi (fun (r : Int32) (_ : Unit) => r = md_Ref_isTask rf lat ln x1 ∧ (r.toInt = 0 ∨ (1 ≤ x1.toInt ∧ x1.toInt ≤ (rf 0 0).toInt))) (fun (_ : Unit) t => va_P (dC, dI) vwCl (cw_Ref cI cZ cJ arf rf lat ln) t.heap ∧ va_K (dC, dI) vwCl [(cI, .int), (cZ, .boolean), (cJ, .long)] t ∧ va_D A (cw_Ref cI cZ cJ arf rf lat ln)) A
set_option maxHeartbeats 4000000 in
set_option maxRecDepth 100000 in
theorem ct_Ref_isTask (l : Launch) (dC : Nat → ClassId) (dI : Nat → Nat → Nat) (cI cZ cJ : ClassId) (arf : Nat → Nat) (sz : Nat) (rf : cr_S) (lat : Int64) (ln : (Nat → Int64)) (x1 : Int32) (hR_rf : cr_RRef rf) : Met l ny_Ref_isTask nw_Ref_isTask ({ frames := 0, cells := 0, slots := 0, locals := 0 } : Room) (va_Pc [.ref (arf 0), .int x1] (fun U => U.heap.size = sz ∧ va_P (dC, dI) vwCl (cw_Ref cI cZ cJ arf rf lat ln) U.heap ∧ va_K (dC, dI) vwCl [(cI, .int), (cZ, .boolean), (cJ, .long)] U ∧ va_D (fun _ => True) (cw_Ref cI cZ cJ arf rf lat ln))) (pq_Ref_isTask dC dI cI cZ cJ arf rf lat ln x1 (va_A (cw_Ref cI cZ cJ arf rf lat ln) sz)) 0 0 (va_A (cw_Ref cI cZ cJ arf rf lat ln) sz) := by
  refine Met.ofW (cc := prog_7_method_2_code) (maxL := 2) (ret := (some .boolean)) (by decide) rfl ?_
  intro p e s m args below meth c s₁ B hml hv
  obtain ⟨rfl, hsz, hP, hK, hD0⟩ := hv
  have hx := B.exec
  have hb := B.bytes
  have hr := B.returns
  have hts0 := atoms_spec (ws := nw_Ref_isTask) B.pre
  have hts : ∀ w ∈ ng_tbl, w.before ([.ref (arf 0), .int x1] : List Value).toArray s = true := fun w h => hts0 w (List.mem_cons_of_mem _ h)
  have hown : s.vm.findClass "CeilingRowsModel" = some m.cls := findClass_of_methodNamed B.named
  have hlocks := B.notSynchronized
  subst hsz
  have hD := hD0.self (sz := s.heap.size)
  generalize hAe : va_A (cw_Ref cI cZ cJ arf rf lat ln) s.heap.size = A at hD ⊢
  have hA : ∀ q : Nat, s.heap.size ≤ q → A q := fun q h => by rw [← hAe]; exact Or.inr h
  have hS : va_S A s.heap s.heap [] := va_S.rf
  have hP : va_P (dC, dI) vwCl (cw_Ref cI cZ cJ arf rf lat ln) s.heap := hP
  have hl := lv_entry ([.ref (arf 0), .int x1]) (n := 2) (Nat.le_of_ble_eq_true rfl)
  rw [lg_entry_eq]
  generalize (lg_sl ([.ref (arf 0), .int x1]) ++ List.replicate (2 - (lg_sl ([.ref (arf 0), .int x1])).length) Slot.unset).toArray = ls at hl ⊢
  have hl : lv_has ls 2 [(0, .ref (arf 0)), (1, .int x1)] := hl
  have f0_rf_0 := cr_rfo hR_rf.1
  have f0_rf_1 := cr_rfo hR_rf.2.1
  have k_0 : (0 : Int32).toInt = 0 := by decide
  have k_1 : (1 : Int32).toInt = 1 := by decide
  obtain ⟨tgt, hT⟩ : ∃ z, md_Ref_isTask rf lat ln x1 = z := ⟨_, rfl⟩
  have hM := hT
  unfold md_Ref_isTask at hM
  refine lv_iload_n hx hb nd_Ref_isTask_0 rfl (lv_at hl 1 rfl) ?_
  refine lv_iconst (v := 1) hx hb nd_Ref_isTask_1 (by decide) ?_
  refine lv_icmp_lt (tgt := 17) hx hb nd_Ref_isTask_2 (by decide) (fun c_1 => ?_) (fun c_1 => ?_)
  · have c_1t := cr_lt c_1
    rw [if_pos c_1] at hM
    refine lv_iconst (v := 0) hx hb nd_Ref_isTask_17 (by decide) ?_
    exact W.zret (v := (0 : Int32)) (ty := .boolean) hx hb hr (by decide) (fun t ht hW => ⟨⟨(0 : Int32), (), rfl, ⟨by rw [hT, ← hM], by omega⟩, by rw [ht]; exact hP, va_K.moved hW.alike hK, hD⟩, hS.F ht⟩) hS.2.2 nd_Ref_isTask_18
  · have c_1t := cr_nlt c_1
    rw [if_neg c_1] at hM
    refine lv_iload_n hx hb nd_Ref_isTask_5 rfl (lv_at hl 1 rfl) ?_
    refine lv_aload_n hx hb nd_Ref_isTask_6 rfl (lv_at hl 0 rfl) ?_
    refine va_get (D := (dC, dI)) (ci := 5) (v := .int (rf 0 0)) (C := "CeilingRowsModel") (T := nf_Ref) (N := 22) hx hb hts nin_Ref hown hK hP 0 rfl rfl 0 (by decide) (hts _ tw_413) (fun _ h9 => h9) rfl nd_Ref_isTask_7 ?_
    have f_2 := cr_rfo hR_rf.1
    refine lv_icmp_gt (tgt := 17) hx hb nd_Ref_isTask_10 (by decide) (fun c_3 => ?_) (fun c_3 => ?_)
    · have c_3t := cr_lt c_3
      rw [if_pos c_3] at hM
      refine lv_iconst (v := 0) hx hb nd_Ref_isTask_17 (by decide) ?_
      exact W.zret (v := (0 : Int32)) (ty := .boolean) hx hb hr (by decide) (fun t ht hW => ⟨⟨(0 : Int32), (), rfl, ⟨by rw [hT, ← hM], by omega⟩, by rw [ht]; exact hP, va_K.moved hW.alike hK, hD⟩, hS.F ht⟩) hS.2.2 nd_Ref_isTask_18
    · have c_3t := cr_nlt c_3
      rw [if_neg c_3] at hM
      refine lv_iconst (v := 1) hx hb nd_Ref_isTask_13 (by decide) ?_
      refine lv_goto (tgt := 18) hx hb nd_Ref_isTask_14 (by decide) ?_
      exact W.zret (v := (1 : Int32)) (ty := .boolean) hx hb hr (by decide) (fun t ht hW => ⟨⟨(1 : Int32), (), rfl, ⟨by rw [hT, ← hM], by omega⟩, by rw [ht]; exact hP, va_K.moved hW.alike hK, hD⟩, hS.F ht⟩) hS.2.2 nd_Ref_isTask_18

theorem nd_Ref_isResource_0 : decode prog_7_method_3_code 0 = .ok (.iload_n 1, 1) := by decide +kernel
theorem nd_Ref_isResource_1 : decode prog_7_method_3_code 1 = .ok (.iconst 1, 1) := by decide +kernel
theorem nd_Ref_isResource_2 : decode prog_7_method_3_code 2 = .ok (.if_icmp .lt (15), 3) := by decide +kernel
theorem nd_Ref_isResource_5 : decode prog_7_method_3_code 5 = .ok (.iload_n 1, 1) := by decide +kernel
theorem nd_Ref_isResource_6 : decode prog_7_method_3_code 6 = .ok (.aload_n 0, 1) := by decide +kernel
theorem nd_Ref_isResource_7 : decode prog_7_method_3_code 7 = .ok (.getfield 67, 3) := by decide +kernel
theorem nd_Ref_isResource_10 : decode prog_7_method_3_code 10 = .ok (.if_icmp .gt (7), 3) := by decide +kernel
theorem nd_Ref_isResource_13 : decode prog_7_method_3_code 13 = .ok (.iconst 1, 1) := by decide +kernel
theorem nd_Ref_isResource_14 : decode prog_7_method_3_code 14 = .ok (.goto (4), 3) := by decide +kernel
theorem nd_Ref_isResource_17 : decode prog_7_method_3_code 17 = .ok (.iconst 0, 1) := by decide +kernel
theorem nd_Ref_isResource_18 : decode prog_7_method_3_code 18 = .ok (.ireturn, 1) := by decide +kernel
abbrev pq_Ref_isResource (dC : Nat → ClassId) (dI : Nat → Nat → Nat) (cI cZ cJ : ClassId) (arf : Nat → Nat) (rf : cr_S) (lat : Int64) (ln : (Nat → Int64)) (x1 : Int32) (A : Nat → Prop) : Array Value → State → Outcome → State → Prop :=
  va_Qi (fun (r : Int32) (_ : Unit) => r = md_Ref_isResource rf lat ln x1 ∧ (r.toInt = 0 ∨ (1 ≤ x1.toInt ∧ x1.toInt ≤ (rf 0 2).toInt))) (fun (_ : Unit) t => va_P (dC, dI) vwCl (cw_Ref cI cZ cJ arf rf lat ln) t.heap ∧ va_K (dC, dI) vwCl [(cI, .int), (cZ, .boolean), (cJ, .long)] t ∧ va_D A (cw_Ref cI cZ cJ arf rf lat ln)) A
set_option maxHeartbeats 4000000 in
set_option maxRecDepth 100000 in
theorem ct_Ref_isResource (l : Launch) (dC : Nat → ClassId) (dI : Nat → Nat → Nat) (cI cZ cJ : ClassId) (arf : Nat → Nat) (sz : Nat) (rf : cr_S) (lat : Int64) (ln : (Nat → Int64)) (x1 : Int32) (hR_rf : cr_RRef rf) : Met l ny_Ref_isResource nw_Ref_isResource ({ frames := 0, cells := 0, slots := 0, locals := 0 } : Room) (va_Pc [.ref (arf 0), .int x1] (fun U => U.heap.size = sz ∧ va_P (dC, dI) vwCl (cw_Ref cI cZ cJ arf rf lat ln) U.heap ∧ va_K (dC, dI) vwCl [(cI, .int), (cZ, .boolean), (cJ, .long)] U ∧ va_D (fun _ => True) (cw_Ref cI cZ cJ arf rf lat ln))) (pq_Ref_isResource dC dI cI cZ cJ arf rf lat ln x1 (va_A (cw_Ref cI cZ cJ arf rf lat ln) sz)) 0 0 (va_A (cw_Ref cI cZ cJ arf rf lat ln) sz) := by
  refine Met.ofW (cc := prog_7_method_3_code) (maxL := 2) (ret := (some .boolean)) (by decide) rfl ?_
  intro p e s m args below meth c s₁ B hml hv
  obtain ⟨rfl, hsz, hP, hK, hD0⟩ := hv
  have hx := B.exec
  have hb := B.bytes
  have hr := B.returns
  have hts0 := atoms_spec (ws := nw_Ref_isResource) B.pre
  have hts : ∀ w ∈ ng_tbl, w.before ([.ref (arf 0), .int x1] : List Value).toArray s = true := fun w h => hts0 w (List.mem_cons_of_mem _ h)
  have hown : s.vm.findClass "CeilingRowsModel" = some m.cls := findClass_of_methodNamed B.named
  have hlocks := B.notSynchronized
  subst hsz
  have hD := hD0.self (sz := s.heap.size)
  generalize hAe : va_A (cw_Ref cI cZ cJ arf rf lat ln) s.heap.size = A at hD ⊢
  have hA : ∀ q : Nat, s.heap.size ≤ q → A q := fun q h => by rw [← hAe]; exact Or.inr h
  have hS : va_S A s.heap s.heap [] := va_S.rf
  have hP : va_P (dC, dI) vwCl (cw_Ref cI cZ cJ arf rf lat ln) s.heap := hP
  have hl := lv_entry ([.ref (arf 0), .int x1]) (n := 2) (Nat.le_of_ble_eq_true rfl)
  rw [lg_entry_eq]
  generalize (lg_sl ([.ref (arf 0), .int x1]) ++ List.replicate (2 - (lg_sl ([.ref (arf 0), .int x1])).length) Slot.unset).toArray = ls at hl ⊢
  have hl : lv_has ls 2 [(0, .ref (arf 0)), (1, .int x1)] := hl
  have f0_rf_0 := cr_rfo hR_rf.1
  have f0_rf_1 := cr_rfo hR_rf.2.1
  have k_0 : (0 : Int32).toInt = 0 := by decide
  have k_1 : (1 : Int32).toInt = 1 := by decide
  obtain ⟨tgt, hT⟩ : ∃ z, md_Ref_isResource rf lat ln x1 = z := ⟨_, rfl⟩
  have hM := hT
  unfold md_Ref_isResource at hM
  refine lv_iload_n hx hb nd_Ref_isResource_0 rfl (lv_at hl 1 rfl) ?_
  refine lv_iconst (v := 1) hx hb nd_Ref_isResource_1 (by decide) ?_
  refine lv_icmp_lt (tgt := 17) hx hb nd_Ref_isResource_2 (by decide) (fun c_1 => ?_) (fun c_1 => ?_)
  · have c_1t := cr_lt c_1
    rw [if_pos c_1] at hM
    refine lv_iconst (v := 0) hx hb nd_Ref_isResource_17 (by decide) ?_
    exact W.zret (v := (0 : Int32)) (ty := .boolean) hx hb hr (by decide) (fun t ht hW => ⟨⟨(0 : Int32), (), rfl, ⟨by rw [hT, ← hM], by omega⟩, by rw [ht]; exact hP, va_K.moved hW.alike hK, hD⟩, hS.F ht⟩) hS.2.2 nd_Ref_isResource_18
  · have c_1t := cr_nlt c_1
    rw [if_neg c_1] at hM
    refine lv_iload_n hx hb nd_Ref_isResource_5 rfl (lv_at hl 1 rfl) ?_
    refine lv_aload_n hx hb nd_Ref_isResource_6 rfl (lv_at hl 0 rfl) ?_
    refine va_get (D := (dC, dI)) (ci := 5) (v := .int (rf 0 2)) (C := "CeilingRowsModel") (T := nf_Ref) (N := 22) hx hb hts nin_Ref hown hK hP 0 rfl rfl 7 (by decide) (hts _ tw_420) (fun _ h9 => h9) rfl nd_Ref_isResource_7 ?_
    have f_2 := cr_rfo hR_rf.2.1
    refine lv_icmp_gt (tgt := 17) hx hb nd_Ref_isResource_10 (by decide) (fun c_3 => ?_) (fun c_3 => ?_)
    · have c_3t := cr_lt c_3
      rw [if_pos c_3] at hM
      refine lv_iconst (v := 0) hx hb nd_Ref_isResource_17 (by decide) ?_
      exact W.zret (v := (0 : Int32)) (ty := .boolean) hx hb hr (by decide) (fun t ht hW => ⟨⟨(0 : Int32), (), rfl, ⟨by rw [hT, ← hM], by omega⟩, by rw [ht]; exact hP, va_K.moved hW.alike hK, hD⟩, hS.F ht⟩) hS.2.2 nd_Ref_isResource_18
    · have c_3t := cr_nlt c_3
      rw [if_neg c_3] at hM
      refine lv_iconst (v := 1) hx hb nd_Ref_isResource_13 (by decide) ?_
      refine lv_goto (tgt := 18) hx hb nd_Ref_isResource_14 (by decide) ?_
      exact W.zret (v := (1 : Int32)) (ty := .boolean) hx hb hr (by decide) (fun t ht hW => ⟨⟨(1 : Int32), (), rfl, ⟨by rw [hT, ← hM], by omega⟩, by rw [ht]; exact hP, va_K.moved hW.alike hK, hD⟩, hS.F ht⟩) hS.2.2 nd_Ref_isResource_18

theorem nd_Ref_task_0 : decode prog_7_method_4_code 0 = .ok (.iload_n 1, 1) := by decide +kernel
theorem nd_Ref_task_1 : decode prog_7_method_4_code 1 = .ok (.iconst 1, 1) := by decide +kernel
theorem nd_Ref_task_2 : decode prog_7_method_4_code 2 = .ok (.if_icmp .lt (19), 3) := by decide +kernel
theorem nd_Ref_task_5 : decode prog_7_method_4_code 5 = .ok (.iload_n 1, 1) := by decide +kernel
theorem nd_Ref_task_6 : decode prog_7_method_4_code 6 = .ok (.bipush 20, 2) := by decide +kernel
theorem nd_Ref_task_8 : decode prog_7_method_4_code 8 = .ok (.if_icmp .gt (13), 3) := by decide +kernel
theorem nd_Ref_task_11 : decode prog_7_method_4_code 11 = .ok (.iload_n 2, 1) := by decide +kernel
theorem nd_Ref_task_12 : decode prog_7_method_4_code 12 = .ok (.iconst 1, 1) := by decide +kernel
theorem nd_Ref_task_13 : decode prog_7_method_4_code 13 = .ok (.if_icmp .lt (8), 3) := by decide +kernel
theorem nd_Ref_task_16 : decode prog_7_method_4_code 16 = .ok (.iload_n 2, 1) := by decide +kernel
theorem nd_Ref_task_17 : decode prog_7_method_4_code 17 = .ok (.iconst 3, 1) := by decide +kernel
theorem nd_Ref_task_18 : decode prog_7_method_4_code 18 = .ok (.if_icmp .le (6), 3) := by decide +kernel
theorem nd_Ref_task_21 : decode prog_7_method_4_code 21 = .ok (.bipush (-2), 2) := by decide +kernel
theorem nd_Ref_task_23 : decode prog_7_method_4_code 23 = .ok (.ireturn, 1) := by decide +kernel
theorem nd_Ref_task_24 : decode prog_7_method_4_code 24 = .ok (.aload_n 0, 1) := by decide +kernel
theorem nd_Ref_task_25 : decode prog_7_method_4_code 25 = .ok (.getfield 63, 3) := by decide +kernel
theorem nd_Ref_task_28 : decode prog_7_method_4_code 28 = .ok (.bipush 10, 2) := by decide +kernel
theorem nd_Ref_task_30 : decode prog_7_method_4_code 30 = .ok (.if_icmp .ne (6), 3) := by decide +kernel
theorem nd_Ref_task_33 : decode prog_7_method_4_code 33 = .ok (.bipush (-4), 2) := by decide +kernel
theorem nd_Ref_task_35 : decode prog_7_method_4_code 35 = .ok (.ireturn, 1) := by decide +kernel
theorem nd_Ref_task_36 : decode prog_7_method_4_code 36 = .ok (.aload_n 0, 1) := by decide +kernel
theorem nd_Ref_task_37 : decode prog_7_method_4_code 37 = .ok (.dup, 1) := by decide +kernel
theorem nd_Ref_task_38 : decode prog_7_method_4_code 38 = .ok (.getfield 63, 3) := by decide +kernel
theorem nd_Ref_task_41 : decode prog_7_method_4_code 41 = .ok (.iconst 1, 1) := by decide +kernel
theorem nd_Ref_task_42 : decode prog_7_method_4_code 42 = .ok (.iadd, 1) := by decide +kernel
theorem nd_Ref_task_43 : decode prog_7_method_4_code 43 = .ok (.putfield 63, 3) := by decide +kernel
theorem nd_Ref_task_46 : decode prog_7_method_4_code 46 = .ok (.aload_n 0, 1) := by decide +kernel
theorem nd_Ref_task_47 : decode prog_7_method_4_code 47 = .ok (.getfield 7, 3) := by decide +kernel
theorem nd_Ref_task_50 : decode prog_7_method_4_code 50 = .ok (.aload_n 0, 1) := by decide +kernel
theorem nd_Ref_task_51 : decode prog_7_method_4_code 51 = .ok (.getfield 63, 3) := by decide +kernel
theorem nd_Ref_task_54 : decode prog_7_method_4_code 54 = .ok (.iload_n 1, 1) := by decide +kernel
theorem nd_Ref_task_55 : decode prog_7_method_4_code 55 = .ok (.iastore, 1) := by decide +kernel
theorem nd_Ref_task_56 : decode prog_7_method_4_code 56 = .ok (.aload_n 0, 1) := by decide +kernel
theorem nd_Ref_task_57 : decode prog_7_method_4_code 57 = .ok (.getfield 13, 3) := by decide +kernel
theorem nd_Ref_task_60 : decode prog_7_method_4_code 60 = .ok (.aload_n 0, 1) := by decide +kernel
theorem nd_Ref_task_61 : decode prog_7_method_4_code 61 = .ok (.getfield 63, 3) := by decide +kernel
theorem nd_Ref_task_64 : decode prog_7_method_4_code 64 = .ok (.iload_n 2, 1) := by decide +kernel
theorem nd_Ref_task_65 : decode prog_7_method_4_code 65 = .ok (.iastore, 1) := by decide +kernel
theorem nd_Ref_task_66 : decode prog_7_method_4_code 66 = .ok (.aload_n 0, 1) := by decide +kernel
theorem nd_Ref_task_67 : decode prog_7_method_4_code 67 = .ok (.getfield 63, 3) := by decide +kernel
theorem nd_Ref_task_70 : decode prog_7_method_4_code 70 = .ok (.ireturn, 1) := by decide +kernel
abbrev pq_Ref_task (dC : Nat → ClassId) (dI : Nat → Nat → Nat) (cI cZ cJ : ClassId) (arf : Nat → Nat) (rf : cr_S) (lat : Int64) (ln : (Nat → Int64)) (x1 : Int32) (x2 : Int32) (A : Nat → Prop) : Array Value → State → Outcome → State → Prop :=
  va_Qi (fun (r : Int32) (rf' : cr_S) => r = (md_Ref_task rf lat ln x1 x2).1 ∧ rf' = (md_Ref_task rf lat ln x1 x2).2 ∧ cr_RRef rf') (fun (rf' : cr_S) t => va_P (dC, dI) vwCl (cw_Ref cI cZ cJ arf rf' lat ln) t.heap ∧ va_K (dC, dI) vwCl [(cI, .int), (cZ, .boolean), (cJ, .long)] t ∧ va_D A (cw_Ref cI cZ cJ arf rf' lat ln)) A
set_option maxHeartbeats 4000000 in
set_option maxRecDepth 100000 in
theorem ct_Ref_task (l : Launch) (dC : Nat → ClassId) (dI : Nat → Nat → Nat) (cI cZ cJ : ClassId) (arf : Nat → Nat) (sz : Nat) (rf : cr_S) (lat : Int64) (ln : (Nat → Int64)) (x1 : Int32) (x2 : Int32) (hR_rf : cr_RRef rf) : Met l ny_Ref_task nw_Ref_task ({ frames := 0, cells := 0, slots := 0, locals := 0 } : Room) (va_Pc [.ref (arf 0), .int x1, .int x2] (fun U => U.heap.size = sz ∧ va_P (dC, dI) vwCl (cw_Ref cI cZ cJ arf rf lat ln) U.heap ∧ va_K (dC, dI) vwCl [(cI, .int), (cZ, .boolean), (cJ, .long)] U ∧ va_D (fun _ => True) (cw_Ref cI cZ cJ arf rf lat ln))) (pq_Ref_task dC dI cI cZ cJ arf rf lat ln x1 x2 (va_A (cw_Ref cI cZ cJ arf rf lat ln) sz)) 0 0 (va_A (cw_Ref cI cZ cJ arf rf lat ln) sz) := by
  refine Met.ofW (cc := prog_7_method_4_code) (maxL := 3) (ret := (some .int)) (by decide) rfl ?_
  intro p e s m args below meth c s₁ B hml hv
  obtain ⟨rfl, hsz, hP, hK, hD0⟩ := hv
  have hx := B.exec
  have hb := B.bytes
  have hr := B.returns
  have hts0 := atoms_spec (ws := nw_Ref_task) B.pre
  have hts : ∀ w ∈ ng_tbl, w.before ([.ref (arf 0), .int x1, .int x2] : List Value).toArray s = true := fun w h => hts0 w (List.mem_cons_of_mem _ h)
  have hown : s.vm.findClass "CeilingRowsModel" = some m.cls := findClass_of_methodNamed B.named
  have hlocks := B.notSynchronized
  subst hsz
  have hD := hD0.self (sz := s.heap.size)
  generalize hAe : va_A (cw_Ref cI cZ cJ arf rf lat ln) s.heap.size = A at hD ⊢
  have hA : ∀ q : Nat, s.heap.size ≤ q → A q := fun q h => by rw [← hAe]; exact Or.inr h
  have hS : va_S A s.heap s.heap [] := va_S.rf
  have hP : va_P (dC, dI) vwCl (cw_Ref cI cZ cJ arf rf lat ln) s.heap := hP
  have hl := lv_entry ([.ref (arf 0), .int x1, .int x2]) (n := 3) (Nat.le_of_ble_eq_true rfl)
  rw [lg_entry_eq]
  generalize (lg_sl ([.ref (arf 0), .int x1, .int x2]) ++ List.replicate (3 - (lg_sl ([.ref (arf 0), .int x1, .int x2])).length) Slot.unset).toArray = ls at hl ⊢
  have hl : lv_has ls 3 [(0, .ref (arf 0)), (1, .int x1), (2, .int x2)] := hl
  have f0_rf_0 := cr_rfo hR_rf.1
  have f0_rf_1 := cr_rfo hR_rf.2.1
  have k_m4 : (-4 : Int32).toInt = -4 := by decide
  have k_m2 : (-2 : Int32).toInt = -2 := by decide
  have k_1 : (1 : Int32).toInt = 1 := by decide
  have k_3 : (3 : Int32).toInt = 3 := by decide
  have k_10 : (10 : Int32).toInt = 10 := by decide
  have k_20 : (20 : Int32).toInt = 20 := by decide
  obtain ⟨tgt, hT⟩ : ∃ z, md_Ref_task rf lat ln x1 x2 = z := ⟨_, rfl⟩
  have hM := hT
  unfold md_Ref_task at hM
  refine lv_iload_n hx hb nd_Ref_task_0 rfl (lv_at hl 1 rfl) ?_
  refine lv_iconst (v := 1) hx hb nd_Ref_task_1 (by decide) ?_
  refine lv_icmp_lt (tgt := 21) hx hb nd_Ref_task_2 (by decide) (fun c_1 => ?_) (fun c_1 => ?_)
  · have c_1t := cr_lt c_1
    rw [if_pos c_1] at hM
    refine lv_bipush (v := -2) hx hb nd_Ref_task_21 (by decide) ?_
    exact W.iret (v := (-2 : Int32)) hx hb hr (fun t ht hW => ⟨⟨(-2 : Int32), rf, rfl, ⟨by rw [hT, ← hM], by rw [hT, ← hM], hR_rf⟩, by rw [ht]; exact hP, va_K.moved hW.alike hK, hD⟩, hS.F ht⟩) hS.2.2 nd_Ref_task_23
  · have c_1t := cr_nlt c_1
    rw [if_neg c_1] at hM
    refine lv_iload_n hx hb nd_Ref_task_5 rfl (lv_at hl 1 rfl) ?_
    refine lv_bipush (v := 20) hx hb nd_Ref_task_6 (by decide) ?_
    refine lv_icmp_gt (tgt := 21) hx hb nd_Ref_task_8 (by decide) (fun c_2 => ?_) (fun c_2 => ?_)
    · have c_2t := cr_lt c_2
      rw [if_pos c_2] at hM
      refine lv_bipush (v := -2) hx hb nd_Ref_task_21 (by decide) ?_
      exact W.iret (v := (-2 : Int32)) hx hb hr (fun t ht hW => ⟨⟨(-2 : Int32), rf, rfl, ⟨by rw [hT, ← hM], by rw [hT, ← hM], hR_rf⟩, by rw [ht]; exact hP, va_K.moved hW.alike hK, hD⟩, hS.F ht⟩) hS.2.2 nd_Ref_task_23
    · have c_2t := cr_nlt c_2
      rw [if_neg c_2] at hM
      refine lv_iload_n hx hb nd_Ref_task_11 rfl (lv_at hl 2 rfl) ?_
      refine lv_iconst (v := 1) hx hb nd_Ref_task_12 (by decide) ?_
      refine lv_icmp_lt (tgt := 21) hx hb nd_Ref_task_13 (by decide) (fun c_3 => ?_) (fun c_3 => ?_)
      · have c_3t := cr_lt c_3
        rw [if_pos c_3] at hM
        refine lv_bipush (v := -2) hx hb nd_Ref_task_21 (by decide) ?_
        exact W.iret (v := (-2 : Int32)) hx hb hr (fun t ht hW => ⟨⟨(-2 : Int32), rf, rfl, ⟨by rw [hT, ← hM], by rw [hT, ← hM], hR_rf⟩, by rw [ht]; exact hP, va_K.moved hW.alike hK, hD⟩, hS.F ht⟩) hS.2.2 nd_Ref_task_23
      · have c_3t := cr_nlt c_3
        rw [if_neg c_3] at hM
        refine lv_iload_n hx hb nd_Ref_task_16 rfl (lv_at hl 2 rfl) ?_
        refine lv_iconst (v := 3) hx hb nd_Ref_task_17 (by decide) ?_
        refine lv_icmp_le (tgt := 24) hx hb nd_Ref_task_18 (by decide) (fun c_4 => ?_) (fun c_4 => ?_)
        · have c_4t := cr_le c_4
          rw [if_pos c_4] at hM
          refine lv_aload_n hx hb nd_Ref_task_24 rfl (lv_at hl 0 rfl) ?_
          refine va_get (D := (dC, dI)) (ci := 5) (v := .int (rf 0 0)) (C := "CeilingRowsModel") (T := nf_Ref) (N := 22) hx hb hts nin_Ref hown hK hP 0 rfl rfl 0 (by decide) (hts _ tw_413) (fun _ h9 => h9) rfl nd_Ref_task_25 ?_
          have f_5 := cr_rfo hR_rf.1
          refine lv_bipush (v := 10) hx hb nd_Ref_task_28 (by decide) ?_
          refine lv_icmp_ne (tgt := 36) hx hb nd_Ref_task_30 (by decide) (fun c_6 => ?_) (fun c_6 => ?_)
          · have c_6t := cr_ne c_6
            rw [if_neg c_6] at hM
            refine lv_aload_n hx hb nd_Ref_task_36 rfl (lv_at hl 0 rfl) ?_
            refine lv_dup hx hb nd_Ref_task_37 rfl ?_
            refine va_get (D := (dC, dI)) (ci := 5) (v := .int (rf 0 0)) (C := "CeilingRowsModel") (T := nf_Ref) (N := 22) hx hb hts nin_Ref hown hK hP 0 rfl rfl 0 (by decide) (hts _ tw_413) (fun _ h9 => h9) rfl nd_Ref_task_38 ?_
            have f_7 := cr_rfo hR_rf.1
            refine lv_iconst (v := 1) hx hb nd_Ref_task_41 (by decide) ?_
            refine lv_iadd hx hb nd_Ref_task_42 ?_
            have e_8 : ((rf 0 0) + (1 : Int32)).toInt = (rf 0 0).toInt + (1 : Int32).toInt := cr_add (by omega)
            refine va_put (D := (dC, dI)) (ci := 5) (v := .int ((rf 0 0) + (1 : Int32))) (ty := .int) (C := "CeilingRowsModel") (T := nf_Ref) (N := 22) hx hb hts nin_Ref nt_Ref nto_Ref nno_Ref hown hK hP hD hS 0 rfl rfl 0 (by decide) (hts _ tw_413) (fun _ h9 => h9) rfl (by decide +kernel) rfl rfl (Nat.le_of_ble_eq_true rfl) nd_Ref_task_43 (fun H locs hP hD hS => ?_)
            have hP : va_P (dC, dI) vwCl (cw_Ref cI cZ cJ arf (cr_up rf 0 0 ((rf 0 0) + (1 : Int32))) lat ln) H := hP
            have hD : va_D A (cw_Ref cI cZ cJ arf (cr_up rf 0 0 ((rf 0 0) + (1 : Int32))) lat ln) := hD
            have hR_9 : cr_RRef (cr_up rf 0 0 ((rf 0 0) + (1 : Int32))) := ⟨cr_rf_up hR_rf.1 (fun _ _ => by omega), cr_rf_up hR_rf.2.1 (fun _ e => absurd e (by decide)), cr_rg_up hR_rf.2.2.1 (fun e => absurd e (by decide)), cr_rg_up hR_rf.2.2.2.1 (fun e => absurd e (by decide)), cr_rg_up hR_rf.2.2.2.2.1 (fun e => absurd e (by decide)), cr_rh_up hR_rf.2.2.2.2.2 (fun e => absurd e (by decide))⟩
            obtain ⟨rfq_10, hrfq_10⟩ : ∃ z, (cr_up rf 0 0 ((rf 0 0) + (1 : Int32))) = z := ⟨_, rfl⟩
            rw [hrfq_10] at hP hD hR_9
            try rw [hrfq_10] at hM
            refine lv_aload_n hx hb nd_Ref_task_46 rfl (lv_at hl 0 rfl) ?_
            refine va_get (D := (dC, dI)) (ci := 5) (v := .ref (arf 1)) (C := "CeilingRowsModel") (T := nf_Ref) (N := 22) hx hb hts nin_Ref hown hK hP 0 rfl rfl 1 (by decide) (hts _ tw_414) (fun _ h9 => h9) rfl nd_Ref_task_47 ?_
            refine lv_aload_n hx hb nd_Ref_task_50 rfl (lv_at hl 0 rfl) ?_
            refine va_get (D := (dC, dI)) (ci := 5) (v := .int (rfq_10 0 0)) (C := "CeilingRowsModel") (T := nf_Ref) (N := 22) hx hb hts nin_Ref hown hK hP 0 rfl rfl 0 (by decide) (hts _ tw_413) (fun _ h9 => h9) rfl nd_Ref_task_51 ?_
            have f_11 := cr_rfo hR_9.1
            refine lv_iload_n hx hb nd_Ref_task_54 rfl (lv_at hl 1 rfl) ?_
            have b_12 : vp_in (rfq_10 0 0) 11 := vp_in_iff.mpr (by omega)
            refine va_iast hx hb hK hP hD hS 1 0 rfl rfl b_12 nd_Ref_task_55 (fun H locs hP hD hS => ?_)
            have hP : va_P (dC, dI) vwCl (cw_Ref cI cZ cJ arf (cr_up rfq_10 1 (rfq_10 0 0).toNatClampNeg x1) lat ln) H := hP
            have hD : va_D A (cw_Ref cI cZ cJ arf (cr_up rfq_10 1 (rfq_10 0 0).toNatClampNeg x1) lat ln) := hD
            have hR_13 : cr_RRef (cr_up rfq_10 1 (rfq_10 0 0).toNatClampNeg x1) := ⟨cr_rf_up hR_9.1 (fun e _ => absurd e (by decide)), cr_rf_up hR_9.2.1 (fun e _ => absurd e (by decide)), cr_rg_up hR_9.2.2.1 (fun e => absurd e (by decide)), cr_rg_up hR_9.2.2.2.1 (fun e => absurd e (by decide)), cr_rg_up hR_9.2.2.2.2.1 (fun e => absurd e (by decide)), cr_rh_up hR_9.2.2.2.2.2 (fun e => absurd e (by decide))⟩
            obtain ⟨rfq_14, hrfq_14⟩ : ∃ z, (cr_up rfq_10 1 (rfq_10 0 0).toNatClampNeg x1) = z := ⟨_, rfl⟩
            rw [hrfq_14] at hP hD hR_13
            try rw [hrfq_14] at hM
            refine lv_aload_n hx hb nd_Ref_task_56 rfl (lv_at hl 0 rfl) ?_
            refine va_get (D := (dC, dI)) (ci := 5) (v := .ref (arf 2)) (C := "CeilingRowsModel") (T := nf_Ref) (N := 22) hx hb hts nin_Ref hown hK hP 0 rfl rfl 2 (by decide) (hts _ tw_415) (fun _ h9 => h9) rfl nd_Ref_task_57 ?_
            refine lv_aload_n hx hb nd_Ref_task_60 rfl (lv_at hl 0 rfl) ?_
            refine va_get (D := (dC, dI)) (ci := 5) (v := .int (rfq_14 0 0)) (C := "CeilingRowsModel") (T := nf_Ref) (N := 22) hx hb hts nin_Ref hown hK hP 0 rfl rfl 0 (by decide) (hts _ tw_413) (fun _ h9 => h9) rfl nd_Ref_task_61 ?_
            have f_15 := cr_rfo hR_13.1
            refine lv_iload_n hx hb nd_Ref_task_64 rfl (lv_at hl 2 rfl) ?_
            have b_16 : vp_in (rfq_14 0 0) 11 := vp_in_iff.mpr (by omega)
            refine va_iast hx hb hK hP hD hS 2 0 rfl rfl b_16 nd_Ref_task_65 (fun H locs hP hD hS => ?_)
            have hP : va_P (dC, dI) vwCl (cw_Ref cI cZ cJ arf (cr_up rfq_14 2 (rfq_14 0 0).toNatClampNeg x2) lat ln) H := hP
            have hD : va_D A (cw_Ref cI cZ cJ arf (cr_up rfq_14 2 (rfq_14 0 0).toNatClampNeg x2) lat ln) := hD
            have hR_17 : cr_RRef (cr_up rfq_14 2 (rfq_14 0 0).toNatClampNeg x2) := ⟨cr_rf_up hR_13.1 (fun e _ => absurd e (by decide)), cr_rf_up hR_13.2.1 (fun e _ => absurd e (by decide)), cr_rg_up hR_13.2.2.1 (fun _ => by omega), cr_rg_up hR_13.2.2.2.1 (fun e => absurd e (by decide)), cr_rg_up hR_13.2.2.2.2.1 (fun e => absurd e (by decide)), cr_rh_up hR_13.2.2.2.2.2 (fun e => absurd e (by decide))⟩
            obtain ⟨rfq_18, hrfq_18⟩ : ∃ z, (cr_up rfq_14 2 (rfq_14 0 0).toNatClampNeg x2) = z := ⟨_, rfl⟩
            rw [hrfq_18] at hP hD hR_17
            try rw [hrfq_18] at hM
            refine lv_aload_n hx hb nd_Ref_task_66 rfl (lv_at hl 0 rfl) ?_
            refine va_get (D := (dC, dI)) (ci := 5) (v := .int (rfq_18 0 0)) (C := "CeilingRowsModel") (T := nf_Ref) (N := 22) hx hb hts nin_Ref hown hK hP 0 rfl rfl 0 (by decide) (hts _ tw_413) (fun _ h9 => h9) rfl nd_Ref_task_67 ?_
            have f_19 := cr_rfo hR_17.1
            exact W.iret (v := (rfq_18 0 0)) hx hb hr (fun t ht hW => ⟨⟨(rfq_18 0 0), rfq_18, rfl, ⟨by rw [hT, ← hM], by rw [hT, ← hM], hR_17⟩, by rw [ht]; exact hP, va_K.moved hW.alike hK, hD⟩, hS.F ht⟩) hS.2.2 nd_Ref_task_70
          · have c_6t := cr_eq c_6
            rw [if_pos c_6] at hM
            refine lv_bipush (v := -4) hx hb nd_Ref_task_33 (by decide) ?_
            exact W.iret (v := (-4 : Int32)) hx hb hr (fun t ht hW => ⟨⟨(-4 : Int32), rf, rfl, ⟨by rw [hT, ← hM], by rw [hT, ← hM], hR_rf⟩, by rw [ht]; exact hP, va_K.moved hW.alike hK, hD⟩, hS.F ht⟩) hS.2.2 nd_Ref_task_35
        · have c_4t := cr_nle c_4
          rw [if_neg c_4] at hM
          refine lv_bipush (v := -2) hx hb nd_Ref_task_21 (by decide) ?_
          exact W.iret (v := (-2 : Int32)) hx hb hr (fun t ht hW => ⟨⟨(-2 : Int32), rf, rfl, ⟨by rw [hT, ← hM], by rw [hT, ← hM], hR_rf⟩, by rw [ht]; exact hP, va_K.moved hW.alike hK, hD⟩, hS.F ht⟩) hS.2.2 nd_Ref_task_23

theorem nd_Ref_resource_0 : decode prog_7_method_5_code 0 = .ok (.aload_n 0, 1) := by decide +kernel
theorem nd_Ref_resource_1 : decode prog_7_method_5_code 1 = .ok (.getfield 67, 3) := by decide +kernel
theorem nd_Ref_resource_4 : decode prog_7_method_5_code 4 = .ok (.bipush 8, 2) := by decide +kernel
theorem nd_Ref_resource_6 : decode prog_7_method_5_code 6 = .ok (.if_icmp .ne (6), 3) := by decide +kernel
theorem nd_Ref_resource_9 : decode prog_7_method_5_code 9 = .ok (.bipush (-4), 2) := by decide +kernel
theorem nd_Ref_resource_11 : decode prog_7_method_5_code 11 = .ok (.ireturn, 1) := by decide +kernel
theorem nd_Ref_resource_12 : decode prog_7_method_5_code 12 = .ok (.aload_n 0, 1) := by decide +kernel
theorem nd_Ref_resource_13 : decode prog_7_method_5_code 13 = .ok (.dup, 1) := by decide +kernel
theorem nd_Ref_resource_14 : decode prog_7_method_5_code 14 = .ok (.getfield 67, 3) := by decide +kernel
theorem nd_Ref_resource_17 : decode prog_7_method_5_code 17 = .ok (.iconst 1, 1) := by decide +kernel
theorem nd_Ref_resource_18 : decode prog_7_method_5_code 18 = .ok (.iadd, 1) := by decide +kernel
theorem nd_Ref_resource_19 : decode prog_7_method_5_code 19 = .ok (.putfield 67, 3) := by decide +kernel
theorem nd_Ref_resource_22 : decode prog_7_method_5_code 22 = .ok (.aload_n 0, 1) := by decide +kernel
theorem nd_Ref_resource_23 : decode prog_7_method_5_code 23 = .ok (.getfield 67, 3) := by decide +kernel
theorem nd_Ref_resource_26 : decode prog_7_method_5_code 26 = .ok (.ireturn, 1) := by decide +kernel
abbrev pq_Ref_resource (dC : Nat → ClassId) (dI : Nat → Nat → Nat) (cI cZ cJ : ClassId) (arf : Nat → Nat) (rf : cr_S) (lat : Int64) (ln : (Nat → Int64))  (A : Nat → Prop) : Array Value → State → Outcome → State → Prop :=
  va_Qi (fun (r : Int32) (rf' : cr_S) => r = (md_Ref_resource rf lat ln).1 ∧ rf' = (md_Ref_resource rf lat ln).2 ∧ cr_RRef rf') (fun (rf' : cr_S) t => va_P (dC, dI) vwCl (cw_Ref cI cZ cJ arf rf' lat ln) t.heap ∧ va_K (dC, dI) vwCl [(cI, .int), (cZ, .boolean), (cJ, .long)] t ∧ va_D A (cw_Ref cI cZ cJ arf rf' lat ln)) A
set_option maxHeartbeats 4000000 in
set_option maxRecDepth 100000 in
theorem ct_Ref_resource (l : Launch) (dC : Nat → ClassId) (dI : Nat → Nat → Nat) (cI cZ cJ : ClassId) (arf : Nat → Nat) (sz : Nat) (rf : cr_S) (lat : Int64) (ln : (Nat → Int64))  (hR_rf : cr_RRef rf) : Met l ny_Ref_resource nw_Ref_resource ({ frames := 0, cells := 0, slots := 0, locals := 0 } : Room) (va_Pc [.ref (arf 0)] (fun U => U.heap.size = sz ∧ va_P (dC, dI) vwCl (cw_Ref cI cZ cJ arf rf lat ln) U.heap ∧ va_K (dC, dI) vwCl [(cI, .int), (cZ, .boolean), (cJ, .long)] U ∧ va_D (fun _ => True) (cw_Ref cI cZ cJ arf rf lat ln))) (pq_Ref_resource dC dI cI cZ cJ arf rf lat ln  (va_A (cw_Ref cI cZ cJ arf rf lat ln) sz)) 0 0 (va_A (cw_Ref cI cZ cJ arf rf lat ln) sz) := by
  refine Met.ofW (cc := prog_7_method_5_code) (maxL := 1) (ret := (some .int)) (by decide) rfl ?_
  intro p e s m args below meth c s₁ B hml hv
  obtain ⟨rfl, hsz, hP, hK, hD0⟩ := hv
  have hx := B.exec
  have hb := B.bytes
  have hr := B.returns
  have hts0 := atoms_spec (ws := nw_Ref_resource) B.pre
  have hts : ∀ w ∈ ng_tbl, w.before ([.ref (arf 0)] : List Value).toArray s = true := fun w h => hts0 w (List.mem_cons_of_mem _ h)
  have hown : s.vm.findClass "CeilingRowsModel" = some m.cls := findClass_of_methodNamed B.named
  have hlocks := B.notSynchronized
  subst hsz
  have hD := hD0.self (sz := s.heap.size)
  generalize hAe : va_A (cw_Ref cI cZ cJ arf rf lat ln) s.heap.size = A at hD ⊢
  have hA : ∀ q : Nat, s.heap.size ≤ q → A q := fun q h => by rw [← hAe]; exact Or.inr h
  have hS : va_S A s.heap s.heap [] := va_S.rf
  have hP : va_P (dC, dI) vwCl (cw_Ref cI cZ cJ arf rf lat ln) s.heap := hP
  have hl := lv_entry ([.ref (arf 0)]) (n := 1) (Nat.le_of_ble_eq_true rfl)
  rw [lg_entry_eq]
  generalize (lg_sl ([.ref (arf 0)]) ++ List.replicate (1 - (lg_sl ([.ref (arf 0)])).length) Slot.unset).toArray = ls at hl ⊢
  have hl : lv_has ls 1 [(0, .ref (arf 0))] := hl
  have f0_rf_0 := cr_rfo hR_rf.1
  have f0_rf_1 := cr_rfo hR_rf.2.1
  have k_m4 : (-4 : Int32).toInt = -4 := by decide
  have k_1 : (1 : Int32).toInt = 1 := by decide
  have k_8 : (8 : Int32).toInt = 8 := by decide
  obtain ⟨tgt, hT⟩ : ∃ z, md_Ref_resource rf lat ln = z := ⟨_, rfl⟩
  have hM := hT
  unfold md_Ref_resource at hM
  refine lv_aload_n hx hb nd_Ref_resource_0 rfl (lv_at hl 0 rfl) ?_
  refine va_get (D := (dC, dI)) (ci := 5) (v := .int (rf 0 2)) (C := "CeilingRowsModel") (T := nf_Ref) (N := 22) hx hb hts nin_Ref hown hK hP 0 rfl rfl 7 (by decide) (hts _ tw_420) (fun _ h9 => h9) rfl nd_Ref_resource_1 ?_
  have f_1 := cr_rfo hR_rf.2.1
  refine lv_bipush (v := 8) hx hb nd_Ref_resource_4 (by decide) ?_
  refine lv_icmp_ne (tgt := 12) hx hb nd_Ref_resource_6 (by decide) (fun c_2 => ?_) (fun c_2 => ?_)
  · have c_2t := cr_ne c_2
    rw [if_neg c_2] at hM
    refine lv_aload_n hx hb nd_Ref_resource_12 rfl (lv_at hl 0 rfl) ?_
    refine lv_dup hx hb nd_Ref_resource_13 rfl ?_
    refine va_get (D := (dC, dI)) (ci := 5) (v := .int (rf 0 2)) (C := "CeilingRowsModel") (T := nf_Ref) (N := 22) hx hb hts nin_Ref hown hK hP 0 rfl rfl 7 (by decide) (hts _ tw_420) (fun _ h9 => h9) rfl nd_Ref_resource_14 ?_
    have f_3 := cr_rfo hR_rf.2.1
    refine lv_iconst (v := 1) hx hb nd_Ref_resource_17 (by decide) ?_
    refine lv_iadd hx hb nd_Ref_resource_18 ?_
    have e_4 : ((rf 0 2) + (1 : Int32)).toInt = (rf 0 2).toInt + (1 : Int32).toInt := cr_add (by omega)
    refine va_put (D := (dC, dI)) (ci := 5) (v := .int ((rf 0 2) + (1 : Int32))) (ty := .int) (C := "CeilingRowsModel") (T := nf_Ref) (N := 22) hx hb hts nin_Ref nt_Ref nto_Ref nno_Ref hown hK hP hD hS 0 rfl rfl 7 (by decide) (hts _ tw_420) (fun _ h9 => h9) rfl (by decide +kernel) rfl rfl (Nat.le_of_ble_eq_true rfl) nd_Ref_resource_19 (fun H locs hP hD hS => ?_)
    have hP : va_P (dC, dI) vwCl (cw_Ref cI cZ cJ arf (cr_up rf 0 2 ((rf 0 2) + (1 : Int32))) lat ln) H := hP
    have hD : va_D A (cw_Ref cI cZ cJ arf (cr_up rf 0 2 ((rf 0 2) + (1 : Int32))) lat ln) := hD
    have hR_5 : cr_RRef (cr_up rf 0 2 ((rf 0 2) + (1 : Int32))) := ⟨cr_rf_up hR_rf.1 (fun _ e => absurd e (by decide)), cr_rf_up hR_rf.2.1 (fun _ _ => by omega), cr_rg_up hR_rf.2.2.1 (fun e => absurd e (by decide)), cr_rg_up hR_rf.2.2.2.1 (fun e => absurd e (by decide)), cr_rg_up hR_rf.2.2.2.2.1 (fun e => absurd e (by decide)), cr_rh_up hR_rf.2.2.2.2.2 (fun e => absurd e (by decide))⟩
    obtain ⟨rfq_6, hrfq_6⟩ : ∃ z, (cr_up rf 0 2 ((rf 0 2) + (1 : Int32))) = z := ⟨_, rfl⟩
    rw [hrfq_6] at hP hD hR_5
    try rw [hrfq_6] at hM
    refine lv_aload_n hx hb nd_Ref_resource_22 rfl (lv_at hl 0 rfl) ?_
    refine va_get (D := (dC, dI)) (ci := 5) (v := .int (rfq_6 0 2)) (C := "CeilingRowsModel") (T := nf_Ref) (N := 22) hx hb hts nin_Ref hown hK hP 0 rfl rfl 7 (by decide) (hts _ tw_420) (fun _ h9 => h9) rfl nd_Ref_resource_23 ?_
    have f_7 := cr_rfo hR_5.2.1
    exact W.iret (v := (rfq_6 0 2)) hx hb hr (fun t ht hW => ⟨⟨(rfq_6 0 2), rfq_6, rfl, ⟨by rw [hT, ← hM], by rw [hT, ← hM], hR_5⟩, by rw [ht]; exact hP, va_K.moved hW.alike hK, hD⟩, hS.F ht⟩) hS.2.2 nd_Ref_resource_26
  · have c_2t := cr_eq c_2
    rw [if_pos c_2] at hM
    refine lv_bipush (v := -4) hx hb nd_Ref_resource_9 (by decide) ?_
    exact W.iret (v := (-4 : Int32)) hx hb hr (fun t ht hW => ⟨⟨(-4 : Int32), rf, rfl, ⟨by rw [hT, ← hM], by rw [hT, ← hM], hR_rf⟩, by rw [ht]; exact hP, va_K.moved hW.alike hK, hD⟩, hS.F ht⟩) hS.2.2 nd_Ref_resource_11

theorem nd_Ref_uses_0 : decode prog_7_method_6_code 0 = .ok (.aload_n 0, 1) := by decide +kernel
theorem nd_Ref_uses_1 : decode prog_7_method_6_code 1 = .ok (.iload_n 1, 1) := by decide +kernel
theorem nd_Ref_uses_2 : decode prog_7_method_6_code 2 = .ok (.invokevirtual 70, 3) := by decide +kernel
theorem nd_Ref_uses_5 : decode prog_7_method_6_code 5 = .ok (.ifCond .eq (11), 3) := by decide +kernel
theorem nd_Ref_uses_8 : decode prog_7_method_6_code 8 = .ok (.aload_n 0, 1) := by decide +kernel
theorem nd_Ref_uses_9 : decode prog_7_method_6_code 9 = .ok (.iload_n 2, 1) := by decide +kernel
theorem nd_Ref_uses_10 : decode prog_7_method_6_code 10 = .ok (.invokevirtual 74, 3) := by decide +kernel
theorem nd_Ref_uses_13 : decode prog_7_method_6_code 13 = .ok (.ifCond .ne (5), 3) := by decide +kernel
theorem nd_Ref_uses_16 : decode prog_7_method_6_code 16 = .ok (.iconst (-1), 1) := by decide +kernel
theorem nd_Ref_uses_17 : decode prog_7_method_6_code 17 = .ok (.ireturn, 1) := by decide +kernel
theorem nd_Ref_uses_18 : decode prog_7_method_6_code 18 = .ok (.lload_n 3, 1) := by decide +kernel
theorem nd_Ref_uses_19 : decode prog_7_method_6_code 19 = .ok (.lconst 1, 1) := by decide +kernel
theorem nd_Ref_uses_20 : decode prog_7_method_6_code 20 = .ok (.lcmp, 1) := by decide +kernel
theorem nd_Ref_uses_21 : decode prog_7_method_6_code 21 = .ok (.ifCond .lt (11), 3) := by decide +kernel
theorem nd_Ref_uses_24 : decode prog_7_method_6_code 24 = .ok (.lload_n 3, 1) := by decide +kernel
theorem nd_Ref_uses_25 : decode prog_7_method_6_code 25 = .ok (.ldc2_w 77, 3) := by decide +kernel
theorem nd_Ref_uses_28 : decode prog_7_method_6_code 28 = .ok (.lcmp, 1) := by decide +kernel
theorem nd_Ref_uses_29 : decode prog_7_method_6_code 29 = .ok (.ifCond .le (6), 3) := by decide +kernel
theorem nd_Ref_uses_32 : decode prog_7_method_6_code 32 = .ok (.bipush (-2), 2) := by decide +kernel
theorem nd_Ref_uses_34 : decode prog_7_method_6_code 34 = .ok (.ireturn, 1) := by decide +kernel
theorem nd_Ref_uses_35 : decode prog_7_method_6_code 35 = .ok (.iconst 1, 1) := by decide +kernel
theorem nd_Ref_uses_36 : decode prog_7_method_6_code 36 = .ok (.istore 5, 2) := by decide +kernel
theorem nd_Ref_uses_38 : decode prog_7_method_6_code 38 = .ok (.iload 5, 2) := by decide +kernel
theorem nd_Ref_uses_40 : decode prog_7_method_6_code 40 = .ok (.aload_n 0, 1) := by decide +kernel
theorem nd_Ref_uses_41 : decode prog_7_method_6_code 41 = .ok (.getfield 63, 3) := by decide +kernel
theorem nd_Ref_uses_44 : decode prog_7_method_6_code 44 = .ok (.if_icmp .gt (74), 3) := by decide +kernel
theorem nd_Ref_uses_47 : decode prog_7_method_6_code 47 = .ok (.aload_n 0, 1) := by decide +kernel
theorem nd_Ref_uses_48 : decode prog_7_method_6_code 48 = .ok (.getfield 13, 3) := by decide +kernel
theorem nd_Ref_uses_51 : decode prog_7_method_6_code 51 = .ok (.iload 5, 2) := by decide +kernel
theorem nd_Ref_uses_53 : decode prog_7_method_6_code 53 = .ok (.iaload, 1) := by decide +kernel
theorem nd_Ref_uses_54 : decode prog_7_method_6_code 54 = .ok (.aload_n 0, 1) := by decide +kernel
theorem nd_Ref_uses_55 : decode prog_7_method_6_code 55 = .ok (.getfield 13, 3) := by decide +kernel
theorem nd_Ref_uses_58 : decode prog_7_method_6_code 58 = .ok (.iload_n 1, 1) := by decide +kernel
theorem nd_Ref_uses_59 : decode prog_7_method_6_code 59 = .ok (.iaload, 1) := by decide +kernel
theorem nd_Ref_uses_60 : decode prog_7_method_6_code 60 = .ok (.if_icmp .ne (16), 3) := by decide +kernel
theorem nd_Ref_uses_63 : decode prog_7_method_6_code 63 = .ok (.aload_n 0, 1) := by decide +kernel
theorem nd_Ref_uses_64 : decode prog_7_method_6_code 64 = .ok (.getfield 16, 3) := by decide +kernel
theorem nd_Ref_uses_67 : decode prog_7_method_6_code 67 = .ok (.iload 5, 2) := by decide +kernel
theorem nd_Ref_uses_69 : decode prog_7_method_6_code 69 = .ok (.iaload, 1) := by decide +kernel
theorem nd_Ref_uses_70 : decode prog_7_method_6_code 70 = .ok (.ifCond .eq (6), 3) := by decide +kernel
theorem nd_Ref_uses_73 : decode prog_7_method_6_code 73 = .ok (.bipush (-3), 2) := by decide +kernel
theorem nd_Ref_uses_75 : decode prog_7_method_6_code 75 = .ok (.ireturn, 1) := by decide +kernel
theorem nd_Ref_uses_76 : decode prog_7_method_6_code 76 = .ok (.aload_n 0, 1) := by decide +kernel
theorem nd_Ref_uses_77 : decode prog_7_method_6_code 77 = .ok (.getfield 13, 3) := by decide +kernel
theorem nd_Ref_uses_80 : decode prog_7_method_6_code 80 = .ok (.iload 5, 2) := by decide +kernel
theorem nd_Ref_uses_82 : decode prog_7_method_6_code 82 = .ok (.iaload, 1) := by decide +kernel
theorem nd_Ref_uses_83 : decode prog_7_method_6_code 83 = .ok (.aload_n 0, 1) := by decide +kernel
theorem nd_Ref_uses_84 : decode prog_7_method_6_code 84 = .ok (.getfield 13, 3) := by decide +kernel
theorem nd_Ref_uses_87 : decode prog_7_method_6_code 87 = .ok (.iload_n 1, 1) := by decide +kernel
theorem nd_Ref_uses_88 : decode prog_7_method_6_code 88 = .ok (.iaload, 1) := by decide +kernel
theorem nd_Ref_uses_89 : decode prog_7_method_6_code 89 = .ok (.if_icmp .eq (23), 3) := by decide +kernel
theorem nd_Ref_uses_92 : decode prog_7_method_6_code 92 = .ok (.aload_n 0, 1) := by decide +kernel
theorem nd_Ref_uses_93 : decode prog_7_method_6_code 93 = .ok (.getfield 26, 3) := by decide +kernel
theorem nd_Ref_uses_96 : decode prog_7_method_6_code 96 = .ok (.bipush 9, 2) := by decide +kernel
theorem nd_Ref_uses_98 : decode prog_7_method_6_code 98 = .ok (.iload 5, 2) := by decide +kernel
theorem nd_Ref_uses_100 : decode prog_7_method_6_code 100 = .ok (.imul, 1) := by decide +kernel
theorem nd_Ref_uses_101 : decode prog_7_method_6_code 101 = .ok (.iload_n 2, 1) := by decide +kernel
theorem nd_Ref_uses_102 : decode prog_7_method_6_code 102 = .ok (.iadd, 1) := by decide +kernel
theorem nd_Ref_uses_103 : decode prog_7_method_6_code 103 = .ok (.laload, 1) := by decide +kernel
theorem nd_Ref_uses_104 : decode prog_7_method_6_code 104 = .ok (.lconst 0, 1) := by decide +kernel
theorem nd_Ref_uses_105 : decode prog_7_method_6_code 105 = .ok (.lcmp, 1) := by decide +kernel
theorem nd_Ref_uses_106 : decode prog_7_method_6_code 106 = .ok (.ifCond .le (6), 3) := by decide +kernel
theorem nd_Ref_uses_109 : decode prog_7_method_6_code 109 = .ok (.bipush (-3), 2) := by decide +kernel
theorem nd_Ref_uses_111 : decode prog_7_method_6_code 111 = .ok (.ireturn, 1) := by decide +kernel
theorem nd_Ref_uses_112 : decode prog_7_method_6_code 112 = .ok (.iinc 5 1, 3) := by decide +kernel
theorem nd_Ref_uses_115 : decode prog_7_method_6_code 115 = .ok (.goto (-77), 3) := by decide +kernel
theorem nd_Ref_uses_118 : decode prog_7_method_6_code 118 = .ok (.aload_n 0, 1) := by decide +kernel
theorem nd_Ref_uses_119 : decode prog_7_method_6_code 119 = .ok (.getfield 26, 3) := by decide +kernel
theorem nd_Ref_uses_122 : decode prog_7_method_6_code 122 = .ok (.bipush 9, 2) := by decide +kernel
theorem nd_Ref_uses_124 : decode prog_7_method_6_code 124 = .ok (.iload_n 1, 1) := by decide +kernel
theorem nd_Ref_uses_125 : decode prog_7_method_6_code 125 = .ok (.imul, 1) := by decide +kernel
theorem nd_Ref_uses_126 : decode prog_7_method_6_code 126 = .ok (.iload_n 2, 1) := by decide +kernel
theorem nd_Ref_uses_127 : decode prog_7_method_6_code 127 = .ok (.iadd, 1) := by decide +kernel
theorem nd_Ref_uses_128 : decode prog_7_method_6_code 128 = .ok (.laload, 1) := by decide +kernel
theorem nd_Ref_uses_129 : decode prog_7_method_6_code 129 = .ok (.lconst 0, 1) := by decide +kernel
theorem nd_Ref_uses_130 : decode prog_7_method_6_code 130 = .ok (.lcmp, 1) := by decide +kernel
theorem nd_Ref_uses_131 : decode prog_7_method_6_code 131 = .ok (.ifCond .le (7), 3) := by decide +kernel
theorem nd_Ref_uses_134 : decode prog_7_method_6_code 134 = .ok (.iconst 1, 1) := by decide +kernel
theorem nd_Ref_uses_135 : decode prog_7_method_6_code 135 = .ok (.goto (4), 3) := by decide +kernel
theorem nd_Ref_uses_138 : decode prog_7_method_6_code 138 = .ok (.iconst 0, 1) := by decide +kernel
theorem nd_Ref_uses_139 : decode prog_7_method_6_code 139 = .ok (.istore 5, 2) := by decide +kernel
theorem nd_Ref_uses_141 : decode prog_7_method_6_code 141 = .ok (.aload_n 0, 1) := by decide +kernel
theorem nd_Ref_uses_142 : decode prog_7_method_6_code 142 = .ok (.getfield 26, 3) := by decide +kernel
theorem nd_Ref_uses_145 : decode prog_7_method_6_code 145 = .ok (.bipush 9, 2) := by decide +kernel
theorem nd_Ref_uses_147 : decode prog_7_method_6_code 147 = .ok (.iload_n 1, 1) := by decide +kernel
theorem nd_Ref_uses_148 : decode prog_7_method_6_code 148 = .ok (.imul, 1) := by decide +kernel
theorem nd_Ref_uses_149 : decode prog_7_method_6_code 149 = .ok (.iload_n 2, 1) := by decide +kernel
theorem nd_Ref_uses_150 : decode prog_7_method_6_code 150 = .ok (.iadd, 1) := by decide +kernel
theorem nd_Ref_uses_151 : decode prog_7_method_6_code 151 = .ok (.lload_n 3, 1) := by decide +kernel
theorem nd_Ref_uses_152 : decode prog_7_method_6_code 152 = .ok (.lastore, 1) := by decide +kernel
theorem nd_Ref_uses_153 : decode prog_7_method_6_code 153 = .ok (.iload 5, 2) := by decide +kernel
theorem nd_Ref_uses_155 : decode prog_7_method_6_code 155 = .ok (.ifCond .eq (7), 3) := by decide +kernel
theorem nd_Ref_uses_158 : decode prog_7_method_6_code 158 = .ok (.iconst 0, 1) := by decide +kernel
theorem nd_Ref_uses_159 : decode prog_7_method_6_code 159 = .ok (.goto (4), 3) := by decide +kernel
theorem nd_Ref_uses_162 : decode prog_7_method_6_code 162 = .ok (.iconst 1, 1) := by decide +kernel
theorem nd_Ref_uses_163 : decode prog_7_method_6_code 163 = .ok (.ireturn, 1) := by decide +kernel
abbrev pq_Ref_uses (dC : Nat → ClassId) (dI : Nat → Nat → Nat) (cI cZ cJ : ClassId) (arf : Nat → Nat) (rf : cr_S) (lat : Int64) (ln : (Nat → Int64)) (x1 : Int32) (x2 : Int32) (x3 : Int64) (A : Nat → Prop) : Array Value → State → Outcome → State → Prop :=
  va_Qi (fun (r : Int32) (ln' : (Nat → Int64)) => r = (md_Ref_uses rf lat ln x1 x2 x3).1 ∧ ln' = (md_Ref_uses rf lat ln x1 x2 x3).2) (fun (ln' : (Nat → Int64)) t => va_P (dC, dI) vwCl (cw_Ref cI cZ cJ arf rf lat ln') t.heap ∧ va_K (dC, dI) vwCl [(cI, .int), (cZ, .boolean), (cJ, .long)] t ∧ va_D A (cw_Ref cI cZ cJ arf rf lat ln')) A
set_option maxHeartbeats 4000000 in
set_option maxRecDepth 100000 in
theorem ct_Ref_uses (l : Launch) (dC : Nat → ClassId) (dI : Nat → Nat → Nat) (cI cZ cJ : ClassId) (arf : Nat → Nat) (sz : Nat) (rf : cr_S) (lat : Int64) (ln : (Nat → Int64)) (x1 : Int32) (x2 : Int32) (x3 : Int64) (hR_rf : cr_RRef rf) : Met l ny_Ref_uses nw_Ref_uses ({ frames := 1, cells := 0, slots := 0, locals := 21 } : Room) (va_Pc [.ref (arf 0), .int x1, .int x2, .long x3] (fun U => U.heap.size = sz ∧ va_P (dC, dI) vwCl (cw_Ref cI cZ cJ arf rf lat ln) U.heap ∧ va_K (dC, dI) vwCl [(cI, .int), (cZ, .boolean), (cJ, .long)] U ∧ va_D (fun _ => True) (cw_Ref cI cZ cJ arf rf lat ln))) (pq_Ref_uses dC dI cI cZ cJ arf rf lat ln x1 x2 x3 (va_A (cw_Ref cI cZ cJ arf rf lat ln) sz)) 0 0 (va_A (cw_Ref cI cZ cJ arf rf lat ln) sz) := by
  refine Met.ofW (cc := prog_7_method_6_code) (maxL := 6) (ret := (some .int)) (by decide) rfl ?_
  intro p e s m args below meth c s₁ B hml hv
  obtain ⟨rfl, hsz, hP, hK, hD0⟩ := hv
  have hx := B.exec
  have hb := B.bytes
  have hr := B.returns
  have hts0 := atoms_spec (ws := nw_Ref_uses) B.pre
  have hts : ∀ w ∈ ng_tbl, w.before ([.ref (arf 0), .int x1, .int x2, .long x3] : List Value).toArray s = true := fun w h => hts0 w (List.mem_cons_of_mem _ h)
  have hown : s.vm.findClass "CeilingRowsModel" = some m.cls := findClass_of_methodNamed B.named
  have hlocks := B.notSynchronized
  subst hsz
  have hD := hD0.self (sz := s.heap.size)
  generalize hAe : va_A (cw_Ref cI cZ cJ arf rf lat ln) s.heap.size = A at hD ⊢
  have hA : ∀ q : Nat, s.heap.size ≤ q → A q := fun q h => by rw [← hAe]; exact Or.inr h
  have hS : va_S A s.heap s.heap [] := va_S.rf
  have hP : va_P (dC, dI) vwCl (cw_Ref cI cZ cJ arf rf lat ln) s.heap := hP
  have hl := lv_entry ([.ref (arf 0), .int x1, .int x2, .long x3]) (n := 6) (Nat.le_of_ble_eq_true rfl)
  rw [lg_entry_eq]
  generalize (lg_sl ([.ref (arf 0), .int x1, .int x2, .long x3]) ++ List.replicate (6 - (lg_sl ([.ref (arf 0), .int x1, .int x2, .long x3])).length) Slot.unset).toArray = ls at hl ⊢
  have hl : lv_has ls 6 [(0, .ref (arf 0)), (1, .int x1), (2, .int x2), (3, .long x3)] := hl
  have f0_rf_0 := cr_rfo hR_rf.1
  have f0_rf_1 := cr_rfo hR_rf.2.1
  have k_m3 : (-3 : Int32).toInt = -3 := by decide
  have k_m2 : (-2 : Int32).toInt = -2 := by decide
  have k_m1 : (-1 : Int32).toInt = -1 := by decide
  have k_0 : (0 : Int32).toInt = 0 := by decide
  have k_1 : (1 : Int32).toInt = 1 := by decide
  have k_9 : (9 : Int32).toInt = 9 := by decide
  obtain ⟨tgt, hT⟩ : ∃ z, md_Ref_uses rf lat ln x1 x2 x3 = z := ⟨_, rfl⟩
  have hM := hT
  unfold md_Ref_uses at hM
  refine lv_aload_n hx hb nd_Ref_uses_0 rfl (lv_at hl 0 rfl) ?_
  refine lv_iload_n hx hb nd_Ref_uses_1 rfl (lv_at hl 1 rfl) ?_
  have hPc := hP
  have hDc := hD
  have hFc := va_free (wc := cw_Ref cI cZ cJ arf rf lat ln) hD hS hA [0, 1, 2, 3, 4, 5, 6, 7, 8, 9, 10, 11, 12, 13, 14, 15, 16, 17] rfl
  refine va_calli (va_runV (As := [.int x1]) (rest := []) ⟨hx, hb, hml, hown, hts⟩ (ct_Ref_isTask l dC dI cI cZ cJ arf s.heap.size rf lat ln x1 hR_rf) (cwV 1 hts (ng_V tw_493 tw_495 tp_18 tw_6 tw_496) rfl rfl rfl (by decide +kernel) ⟨Nat.le_of_ble_eq_true rfl, Nat.le_of_ble_eq_true rfl⟩) ⟨fun a U g mk q => by obtain ⟨q0, q1, qP, qK, qD⟩ := q; exact ⟨q0, q1, qP, va_K.moved (u := U) (U := U.calling g mk a) (Vm.Alike.refl U.vm) qK, qD⟩, va_recv hK hPc (ci := 5) (q0 := 0) rfl rfl, fun U hU hW => ⟨rfl, by rw [hU], by rw [hU]; exact hPc, va_K.moved hW.alike hK, hDc.weaken (fun _ _ _ _ => trivial)⟩⟩ rfl rfl hl.1 rfl (lv_room (Nat.le_of_ble_eq_true rfl)) nd_Ref_uses_2 ⟨Nat.zero_le _, Nat.zero_le _⟩) hS (fun q _ h => hFc q h) hFc (fun r_1 u t H1 locs ht hvm hw hB hz1 hk1 hS => ?_)
  obtain ⟨hP1, hK1, hD1⟩ := hB
  rw [ht] at hP1
  obtain ⟨w_2, f_3⟩ := hw
  try rw [← w_2] at hM
  have hP := hP1
  have hD := cr_Dw hD1 hFc
  generalize H1 = H at hP hS ⊢
  refine lv_if_eq (tgt := 16) hx hb nd_Ref_uses_5 (by decide) (fun c_4 => ?_) (fun c_4 => ?_)
  · have c_4t := cr_eq c_4
    rw [if_pos c_4] at hM
    refine lv_iconst (v := -1) hx hb nd_Ref_uses_16 (by decide) ?_
    exact W.iret (v := (-1 : Int32)) hx hb hr (fun t ht hW => ⟨⟨(-1 : Int32), ln, rfl, ⟨by rw [hT, ← hM], by rw [hT, ← hM]⟩, by rw [ht]; exact hP, va_K.moved hW.alike hK, hD⟩, hS.F ht⟩) hS.2.2 nd_Ref_uses_17
  · have c_4t := cr_ne c_4
    rw [if_neg c_4] at hM
    refine lv_aload_n hx hb nd_Ref_uses_8 rfl (lv_at hl 0 rfl) ?_
    refine lv_iload_n hx hb nd_Ref_uses_9 rfl (lv_at hl 2 rfl) ?_
    have hPc := hP
    have hDc := hD
    have hFc := va_free (wc := cw_Ref cI cZ cJ arf rf lat ln) hD hS hA [0, 1, 2, 3, 4, 5, 6, 7, 8, 9, 10, 11, 12, 13, 14, 15, 16, 17] rfl
    refine va_calli (va_runV (As := [.int x2]) (rest := []) ⟨hx, hb, hml, hown, hts⟩ (ct_Ref_isResource l dC dI cI cZ cJ arf H.size rf lat ln x2 hR_rf) (cwV 1 hts (ng_V tw_497 tw_499 tp_19 tw_6 tw_500) rfl rfl rfl (by decide +kernel) ⟨Nat.le_of_ble_eq_true rfl, Nat.le_of_ble_eq_true rfl⟩) ⟨fun a U g mk q => by obtain ⟨q0, q1, qP, qK, qD⟩ := q; exact ⟨q0, q1, qP, va_K.moved (u := U) (U := U.calling g mk a) (Vm.Alike.refl U.vm) qK, qD⟩, va_recv hK hPc (ci := 5) (q0 := 0) rfl rfl, fun U hU hW => ⟨rfl, by rw [hU], by rw [hU]; exact hPc, va_K.moved hW.alike hK, hDc.weaken (fun _ _ _ _ => trivial)⟩⟩ rfl rfl hl.1 rfl (lv_room (Nat.le_of_ble_eq_true rfl)) nd_Ref_uses_10 ⟨Nat.zero_le _, Nat.zero_le _⟩) hS (fun q _ h => hFc q h) hFc (fun r_5 u t H1 locs ht hvm hw hB hz1 hk1 hS => ?_)
    obtain ⟨hP1, hK1, hD1⟩ := hB
    rw [ht] at hP1
    obtain ⟨w_6, f_7⟩ := hw
    try rw [← w_6] at hM
    have hP := hP1
    have hD := cr_Dw hD1 hFc
    generalize H1 = H at hP hS ⊢
    refine lv_if_ne (tgt := 18) hx hb nd_Ref_uses_13 (by decide) (fun c_8 => ?_) (fun c_8 => ?_)
    · have c_8t := cr_ne c_8
      rw [if_neg c_8] at hM
      refine lv_lload_n hx hb nd_Ref_uses_18 rfl (lv_at hl 3 rfl) ?_
      refine lv_lconst (v := 1) hx hb nd_Ref_uses_19 (by decide) ?_
      refine W.lcmp hx hb nd_Ref_uses_20 ?_
      refine lv_if_lt (tgt := 32) hx hb nd_Ref_uses_21 (by decide) (fun c_9 => ?_) (fun c_9 => ?_)
      · have c_9t := cr_lt c_9
        rw [if_pos c_9] at hM
        refine lv_bipush (v := -2) hx hb nd_Ref_uses_32 (by decide) ?_
        exact W.iret (v := (-2 : Int32)) hx hb hr (fun t ht hW => ⟨⟨(-2 : Int32), ln, rfl, ⟨by rw [hT, ← hM], by rw [hT, ← hM]⟩, by rw [ht]; exact hP, va_K.moved hW.alike hK, hD⟩, hS.F ht⟩) hS.2.2 nd_Ref_uses_34
      · have c_9t := cr_nlt c_9
        rw [if_neg c_9] at hM
        refine lv_lload_n hx hb nd_Ref_uses_24 rfl (lv_at hl 3 rfl) ?_
        refine lv_ldc2 (v := 1000) hx hb hown (hts _ tw_501) nd_Ref_uses_25 ?_
        refine W.lcmp hx hb nd_Ref_uses_28 ?_
        refine lv_if_le (tgt := 35) hx hb nd_Ref_uses_29 (by decide) (fun c_10 => ?_) (fun c_10 => ?_)
        · have c_10t := cr_le c_10
          rw [if_pos c_10] at hM
          refine lv_iconst (v := 1) hx hb nd_Ref_uses_35 (by decide) ?_
          refine lv_istore (lv' := [(5, .int (1 : Int32)), (0, .ref (arf 0)), (1, .int x1), (2, .int x2), (3, .long x3)]) hx hb nd_Ref_uses_36 hl (by decide) rfl (fun ls hl => ?_)
          have hl := lv_sub hl [1, 2, 3, 4, 0] rfl
          have lp_38 : ∀ (n_38 : Nat) (v5_38 : Int32), (1 ≤ v5_38.toInt ∧ v5_38.toInt ≤ 11) → (11 < v5_38.toInt + (n_38 : Int)) → lo_Ref_uses_38 rf lat ln x1 x2 x3 n_38 v5_38 = tgt → ∀ (H : Heap) (locs : List Loc), va_P (dC, dI) vwCl (cw_Ref cI cZ cJ arf rf lat ln) H → va_D A (cw_Ref cI cZ cJ arf rf lat ln) → va_S A s.heap H locs → ∀ ls : Array Slot, lv_has ls 6 [(0, .ref (arf 0)), (1, .int x1), (2, .int x2), (3, .long x3), (5, .int v5_38)] → W p l e (headSpec nw_Ref_uses ({ frames := 1, cells := 0, slots := 0, locals := 21 } : Room)).room s m ([.ref (arf 0), .int x1, .int x2, .long x3] : List Value).toArray below meth c H locs 0 0 (MQ below (pq_Ref_uses dC dI cI cZ cJ arf rf lat ln x1 x2 x3 A) ([.ref (arf 0), .int x1, .int x2, .long x3] : List Value).toArray s 0 0 A) (F0 m 38 ls []) := by
            intro n_38
            induction n_38 with
            | zero =>
              intro v5_38 hv5_38 hn_38
              exfalso; omega
            | succ n_38 ih_38 =>
              intro v5_38 hv5_38 hn_38 hM H locs hP hD hS ls hl
              have hn_38 : 11 < v5_38.toInt + ((n_38 : Int) + 1) := by omega
              rw [lo_Ref_uses_38] at hM
              refine lv_iload hx hb nd_Ref_uses_38 (lv_at hl 4 rfl) ?_
              refine lv_aload_n hx hb nd_Ref_uses_40 rfl (lv_at hl 0 rfl) ?_
              refine va_get (D := (dC, dI)) (ci := 5) (v := .int (rf 0 0)) (C := "CeilingRowsModel") (T := nf_Ref) (N := 22) hx hb hts nin_Ref hown hK hP 0 rfl rfl 0 (by decide) (hts _ tw_413) (fun _ h9 => h9) rfl nd_Ref_uses_41 ?_
              have f_11 := cr_rfo hR_rf.1
              refine lv_icmp_gt (tgt := 118) hx hb nd_Ref_uses_44 (by decide) (fun c_12 => ?_) (fun c_12 => ?_)
              · have c_12t := cr_lt c_12
                rw [if_pos c_12] at hM
                refine lv_aload_n hx hb nd_Ref_uses_118 rfl (lv_at hl 0 rfl) ?_
                refine va_get (D := (dC, dI)) (ci := 5) (v := .ref (arf 6)) (C := "CeilingRowsModel") (T := nf_Ref) (N := 22) hx hb hts nin_Ref hown hK hP 0 rfl rfl 8 (by decide) (hts _ tw_421) (fun _ h9 => h9) rfl nd_Ref_uses_119 ?_
                refine lv_bipush (v := 9) hx hb nd_Ref_uses_122 (by decide) ?_
                refine lv_iload_n hx hb nd_Ref_uses_124 rfl (lv_at hl 1 rfl) ?_
                refine lv_imul hx hb nd_Ref_uses_125 ?_
                have e_13 : ((9 : Int32) * x1).toInt = 9 * x1.toInt := cr_mulL 9 k_9 (by omega)
                refine lv_iload_n hx hb nd_Ref_uses_126 rfl (lv_at hl 2 rfl) ?_
                refine lv_iadd hx hb nd_Ref_uses_127 ?_
                have e_14 : (((9 : Int32) * x1) + x2).toInt = ((9 : Int32) * x1).toInt + x2.toInt := cr_add (by omega)
                have b_15 : vp_in (((9 : Int32) * x1) + x2) 99 := vp_in_iff.mpr (by omega)
                refine va_lald hx hb hK hP 6 2 rfl rfl b_15 nd_Ref_uses_128 ?_
                refine lv_lconst (v := 0) hx hb nd_Ref_uses_129 (by decide) ?_
                refine W.lcmp hx hb nd_Ref_uses_130 ?_
                refine lv_if_le (tgt := 138) hx hb nd_Ref_uses_131 (by decide) (fun c_16 => ?_) (fun c_16 => ?_)
                · have c_16t := cr_le c_16
                  rw [if_pos c_16] at hM
                  refine lv_iconst (v := 0) hx hb nd_Ref_uses_138 (by decide) ?_
                  refine lv_istore (lv' := [(5, .int (0 : Int32)), (0, .ref (arf 0)), (1, .int x1), (2, .int x2), (3, .long x3)]) hx hb nd_Ref_uses_139 hl (by decide) rfl (fun ls hl => ?_)
                  refine lv_aload_n hx hb nd_Ref_uses_141 rfl (lv_at hl 1 rfl) ?_
                  refine va_get (D := (dC, dI)) (ci := 5) (v := .ref (arf 6)) (C := "CeilingRowsModel") (T := nf_Ref) (N := 22) hx hb hts nin_Ref hown hK hP 0 rfl rfl 8 (by decide) (hts _ tw_421) (fun _ h9 => h9) rfl nd_Ref_uses_142 ?_
                  refine lv_bipush (v := 9) hx hb nd_Ref_uses_145 (by decide) ?_
                  refine lv_iload_n hx hb nd_Ref_uses_147 rfl (lv_at hl 2 rfl) ?_
                  refine lv_imul hx hb nd_Ref_uses_148 ?_
                  have e_17 : ((9 : Int32) * x1).toInt = 9 * x1.toInt := cr_mulL 9 k_9 (by omega)
                  refine lv_iload_n hx hb nd_Ref_uses_149 rfl (lv_at hl 3 rfl) ?_
                  refine lv_iadd hx hb nd_Ref_uses_150 ?_
                  have e_18 : (((9 : Int32) * x1) + x2).toInt = ((9 : Int32) * x1).toInt + x2.toInt := cr_add (by omega)
                  refine lv_lload_n hx hb nd_Ref_uses_151 rfl (lv_at hl 4 rfl) ?_
                  have b_19 : vp_in (((9 : Int32) * x1) + x2) 99 := vp_in_iff.mpr (by omega)
                  refine va_last hx hb hK hP hD hS 6 2 rfl rfl b_19 nd_Ref_uses_152 (fun H locs hP hD hS => ?_)
                  have hP : va_P (dC, dI) vwCl (cw_Ref cI cZ cJ arf rf lat (vp_updL ln (((9 : Int32) * x1) + x2).toNatClampNeg x3)) H := hP
                  have hD : va_D A (cw_Ref cI cZ cJ arf rf lat (vp_updL ln (((9 : Int32) * x1) + x2).toNatClampNeg x3)) := hD
                  refine lv_iload hx hb nd_Ref_uses_153 (lv_at hl 0 rfl) ?_
                  refine lv_if_eq (tgt := 162) hx hb nd_Ref_uses_155 (by decide) (fun c_20 => ?_) (fun c_20 => ?_)
                  · refine lv_iconst (v := 1) hx hb nd_Ref_uses_162 (by decide) ?_
                    exact W.iret (v := (1 : Int32)) hx hb hr (fun t ht hW => ⟨⟨(1 : Int32), (vp_updL ln (((9 : Int32) * x1) + x2).toNatClampNeg x3), rfl, ⟨by rw [hT, ← hM], by rw [hT, ← hM]⟩, by rw [ht]; exact hP, va_K.moved hW.alike hK, hD⟩, hS.F ht⟩) hS.2.2 nd_Ref_uses_163
                  · exact absurd c_20 (by decide)
                · have c_16t := cr_nle c_16
                  rw [if_neg c_16] at hM
                  refine lv_iconst (v := 1) hx hb nd_Ref_uses_134 (by decide) ?_
                  refine lv_goto (tgt := 139) hx hb nd_Ref_uses_135 (by decide) ?_
                  refine lv_istore (lv' := [(5, .int (1 : Int32)), (0, .ref (arf 0)), (1, .int x1), (2, .int x2), (3, .long x3)]) hx hb nd_Ref_uses_139 hl (by decide) rfl (fun ls hl => ?_)
                  refine lv_aload_n hx hb nd_Ref_uses_141 rfl (lv_at hl 1 rfl) ?_
                  refine va_get (D := (dC, dI)) (ci := 5) (v := .ref (arf 6)) (C := "CeilingRowsModel") (T := nf_Ref) (N := 22) hx hb hts nin_Ref hown hK hP 0 rfl rfl 8 (by decide) (hts _ tw_421) (fun _ h9 => h9) rfl nd_Ref_uses_142 ?_
                  refine lv_bipush (v := 9) hx hb nd_Ref_uses_145 (by decide) ?_
                  refine lv_iload_n hx hb nd_Ref_uses_147 rfl (lv_at hl 2 rfl) ?_
                  refine lv_imul hx hb nd_Ref_uses_148 ?_
                  have e_21 : ((9 : Int32) * x1).toInt = 9 * x1.toInt := cr_mulL 9 k_9 (by omega)
                  refine lv_iload_n hx hb nd_Ref_uses_149 rfl (lv_at hl 3 rfl) ?_
                  refine lv_iadd hx hb nd_Ref_uses_150 ?_
                  have e_22 : (((9 : Int32) * x1) + x2).toInt = ((9 : Int32) * x1).toInt + x2.toInt := cr_add (by omega)
                  refine lv_lload_n hx hb nd_Ref_uses_151 rfl (lv_at hl 4 rfl) ?_
                  have b_23 : vp_in (((9 : Int32) * x1) + x2) 99 := vp_in_iff.mpr (by omega)
                  refine va_last hx hb hK hP hD hS 6 2 rfl rfl b_23 nd_Ref_uses_152 (fun H locs hP hD hS => ?_)
                  have hP : va_P (dC, dI) vwCl (cw_Ref cI cZ cJ arf rf lat (vp_updL ln (((9 : Int32) * x1) + x2).toNatClampNeg x3)) H := hP
                  have hD : va_D A (cw_Ref cI cZ cJ arf rf lat (vp_updL ln (((9 : Int32) * x1) + x2).toNatClampNeg x3)) := hD
                  refine lv_iload hx hb nd_Ref_uses_153 (lv_at hl 0 rfl) ?_
                  refine lv_if_eq (tgt := 162) hx hb nd_Ref_uses_155 (by decide) (fun c_24 => ?_) (fun c_24 => ?_)
                  · exact absurd c_24 (by decide)
                  · refine lv_iconst (v := 0) hx hb nd_Ref_uses_158 (by decide) ?_
                    refine lv_goto (tgt := 163) hx hb nd_Ref_uses_159 (by decide) ?_
                    exact W.iret (v := (0 : Int32)) hx hb hr (fun t ht hW => ⟨⟨(0 : Int32), (vp_updL ln (((9 : Int32) * x1) + x2).toNatClampNeg x3), rfl, ⟨by rw [hT, ← hM], by rw [hT, ← hM]⟩, by rw [ht]; exact hP, va_K.moved hW.alike hK, hD⟩, hS.F ht⟩) hS.2.2 nd_Ref_uses_163
              · have c_12t := cr_nlt c_12
                rw [if_neg c_12] at hM
                refine lv_aload_n hx hb nd_Ref_uses_47 rfl (lv_at hl 0 rfl) ?_
                refine va_get (D := (dC, dI)) (ci := 5) (v := .ref (arf 2)) (C := "CeilingRowsModel") (T := nf_Ref) (N := 22) hx hb hts nin_Ref hown hK hP 0 rfl rfl 2 (by decide) (hts _ tw_415) (fun _ h9 => h9) rfl nd_Ref_uses_48 ?_
                refine lv_iload hx hb nd_Ref_uses_51 (lv_at hl 4 rfl) ?_
                have b_25 : vp_in v5_38 11 := vp_in_iff.mpr (by omega)
                refine va_iald hx hb hK hP 2 0 rfl rfl b_25 nd_Ref_uses_53 ?_
                have f_26 := cr_rgo hR_rf.2.2.1 (v5_38.toNatClampNeg)
                refine lv_aload_n hx hb nd_Ref_uses_54 rfl (lv_at hl 0 rfl) ?_
                refine va_get (D := (dC, dI)) (ci := 5) (v := .ref (arf 2)) (C := "CeilingRowsModel") (T := nf_Ref) (N := 22) hx hb hts nin_Ref hown hK hP 0 rfl rfl 2 (by decide) (hts _ tw_415) (fun _ h9 => h9) rfl nd_Ref_uses_55 ?_
                refine lv_iload_n hx hb nd_Ref_uses_58 rfl (lv_at hl 1 rfl) ?_
                have b_27 : vp_in x1 11 := vp_in_iff.mpr (by omega)
                refine va_iald hx hb hK hP 2 0 rfl rfl b_27 nd_Ref_uses_59 ?_
                have f_28 := cr_rgo hR_rf.2.2.1 (x1.toNatClampNeg)
                refine lv_icmp_ne (tgt := 76) hx hb nd_Ref_uses_60 (by decide) (fun c_29 => ?_) (fun c_29 => ?_)
                · have c_29t := cr_ne c_29
                  rw [if_neg c_29] at hM
                  refine lv_aload_n hx hb nd_Ref_uses_76 rfl (lv_at hl 0 rfl) ?_
                  refine va_get (D := (dC, dI)) (ci := 5) (v := .ref (arf 2)) (C := "CeilingRowsModel") (T := nf_Ref) (N := 22) hx hb hts nin_Ref hown hK hP 0 rfl rfl 2 (by decide) (hts _ tw_415) (fun _ h9 => h9) rfl nd_Ref_uses_77 ?_
                  refine lv_iload hx hb nd_Ref_uses_80 (lv_at hl 4 rfl) ?_
                  have b_30 : vp_in v5_38 11 := vp_in_iff.mpr (by omega)
                  refine va_iald hx hb hK hP 2 0 rfl rfl b_30 nd_Ref_uses_82 ?_
                  have f_31 := cr_rgo hR_rf.2.2.1 (v5_38.toNatClampNeg)
                  refine lv_aload_n hx hb nd_Ref_uses_83 rfl (lv_at hl 0 rfl) ?_
                  refine va_get (D := (dC, dI)) (ci := 5) (v := .ref (arf 2)) (C := "CeilingRowsModel") (T := nf_Ref) (N := 22) hx hb hts nin_Ref hown hK hP 0 rfl rfl 2 (by decide) (hts _ tw_415) (fun _ h9 => h9) rfl nd_Ref_uses_84 ?_
                  refine lv_iload_n hx hb nd_Ref_uses_87 rfl (lv_at hl 1 rfl) ?_
                  have b_32 : vp_in x1 11 := vp_in_iff.mpr (by omega)
                  refine va_iald hx hb hK hP 2 0 rfl rfl b_32 nd_Ref_uses_88 ?_
                  have f_33 := cr_rgo hR_rf.2.2.1 (x1.toNatClampNeg)
                  refine lv_icmp_eq (tgt := 112) hx hb nd_Ref_uses_89 (by decide) (fun c_34 => ?_) (fun c_34 => ?_)
                  · have c_34t := cr_eq c_34
                    rw [if_pos c_34] at hM
                    have e_35 : (v5_38 + (1 : Int32)).toInt = v5_38.toInt + (1 : Int32).toInt := cr_add (by omega)
                    refine lv_iinc (v := (v5_38 + (1 : Int32))) (lv' := [(5, .int (v5_38 + (1 : Int32))), (0, .ref (arf 0)), (1, .int x1), (2, .int x2), (3, .long x3)]) hx hb nd_Ref_uses_112 hl (k := 4) rfl (by rfl) (by decide) rfl (fun ls hl => ?_)
                    refine lv_goto (tgt := 38) hx hb nd_Ref_uses_115 (by decide) ?_
                    exact ih_38 (v5_38 + (1 : Int32)) (by omega) (by omega) hM _ _ hP hD hS _ (lv_sub hl [1, 2, 3, 4, 0] rfl)
                  · have c_34t := cr_ne c_34
                    rw [if_neg c_34] at hM
                    refine lv_aload_n hx hb nd_Ref_uses_92 rfl (lv_at hl 0 rfl) ?_
                    refine va_get (D := (dC, dI)) (ci := 5) (v := .ref (arf 6)) (C := "CeilingRowsModel") (T := nf_Ref) (N := 22) hx hb hts nin_Ref hown hK hP 0 rfl rfl 8 (by decide) (hts _ tw_421) (fun _ h9 => h9) rfl nd_Ref_uses_93 ?_
                    refine lv_bipush (v := 9) hx hb nd_Ref_uses_96 (by decide) ?_
                    refine lv_iload hx hb nd_Ref_uses_98 (lv_at hl 4 rfl) ?_
                    refine lv_imul hx hb nd_Ref_uses_100 ?_
                    have e_36 : ((9 : Int32) * v5_38).toInt = 9 * v5_38.toInt := cr_mulL 9 k_9 (by omega)
                    refine lv_iload_n hx hb nd_Ref_uses_101 rfl (lv_at hl 2 rfl) ?_
                    refine lv_iadd hx hb nd_Ref_uses_102 ?_
                    have e_37 : (((9 : Int32) * v5_38) + x2).toInt = ((9 : Int32) * v5_38).toInt + x2.toInt := cr_add (by omega)
                    have b_38 : vp_in (((9 : Int32) * v5_38) + x2) 99 := vp_in_iff.mpr (by omega)
                    refine va_lald hx hb hK hP 6 2 rfl rfl b_38 nd_Ref_uses_103 ?_
                    refine lv_lconst (v := 0) hx hb nd_Ref_uses_104 (by decide) ?_
                    refine W.lcmp hx hb nd_Ref_uses_105 ?_
                    refine lv_if_le (tgt := 112) hx hb nd_Ref_uses_106 (by decide) (fun c_39 => ?_) (fun c_39 => ?_)
                    · have c_39t := cr_le c_39
                      rw [if_pos c_39] at hM
                      have e_40 : (v5_38 + (1 : Int32)).toInt = v5_38.toInt + (1 : Int32).toInt := cr_add (by omega)
                      refine lv_iinc (v := (v5_38 + (1 : Int32))) (lv' := [(5, .int (v5_38 + (1 : Int32))), (0, .ref (arf 0)), (1, .int x1), (2, .int x2), (3, .long x3)]) hx hb nd_Ref_uses_112 hl (k := 4) rfl (by rfl) (by decide) rfl (fun ls hl => ?_)
                      refine lv_goto (tgt := 38) hx hb nd_Ref_uses_115 (by decide) ?_
                      exact ih_38 (v5_38 + (1 : Int32)) (by omega) (by omega) hM _ _ hP hD hS _ (lv_sub hl [1, 2, 3, 4, 0] rfl)
                    · have c_39t := cr_nle c_39
                      rw [if_neg c_39] at hM
                      refine lv_bipush (v := -3) hx hb nd_Ref_uses_109 (by decide) ?_
                      exact W.iret (v := (-3 : Int32)) hx hb hr (fun t ht hW => ⟨⟨(-3 : Int32), ln, rfl, ⟨by rw [hT, ← hM], by rw [hT, ← hM]⟩, by rw [ht]; exact hP, va_K.moved hW.alike hK, hD⟩, hS.F ht⟩) hS.2.2 nd_Ref_uses_111
                · have c_29t := cr_eq c_29
                  rw [if_pos c_29] at hM
                  refine lv_aload_n hx hb nd_Ref_uses_63 rfl (lv_at hl 0 rfl) ?_
                  refine va_get (D := (dC, dI)) (ci := 5) (v := .ref (arf 3)) (C := "CeilingRowsModel") (T := nf_Ref) (N := 22) hx hb hts nin_Ref hown hK hP 0 rfl rfl 3 (by decide) (hts _ tw_416) (fun _ h9 => h9) rfl nd_Ref_uses_64 ?_
                  refine lv_iload hx hb nd_Ref_uses_67 (lv_at hl 4 rfl) ?_
                  have b_41 : vp_in v5_38 11 := vp_in_iff.mpr (by omega)
                  refine va_iald hx hb hK hP 3 0 rfl rfl b_41 nd_Ref_uses_69 ?_
                  refine lv_if_eq (tgt := 76) hx hb nd_Ref_uses_70 (by decide) (fun c_42 => ?_) (fun c_42 => ?_)
                  · have c_42t := cr_eq c_42
                    rw [if_pos c_42] at hM
                    refine lv_aload_n hx hb nd_Ref_uses_76 rfl (lv_at hl 0 rfl) ?_
                    refine va_get (D := (dC, dI)) (ci := 5) (v := .ref (arf 2)) (C := "CeilingRowsModel") (T := nf_Ref) (N := 22) hx hb hts nin_Ref hown hK hP 0 rfl rfl 2 (by decide) (hts _ tw_415) (fun _ h9 => h9) rfl nd_Ref_uses_77 ?_
                    refine lv_iload hx hb nd_Ref_uses_80 (lv_at hl 4 rfl) ?_
                    have b_43 : vp_in v5_38 11 := vp_in_iff.mpr (by omega)
                    refine va_iald hx hb hK hP 2 0 rfl rfl b_43 nd_Ref_uses_82 ?_
                    have f_44 := cr_rgo hR_rf.2.2.1 (v5_38.toNatClampNeg)
                    refine lv_aload_n hx hb nd_Ref_uses_83 rfl (lv_at hl 0 rfl) ?_
                    refine va_get (D := (dC, dI)) (ci := 5) (v := .ref (arf 2)) (C := "CeilingRowsModel") (T := nf_Ref) (N := 22) hx hb hts nin_Ref hown hK hP 0 rfl rfl 2 (by decide) (hts _ tw_415) (fun _ h9 => h9) rfl nd_Ref_uses_84 ?_
                    refine lv_iload_n hx hb nd_Ref_uses_87 rfl (lv_at hl 1 rfl) ?_
                    have b_45 : vp_in x1 11 := vp_in_iff.mpr (by omega)
                    refine va_iald hx hb hK hP 2 0 rfl rfl b_45 nd_Ref_uses_88 ?_
                    have f_46 := cr_rgo hR_rf.2.2.1 (x1.toNatClampNeg)
                    refine lv_icmp_eq (tgt := 112) hx hb nd_Ref_uses_89 (by decide) (fun c_47 => ?_) (fun c_47 => ?_)
                    · have c_47t := cr_eq c_47
                      rw [if_pos c_47] at hM
                      have e_48 : (v5_38 + (1 : Int32)).toInt = v5_38.toInt + (1 : Int32).toInt := cr_add (by omega)
                      refine lv_iinc (v := (v5_38 + (1 : Int32))) (lv' := [(5, .int (v5_38 + (1 : Int32))), (0, .ref (arf 0)), (1, .int x1), (2, .int x2), (3, .long x3)]) hx hb nd_Ref_uses_112 hl (k := 4) rfl (by rfl) (by decide) rfl (fun ls hl => ?_)
                      refine lv_goto (tgt := 38) hx hb nd_Ref_uses_115 (by decide) ?_
                      exact ih_38 (v5_38 + (1 : Int32)) (by omega) (by omega) hM _ _ hP hD hS _ (lv_sub hl [1, 2, 3, 4, 0] rfl)
                    · have c_47t := cr_ne c_47
                      rw [if_neg c_47] at hM
                      refine lv_aload_n hx hb nd_Ref_uses_92 rfl (lv_at hl 0 rfl) ?_
                      refine va_get (D := (dC, dI)) (ci := 5) (v := .ref (arf 6)) (C := "CeilingRowsModel") (T := nf_Ref) (N := 22) hx hb hts nin_Ref hown hK hP 0 rfl rfl 8 (by decide) (hts _ tw_421) (fun _ h9 => h9) rfl nd_Ref_uses_93 ?_
                      refine lv_bipush (v := 9) hx hb nd_Ref_uses_96 (by decide) ?_
                      refine lv_iload hx hb nd_Ref_uses_98 (lv_at hl 4 rfl) ?_
                      refine lv_imul hx hb nd_Ref_uses_100 ?_
                      have e_49 : ((9 : Int32) * v5_38).toInt = 9 * v5_38.toInt := cr_mulL 9 k_9 (by omega)
                      refine lv_iload_n hx hb nd_Ref_uses_101 rfl (lv_at hl 2 rfl) ?_
                      refine lv_iadd hx hb nd_Ref_uses_102 ?_
                      have e_50 : (((9 : Int32) * v5_38) + x2).toInt = ((9 : Int32) * v5_38).toInt + x2.toInt := cr_add (by omega)
                      have b_51 : vp_in (((9 : Int32) * v5_38) + x2) 99 := vp_in_iff.mpr (by omega)
                      refine va_lald hx hb hK hP 6 2 rfl rfl b_51 nd_Ref_uses_103 ?_
                      refine lv_lconst (v := 0) hx hb nd_Ref_uses_104 (by decide) ?_
                      refine W.lcmp hx hb nd_Ref_uses_105 ?_
                      refine lv_if_le (tgt := 112) hx hb nd_Ref_uses_106 (by decide) (fun c_52 => ?_) (fun c_52 => ?_)
                      · have c_52t := cr_le c_52
                        rw [if_pos c_52] at hM
                        have e_53 : (v5_38 + (1 : Int32)).toInt = v5_38.toInt + (1 : Int32).toInt := cr_add (by omega)
                        refine lv_iinc (v := (v5_38 + (1 : Int32))) (lv' := [(5, .int (v5_38 + (1 : Int32))), (0, .ref (arf 0)), (1, .int x1), (2, .int x2), (3, .long x3)]) hx hb nd_Ref_uses_112 hl (k := 4) rfl (by rfl) (by decide) rfl (fun ls hl => ?_)
                        refine lv_goto (tgt := 38) hx hb nd_Ref_uses_115 (by decide) ?_
                        exact ih_38 (v5_38 + (1 : Int32)) (by omega) (by omega) hM _ _ hP hD hS _ (lv_sub hl [1, 2, 3, 4, 0] rfl)
                      · have c_52t := cr_nle c_52
                        rw [if_neg c_52] at hM
                        refine lv_bipush (v := -3) hx hb nd_Ref_uses_109 (by decide) ?_
                        exact W.iret (v := (-3 : Int32)) hx hb hr (fun t ht hW => ⟨⟨(-3 : Int32), ln, rfl, ⟨by rw [hT, ← hM], by rw [hT, ← hM]⟩, by rw [ht]; exact hP, va_K.moved hW.alike hK, hD⟩, hS.F ht⟩) hS.2.2 nd_Ref_uses_111
                  · have c_42t := cr_ne c_42
                    rw [if_neg c_42] at hM
                    refine lv_bipush (v := -3) hx hb nd_Ref_uses_73 (by decide) ?_
                    exact W.iret (v := (-3 : Int32)) hx hb hr (fun t ht hW => ⟨⟨(-3 : Int32), ln, rfl, ⟨by rw [hT, ← hM], by rw [hT, ← hM]⟩, by rw [ht]; exact hP, va_K.moved hW.alike hK, hD⟩, hS.F ht⟩) hS.2.2 nd_Ref_uses_75
          exact lp_38 11 (1 : Int32) (by omega) (by omega) hM _ _ hP hD hS _ hl
        · have c_10t := cr_nle c_10
          rw [if_neg c_10] at hM
          refine lv_bipush (v := -2) hx hb nd_Ref_uses_32 (by decide) ?_
          exact W.iret (v := (-2 : Int32)) hx hb hr (fun t ht hW => ⟨⟨(-2 : Int32), ln, rfl, ⟨by rw [hT, ← hM], by rw [hT, ← hM]⟩, by rw [ht]; exact hP, va_K.moved hW.alike hK, hD⟩, hS.F ht⟩) hS.2.2 nd_Ref_uses_34
    · have c_8t := cr_eq c_8
      rw [if_pos c_8] at hM
      refine lv_iconst (v := -1) hx hb nd_Ref_uses_16 (by decide) ?_
      exact W.iret (v := (-1 : Int32)) hx hb hr (fun t ht hW => ⟨⟨(-1 : Int32), ln, rfl, ⟨by rw [hT, ← hM], by rw [hT, ← hM]⟩, by rw [ht]; exact hP, va_K.moved hW.alike hK, hD⟩, hS.F ht⟩) hS.2.2 nd_Ref_uses_17

theorem nd_Ref_ceilingOf_0 : decode prog_7_method_7_code 0 = .ok (.iconst 0, 1) := by decide +kernel
theorem nd_Ref_ceilingOf_1 : decode prog_7_method_7_code 1 = .ok (.istore_n 2, 1) := by decide +kernel
theorem nd_Ref_ceilingOf_2 : decode prog_7_method_7_code 2 = .ok (.iconst 1, 1) := by decide +kernel
theorem nd_Ref_ceilingOf_3 : decode prog_7_method_7_code 3 = .ok (.istore_n 3, 1) := by decide +kernel
theorem nd_Ref_ceilingOf_4 : decode prog_7_method_7_code 4 = .ok (.iload_n 3, 1) := by decide +kernel
theorem nd_Ref_ceilingOf_5 : decode prog_7_method_7_code 5 = .ok (.aload_n 0, 1) := by decide +kernel
theorem nd_Ref_ceilingOf_6 : decode prog_7_method_7_code 6 = .ok (.getfield 63, 3) := by decide +kernel
theorem nd_Ref_ceilingOf_9 : decode prog_7_method_7_code 9 = .ok (.if_icmp .gt (46), 3) := by decide +kernel
theorem nd_Ref_ceilingOf_12 : decode prog_7_method_7_code 12 = .ok (.aload_n 0, 1) := by decide +kernel
theorem nd_Ref_ceilingOf_13 : decode prog_7_method_7_code 13 = .ok (.getfield 26, 3) := by decide +kernel
theorem nd_Ref_ceilingOf_16 : decode prog_7_method_7_code 16 = .ok (.bipush 9, 2) := by decide +kernel
theorem nd_Ref_ceilingOf_18 : decode prog_7_method_7_code 18 = .ok (.iload_n 3, 1) := by decide +kernel
theorem nd_Ref_ceilingOf_19 : decode prog_7_method_7_code 19 = .ok (.imul, 1) := by decide +kernel
theorem nd_Ref_ceilingOf_20 : decode prog_7_method_7_code 20 = .ok (.iload_n 1, 1) := by decide +kernel
theorem nd_Ref_ceilingOf_21 : decode prog_7_method_7_code 21 = .ok (.iadd, 1) := by decide +kernel
theorem nd_Ref_ceilingOf_22 : decode prog_7_method_7_code 22 = .ok (.laload, 1) := by decide +kernel
theorem nd_Ref_ceilingOf_23 : decode prog_7_method_7_code 23 = .ok (.lconst 0, 1) := by decide +kernel
theorem nd_Ref_ceilingOf_24 : decode prog_7_method_7_code 24 = .ok (.lcmp, 1) := by decide +kernel
theorem nd_Ref_ceilingOf_25 : decode prog_7_method_7_code 25 = .ok (.ifCond .le (22), 3) := by decide +kernel
theorem nd_Ref_ceilingOf_28 : decode prog_7_method_7_code 28 = .ok (.aload_n 0, 1) := by decide +kernel
theorem nd_Ref_ceilingOf_29 : decode prog_7_method_7_code 29 = .ok (.getfield 7, 3) := by decide +kernel
theorem nd_Ref_ceilingOf_32 : decode prog_7_method_7_code 32 = .ok (.iload_n 3, 1) := by decide +kernel
theorem nd_Ref_ceilingOf_33 : decode prog_7_method_7_code 33 = .ok (.iaload, 1) := by decide +kernel
theorem nd_Ref_ceilingOf_34 : decode prog_7_method_7_code 34 = .ok (.iload_n 2, 1) := by decide +kernel
theorem nd_Ref_ceilingOf_35 : decode prog_7_method_7_code 35 = .ok (.if_icmp .le (12), 3) := by decide +kernel
theorem nd_Ref_ceilingOf_38 : decode prog_7_method_7_code 38 = .ok (.aload_n 0, 1) := by decide +kernel
theorem nd_Ref_ceilingOf_39 : decode prog_7_method_7_code 39 = .ok (.getfield 7, 3) := by decide +kernel
theorem nd_Ref_ceilingOf_42 : decode prog_7_method_7_code 42 = .ok (.iload_n 3, 1) := by decide +kernel
theorem nd_Ref_ceilingOf_43 : decode prog_7_method_7_code 43 = .ok (.iaload, 1) := by decide +kernel
theorem nd_Ref_ceilingOf_44 : decode prog_7_method_7_code 44 = .ok (.goto (4), 3) := by decide +kernel
theorem nd_Ref_ceilingOf_47 : decode prog_7_method_7_code 47 = .ok (.iload_n 2, 1) := by decide +kernel
theorem nd_Ref_ceilingOf_48 : decode prog_7_method_7_code 48 = .ok (.istore_n 2, 1) := by decide +kernel
theorem nd_Ref_ceilingOf_49 : decode prog_7_method_7_code 49 = .ok (.iinc 3 1, 3) := by decide +kernel
theorem nd_Ref_ceilingOf_52 : decode prog_7_method_7_code 52 = .ok (.goto (-48), 3) := by decide +kernel
theorem nd_Ref_ceilingOf_55 : decode prog_7_method_7_code 55 = .ok (.iload_n 2, 1) := by decide +kernel
theorem nd_Ref_ceilingOf_56 : decode prog_7_method_7_code 56 = .ok (.ireturn, 1) := by decide +kernel
abbrev pq_Ref_ceilingOf (dC : Nat → ClassId) (dI : Nat → Nat → Nat) (cI cZ cJ : ClassId) (arf : Nat → Nat) (rf : cr_S) (lat : Int64) (ln : (Nat → Int64)) (x1 : Int32) (A : Nat → Prop) : Array Value → State → Outcome → State → Prop :=
  va_Qi (fun (r : Int32) (_ : Unit) => r = md_Ref_ceilingOf rf lat ln x1) (fun (_ : Unit) t => va_P (dC, dI) vwCl (cw_Ref cI cZ cJ arf rf lat ln) t.heap ∧ va_K (dC, dI) vwCl [(cI, .int), (cZ, .boolean), (cJ, .long)] t ∧ va_D A (cw_Ref cI cZ cJ arf rf lat ln)) A
set_option maxHeartbeats 4000000 in
set_option maxRecDepth 100000 in
theorem ct_Ref_ceilingOf (l : Launch) (dC : Nat → ClassId) (dI : Nat → Nat → Nat) (cI cZ cJ : ClassId) (arf : Nat → Nat) (sz : Nat) (rf : cr_S) (lat : Int64) (ln : (Nat → Int64)) (x1 : Int32) (hR_rf : cr_RRef rf) (hx1 : 0 ≤ x1.toInt ∧ x1.toInt ≤ 8) : Met l ny_Ref_ceilingOf nw_Ref_ceilingOf ({ frames := 0, cells := 0, slots := 0, locals := 0 } : Room) (va_Pc [.ref (arf 0), .int x1] (fun U => U.heap.size = sz ∧ va_P (dC, dI) vwCl (cw_Ref cI cZ cJ arf rf lat ln) U.heap ∧ va_K (dC, dI) vwCl [(cI, .int), (cZ, .boolean), (cJ, .long)] U ∧ va_D (fun _ => True) (cw_Ref cI cZ cJ arf rf lat ln))) (pq_Ref_ceilingOf dC dI cI cZ cJ arf rf lat ln x1 (va_A (cw_Ref cI cZ cJ arf rf lat ln) sz)) 0 0 (va_A (cw_Ref cI cZ cJ arf rf lat ln) sz) := by
  refine Met.ofW (cc := prog_7_method_7_code) (maxL := 4) (ret := (some .int)) (by decide) rfl ?_
  intro p e s m args below meth c s₁ B hml hv
  obtain ⟨rfl, hsz, hP, hK, hD0⟩ := hv
  have hx := B.exec
  have hb := B.bytes
  have hr := B.returns
  have hts0 := atoms_spec (ws := nw_Ref_ceilingOf) B.pre
  have hts : ∀ w ∈ ng_tbl, w.before ([.ref (arf 0), .int x1] : List Value).toArray s = true := fun w h => hts0 w (List.mem_cons_of_mem _ h)
  have hown : s.vm.findClass "CeilingRowsModel" = some m.cls := findClass_of_methodNamed B.named
  have hlocks := B.notSynchronized
  subst hsz
  have hD := hD0.self (sz := s.heap.size)
  generalize hAe : va_A (cw_Ref cI cZ cJ arf rf lat ln) s.heap.size = A at hD ⊢
  have hA : ∀ q : Nat, s.heap.size ≤ q → A q := fun q h => by rw [← hAe]; exact Or.inr h
  have hS : va_S A s.heap s.heap [] := va_S.rf
  have hP : va_P (dC, dI) vwCl (cw_Ref cI cZ cJ arf rf lat ln) s.heap := hP
  have hl := lv_entry ([.ref (arf 0), .int x1]) (n := 4) (Nat.le_of_ble_eq_true rfl)
  rw [lg_entry_eq]
  generalize (lg_sl ([.ref (arf 0), .int x1]) ++ List.replicate (4 - (lg_sl ([.ref (arf 0), .int x1])).length) Slot.unset).toArray = ls at hl ⊢
  have hl : lv_has ls 4 [(0, .ref (arf 0)), (1, .int x1)] := hl
  have f0_rf_0 := cr_rfo hR_rf.1
  have f0_rf_1 := cr_rfo hR_rf.2.1
  have k_0 : (0 : Int32).toInt = 0 := by decide
  have k_1 : (1 : Int32).toInt = 1 := by decide
  have k_9 : (9 : Int32).toInt = 9 := by decide
  obtain ⟨tgt, hT⟩ : ∃ z, md_Ref_ceilingOf rf lat ln x1 = z := ⟨_, rfl⟩
  have hM := hT
  unfold md_Ref_ceilingOf at hM
  refine lv_iconst (v := 0) hx hb nd_Ref_ceilingOf_0 (by decide) ?_
  refine lv_istore_n (lv' := [(2, .int (0 : Int32)), (0, .ref (arf 0)), (1, .int x1)]) hx hb nd_Ref_ceilingOf_1 rfl hl (by decide) rfl (fun ls hl => ?_)
  refine lv_iconst (v := 1) hx hb nd_Ref_ceilingOf_2 (by decide) ?_
  refine lv_istore_n (lv' := [(3, .int (1 : Int32)), (2, .int (0 : Int32)), (0, .ref (arf 0)), (1, .int x1)]) hx hb nd_Ref_ceilingOf_3 rfl hl (by decide) rfl (fun ls hl => ?_)
  have hl := lv_sub hl [2, 3, 1, 0] rfl
  have lp_4 : ∀ (n_4 : Nat) (v2_4 : Int32) (v3_4 : Int32), (1 ≤ v3_4.toInt ∧ v3_4.toInt ≤ 11) → (11 < v3_4.toInt + (n_4 : Int)) → lo_Ref_ceilingOf_4 rf lat ln x1 n_4 v2_4 v3_4 = tgt → ∀ (H : Heap) (locs : List Loc), va_P (dC, dI) vwCl (cw_Ref cI cZ cJ arf rf lat ln) H → va_D A (cw_Ref cI cZ cJ arf rf lat ln) → va_S A s.heap H locs → ∀ ls : Array Slot, lv_has ls 4 [(0, .ref (arf 0)), (1, .int x1), (2, .int v2_4), (3, .int v3_4)] → W p l e (headSpec nw_Ref_ceilingOf ({ frames := 0, cells := 0, slots := 0, locals := 0 } : Room)).room s m ([.ref (arf 0), .int x1] : List Value).toArray below meth c H locs 0 0 (MQ below (pq_Ref_ceilingOf dC dI cI cZ cJ arf rf lat ln x1 A) ([.ref (arf 0), .int x1] : List Value).toArray s 0 0 A) (F0 m 4 ls []) := by
    intro n_4
    induction n_4 with
    | zero =>
      intro v2_4 v3_4 hv3_4 hn_4
      exfalso; omega
    | succ n_4 ih_4 =>
      intro v2_4 v3_4 hv3_4 hn_4 hM H locs hP hD hS ls hl
      have hn_4 : 11 < v3_4.toInt + ((n_4 : Int) + 1) := by omega
      rw [lo_Ref_ceilingOf_4] at hM
      refine lv_iload_n hx hb nd_Ref_ceilingOf_4 rfl (lv_at hl 3 rfl) ?_
      refine lv_aload_n hx hb nd_Ref_ceilingOf_5 rfl (lv_at hl 0 rfl) ?_
      refine va_get (D := (dC, dI)) (ci := 5) (v := .int (rf 0 0)) (C := "CeilingRowsModel") (T := nf_Ref) (N := 22) hx hb hts nin_Ref hown hK hP 0 rfl rfl 0 (by decide) (hts _ tw_413) (fun _ h9 => h9) rfl nd_Ref_ceilingOf_6 ?_
      have f_1 := cr_rfo hR_rf.1
      refine lv_icmp_gt (tgt := 55) hx hb nd_Ref_ceilingOf_9 (by decide) (fun c_2 => ?_) (fun c_2 => ?_)
      · have c_2t := cr_lt c_2
        rw [if_pos c_2] at hM
        refine lv_iload_n hx hb nd_Ref_ceilingOf_55 rfl (lv_at hl 2 rfl) ?_
        exact W.iret (v := v2_4) hx hb hr (fun t ht hW => ⟨⟨v2_4, (), rfl, by rw [hT, ← hM], by rw [ht]; exact hP, va_K.moved hW.alike hK, hD⟩, hS.F ht⟩) hS.2.2 nd_Ref_ceilingOf_56
      · have c_2t := cr_nlt c_2
        rw [if_neg c_2] at hM
        refine lv_aload_n hx hb nd_Ref_ceilingOf_12 rfl (lv_at hl 0 rfl) ?_
        refine va_get (D := (dC, dI)) (ci := 5) (v := .ref (arf 6)) (C := "CeilingRowsModel") (T := nf_Ref) (N := 22) hx hb hts nin_Ref hown hK hP 0 rfl rfl 8 (by decide) (hts _ tw_421) (fun _ h9 => h9) rfl nd_Ref_ceilingOf_13 ?_
        refine lv_bipush (v := 9) hx hb nd_Ref_ceilingOf_16 (by decide) ?_
        refine lv_iload_n hx hb nd_Ref_ceilingOf_18 rfl (lv_at hl 3 rfl) ?_
        refine lv_imul hx hb nd_Ref_ceilingOf_19 ?_
        have e_3 : ((9 : Int32) * v3_4).toInt = 9 * v3_4.toInt := cr_mulL 9 k_9 (by omega)
        refine lv_iload_n hx hb nd_Ref_ceilingOf_20 rfl (lv_at hl 1 rfl) ?_
        refine lv_iadd hx hb nd_Ref_ceilingOf_21 ?_
        have e_4 : (((9 : Int32) * v3_4) + x1).toInt = ((9 : Int32) * v3_4).toInt + x1.toInt := cr_add (by omega)
        have b_5 : vp_in (((9 : Int32) * v3_4) + x1) 99 := vp_in_iff.mpr (by omega)
        refine va_lald hx hb hK hP 6 2 rfl rfl b_5 nd_Ref_ceilingOf_22 ?_
        refine lv_lconst (v := 0) hx hb nd_Ref_ceilingOf_23 (by decide) ?_
        refine W.lcmp hx hb nd_Ref_ceilingOf_24 ?_
        refine lv_if_le (tgt := 47) hx hb nd_Ref_ceilingOf_25 (by decide) (fun c_6 => ?_) (fun c_6 => ?_)
        · have c_6t := cr_le c_6
          rw [if_pos c_6] at hM
          refine lv_iload_n hx hb nd_Ref_ceilingOf_47 rfl (lv_at hl 2 rfl) ?_
          refine lv_istore_n (lv' := [(2, .int v2_4), (0, .ref (arf 0)), (1, .int x1), (3, .int v3_4)]) hx hb nd_Ref_ceilingOf_48 rfl hl (by decide) rfl (fun ls hl => ?_)
          have e_7 : (v3_4 + (1 : Int32)).toInt = v3_4.toInt + (1 : Int32).toInt := cr_add (by omega)
          refine lv_iinc (v := (v3_4 + (1 : Int32))) (lv' := [(3, .int (v3_4 + (1 : Int32))), (2, .int v2_4), (0, .ref (arf 0)), (1, .int x1)]) hx hb nd_Ref_ceilingOf_49 hl (k := 3) rfl (by rfl) (by decide) rfl (fun ls hl => ?_)
          refine lv_goto (tgt := 4) hx hb nd_Ref_ceilingOf_52 (by decide) ?_
          exact ih_4 v2_4 (v3_4 + (1 : Int32)) (by omega) (by omega) hM _ _ hP hD hS _ (lv_sub hl [2, 3, 1, 0] rfl)
        · have c_6t := cr_nle c_6
          rw [if_neg c_6] at hM
          refine lv_aload_n hx hb nd_Ref_ceilingOf_28 rfl (lv_at hl 0 rfl) ?_
          refine va_get (D := (dC, dI)) (ci := 5) (v := .ref (arf 1)) (C := "CeilingRowsModel") (T := nf_Ref) (N := 22) hx hb hts nin_Ref hown hK hP 0 rfl rfl 1 (by decide) (hts _ tw_414) (fun _ h9 => h9) rfl nd_Ref_ceilingOf_29 ?_
          refine lv_iload_n hx hb nd_Ref_ceilingOf_32 rfl (lv_at hl 3 rfl) ?_
          have b_8 : vp_in v3_4 11 := vp_in_iff.mpr (by omega)
          refine va_iald hx hb hK hP 1 0 rfl rfl b_8 nd_Ref_ceilingOf_33 ?_
          refine lv_iload_n hx hb nd_Ref_ceilingOf_34 rfl (lv_at hl 2 rfl) ?_
          refine lv_icmp_le (tgt := 47) hx hb nd_Ref_ceilingOf_35 (by decide) (fun c_9 => ?_) (fun c_9 => ?_)
          · have c_9t := cr_le c_9
            rw [if_pos c_9] at hM
            refine lv_iload_n hx hb nd_Ref_ceilingOf_47 rfl (lv_at hl 2 rfl) ?_
            refine lv_istore_n (lv' := [(2, .int v2_4), (0, .ref (arf 0)), (1, .int x1), (3, .int v3_4)]) hx hb nd_Ref_ceilingOf_48 rfl hl (by decide) rfl (fun ls hl => ?_)
            have e_10 : (v3_4 + (1 : Int32)).toInt = v3_4.toInt + (1 : Int32).toInt := cr_add (by omega)
            refine lv_iinc (v := (v3_4 + (1 : Int32))) (lv' := [(3, .int (v3_4 + (1 : Int32))), (2, .int v2_4), (0, .ref (arf 0)), (1, .int x1)]) hx hb nd_Ref_ceilingOf_49 hl (k := 3) rfl (by rfl) (by decide) rfl (fun ls hl => ?_)
            refine lv_goto (tgt := 4) hx hb nd_Ref_ceilingOf_52 (by decide) ?_
            exact ih_4 v2_4 (v3_4 + (1 : Int32)) (by omega) (by omega) hM _ _ hP hD hS _ (lv_sub hl [2, 3, 1, 0] rfl)
          · have c_9t := cr_nle c_9
            rw [if_neg c_9] at hM
            refine lv_aload_n hx hb nd_Ref_ceilingOf_38 rfl (lv_at hl 0 rfl) ?_
            refine va_get (D := (dC, dI)) (ci := 5) (v := .ref (arf 1)) (C := "CeilingRowsModel") (T := nf_Ref) (N := 22) hx hb hts nin_Ref hown hK hP 0 rfl rfl 1 (by decide) (hts _ tw_414) (fun _ h9 => h9) rfl nd_Ref_ceilingOf_39 ?_
            refine lv_iload_n hx hb nd_Ref_ceilingOf_42 rfl (lv_at hl 3 rfl) ?_
            have b_11 : vp_in v3_4 11 := vp_in_iff.mpr (by omega)
            refine va_iald hx hb hK hP 1 0 rfl rfl b_11 nd_Ref_ceilingOf_43 ?_
            refine lv_goto (tgt := 48) hx hb nd_Ref_ceilingOf_44 (by decide) ?_
            refine lv_istore_n (lv' := [(2, .int (rf 1 v3_4.toNatClampNeg)), (0, .ref (arf 0)), (1, .int x1), (3, .int v3_4)]) hx hb nd_Ref_ceilingOf_48 rfl hl (by decide) rfl (fun ls hl => ?_)
            have e_12 : (v3_4 + (1 : Int32)).toInt = v3_4.toInt + (1 : Int32).toInt := cr_add (by omega)
            refine lv_iinc (v := (v3_4 + (1 : Int32))) (lv' := [(3, .int (v3_4 + (1 : Int32))), (2, .int (rf 1 v3_4.toNatClampNeg)), (0, .ref (arf 0)), (1, .int x1)]) hx hb nd_Ref_ceilingOf_49 hl (k := 3) rfl (by rfl) (by decide) rfl (fun ls hl => ?_)
            refine lv_goto (tgt := 4) hx hb nd_Ref_ceilingOf_52 (by decide) ?_
            exact ih_4 (rf 1 v3_4.toNatClampNeg) (v3_4 + (1 : Int32)) (by omega) (by omega) hM _ _ hP hD hS _ (lv_sub hl [2, 3, 1, 0] rfl)
  exact lp_4 11 (0 : Int32) (1 : Int32) (by omega) (by omega) hM _ _ hP hD hS _ hl

theorem nd_Ref_ceiling_0 : decode prog_7_method_8_code 0 = .ok (.aload_n 0, 1) := by decide +kernel
theorem nd_Ref_ceiling_1 : decode prog_7_method_8_code 1 = .ok (.iload_n 1, 1) := by decide +kernel
theorem nd_Ref_ceiling_2 : decode prog_7_method_8_code 2 = .ok (.invokevirtual 74, 3) := by decide +kernel
theorem nd_Ref_ceiling_5 : decode prog_7_method_8_code 5 = .ok (.ifCond .eq (11), 3) := by decide +kernel
theorem nd_Ref_ceiling_8 : decode prog_7_method_8_code 8 = .ok (.aload_n 0, 1) := by decide +kernel
theorem nd_Ref_ceiling_9 : decode prog_7_method_8_code 9 = .ok (.iload_n 1, 1) := by decide +kernel
theorem nd_Ref_ceiling_10 : decode prog_7_method_8_code 10 = .ok (.invokevirtual 79, 3) := by decide +kernel
theorem nd_Ref_ceiling_13 : decode prog_7_method_8_code 13 = .ok (.goto (4), 3) := by decide +kernel
theorem nd_Ref_ceiling_16 : decode prog_7_method_8_code 16 = .ok (.iconst (-1), 1) := by decide +kernel
theorem nd_Ref_ceiling_17 : decode prog_7_method_8_code 17 = .ok (.ireturn, 1) := by decide +kernel
abbrev pq_Ref_ceiling (dC : Nat → ClassId) (dI : Nat → Nat → Nat) (cI cZ cJ : ClassId) (arf : Nat → Nat) (rf : cr_S) (lat : Int64) (ln : (Nat → Int64)) (x1 : Int32) (A : Nat → Prop) : Array Value → State → Outcome → State → Prop :=
  va_Qi (fun (r : Int32) (_ : Unit) => r = md_Ref_ceiling rf lat ln x1) (fun (_ : Unit) t => va_P (dC, dI) vwCl (cw_Ref cI cZ cJ arf rf lat ln) t.heap ∧ va_K (dC, dI) vwCl [(cI, .int), (cZ, .boolean), (cJ, .long)] t ∧ va_D A (cw_Ref cI cZ cJ arf rf lat ln)) A
set_option maxHeartbeats 4000000 in
set_option maxRecDepth 100000 in
theorem ct_Ref_ceiling (l : Launch) (dC : Nat → ClassId) (dI : Nat → Nat → Nat) (cI cZ cJ : ClassId) (arf : Nat → Nat) (sz : Nat) (rf : cr_S) (lat : Int64) (ln : (Nat → Int64)) (x1 : Int32) (hR_rf : cr_RRef rf) : Met l ny_Ref_ceiling nw_Ref_ceiling ({ frames := 1, cells := 0, slots := 0, locals := 23 } : Room) (va_Pc [.ref (arf 0), .int x1] (fun U => U.heap.size = sz ∧ va_P (dC, dI) vwCl (cw_Ref cI cZ cJ arf rf lat ln) U.heap ∧ va_K (dC, dI) vwCl [(cI, .int), (cZ, .boolean), (cJ, .long)] U ∧ va_D (fun _ => True) (cw_Ref cI cZ cJ arf rf lat ln))) (pq_Ref_ceiling dC dI cI cZ cJ arf rf lat ln x1 (va_A (cw_Ref cI cZ cJ arf rf lat ln) sz)) 0 0 (va_A (cw_Ref cI cZ cJ arf rf lat ln) sz) := by
  refine Met.ofW (cc := prog_7_method_8_code) (maxL := 2) (ret := (some .int)) (by decide) rfl ?_
  intro p e s m args below meth c s₁ B hml hv
  obtain ⟨rfl, hsz, hP, hK, hD0⟩ := hv
  have hx := B.exec
  have hb := B.bytes
  have hr := B.returns
  have hts0 := atoms_spec (ws := nw_Ref_ceiling) B.pre
  have hts : ∀ w ∈ ng_tbl, w.before ([.ref (arf 0), .int x1] : List Value).toArray s = true := fun w h => hts0 w (List.mem_cons_of_mem _ h)
  have hown : s.vm.findClass "CeilingRowsModel" = some m.cls := findClass_of_methodNamed B.named
  have hlocks := B.notSynchronized
  subst hsz
  have hD := hD0.self (sz := s.heap.size)
  generalize hAe : va_A (cw_Ref cI cZ cJ arf rf lat ln) s.heap.size = A at hD ⊢
  have hA : ∀ q : Nat, s.heap.size ≤ q → A q := fun q h => by rw [← hAe]; exact Or.inr h
  have hS : va_S A s.heap s.heap [] := va_S.rf
  have hP : va_P (dC, dI) vwCl (cw_Ref cI cZ cJ arf rf lat ln) s.heap := hP
  have hl := lv_entry ([.ref (arf 0), .int x1]) (n := 2) (Nat.le_of_ble_eq_true rfl)
  rw [lg_entry_eq]
  generalize (lg_sl ([.ref (arf 0), .int x1]) ++ List.replicate (2 - (lg_sl ([.ref (arf 0), .int x1])).length) Slot.unset).toArray = ls at hl ⊢
  have hl : lv_has ls 2 [(0, .ref (arf 0)), (1, .int x1)] := hl
  have f0_rf_0 := cr_rfo hR_rf.1
  have f0_rf_1 := cr_rfo hR_rf.2.1
  have k_m1 : (-1 : Int32).toInt = -1 := by decide
  have k_0 : (0 : Int32).toInt = 0 := by decide
  obtain ⟨tgt, hT⟩ : ∃ z, md_Ref_ceiling rf lat ln x1 = z := ⟨_, rfl⟩
  have hM := hT
  unfold md_Ref_ceiling at hM
  refine lv_aload_n hx hb nd_Ref_ceiling_0 rfl (lv_at hl 0 rfl) ?_
  refine lv_iload_n hx hb nd_Ref_ceiling_1 rfl (lv_at hl 1 rfl) ?_
  have hPc := hP
  have hDc := hD
  have hFc := va_free (wc := cw_Ref cI cZ cJ arf rf lat ln) hD hS hA [0, 1, 2, 3, 4, 5, 6, 7, 8, 9, 10, 11, 12, 13, 14, 15, 16, 17] rfl
  refine va_calli (va_runV (As := [.int x1]) (rest := []) ⟨hx, hb, hml, hown, hts⟩ (ct_Ref_isResource l dC dI cI cZ cJ arf s.heap.size rf lat ln x1 hR_rf) (cwV 1 hts (ng_V tw_497 tw_499 tp_19 tw_6 tw_500) rfl rfl rfl (by decide +kernel) ⟨Nat.le_of_ble_eq_true rfl, Nat.le_of_ble_eq_true rfl⟩) ⟨fun a U g mk q => by obtain ⟨q0, q1, qP, qK, qD⟩ := q; exact ⟨q0, q1, qP, va_K.moved (u := U) (U := U.calling g mk a) (Vm.Alike.refl U.vm) qK, qD⟩, va_recv hK hPc (ci := 5) (q0 := 0) rfl rfl, fun U hU hW => ⟨rfl, by rw [hU], by rw [hU]; exact hPc, va_K.moved hW.alike hK, hDc.weaken (fun _ _ _ _ => trivial)⟩⟩ rfl rfl hl.1 rfl (lv_room (Nat.le_of_ble_eq_true rfl)) nd_Ref_ceiling_2 ⟨Nat.zero_le _, Nat.zero_le _⟩) hS (fun q _ h => hFc q h) hFc (fun r_1 u t H1 locs ht hvm hw hB hz1 hk1 hS => ?_)
  obtain ⟨hP1, hK1, hD1⟩ := hB
  rw [ht] at hP1
  obtain ⟨w_2, f_3⟩ := hw
  try rw [← w_2] at hM
  have hP := hP1
  have hD := cr_Dw hD1 hFc
  generalize H1 = H at hP hS ⊢
  refine lv_if_eq (tgt := 16) hx hb nd_Ref_ceiling_5 (by decide) (fun c_4 => ?_) (fun c_4 => ?_)
  · have c_4t := cr_eq c_4
    rw [if_pos c_4] at hM
    refine lv_iconst (v := -1) hx hb nd_Ref_ceiling_16 (by decide) ?_
    exact W.iret (v := (-1 : Int32)) hx hb hr (fun t ht hW => ⟨⟨(-1 : Int32), (), rfl, by rw [hT, ← hM], by rw [ht]; exact hP, va_K.moved hW.alike hK, hD⟩, hS.F ht⟩) hS.2.2 nd_Ref_ceiling_17
  · have c_4t := cr_ne c_4
    rw [if_neg c_4] at hM
    refine lv_aload_n hx hb nd_Ref_ceiling_8 rfl (lv_at hl 0 rfl) ?_
    refine lv_iload_n hx hb nd_Ref_ceiling_9 rfl (lv_at hl 1 rfl) ?_
    have hPc := hP
    have hDc := hD
    have hFc := va_free (wc := cw_Ref cI cZ cJ arf rf lat ln) hD hS hA [0, 1, 2, 3, 4, 5, 6, 7, 8, 9, 10, 11, 12, 13, 14, 15, 16, 17] rfl
    refine va_calli (va_runV (As := [.int x1]) (rest := []) ⟨hx, hb, hml, hown, hts⟩ (ct_Ref_ceilingOf l dC dI cI cZ cJ arf H.size rf lat ln x1 hR_rf (by omega)) (cwV 1 hts (ng_V tw_506 tw_508 tp_20 tw_6 tw_509) rfl rfl rfl (by decide +kernel) ⟨Nat.le_of_ble_eq_true rfl, Nat.le_of_ble_eq_true rfl⟩) ⟨fun a U g mk q => by obtain ⟨q0, q1, qP, qK, qD⟩ := q; exact ⟨q0, q1, qP, va_K.moved (u := U) (U := U.calling g mk a) (Vm.Alike.refl U.vm) qK, qD⟩, va_recv hK hPc (ci := 5) (q0 := 0) rfl rfl, fun U hU hW => ⟨rfl, by rw [hU], by rw [hU]; exact hPc, va_K.moved hW.alike hK, hDc.weaken (fun _ _ _ _ => trivial)⟩⟩ rfl rfl hl.1 rfl (lv_room (Nat.le_of_ble_eq_true rfl)) nd_Ref_ceiling_10 ⟨Nat.zero_le _, Nat.zero_le _⟩) hS (fun q _ h => hFc q h) hFc (fun r_5 u t H1 locs ht hvm hw hB hz1 hk1 hS => ?_)
    obtain ⟨hP1, hK1, hD1⟩ := hB
    rw [ht] at hP1
    have w_6 := hw
    try rw [← w_6] at hM
    have hP := hP1
    have hD := cr_Dw hD1 hFc
    generalize H1 = H at hP hS ⊢
    refine lv_goto (tgt := 17) hx hb nd_Ref_ceiling_13 (by decide) ?_
    exact W.iret (v := r_5) hx hb hr (fun t ht hW => ⟨⟨r_5, (), rfl, by rw [hT, ← hM], by rw [ht]; exact hP, va_K.moved hW.alike hK, hD⟩, hS.F ht⟩) hS.2.2 nd_Ref_ceiling_17

theorem nd_Ref_rankNow_0 : decode prog_7_method_9_code 0 = .ok (.aload_n 0, 1) := by decide +kernel
theorem nd_Ref_rankNow_1 : decode prog_7_method_9_code 1 = .ok (.getfield 7, 3) := by decide +kernel
theorem nd_Ref_rankNow_4 : decode prog_7_method_9_code 4 = .ok (.iload_n 1, 1) := by decide +kernel
theorem nd_Ref_rankNow_5 : decode prog_7_method_9_code 5 = .ok (.iaload, 1) := by decide +kernel
theorem nd_Ref_rankNow_6 : decode prog_7_method_9_code 6 = .ok (.istore_n 2, 1) := by decide +kernel
theorem nd_Ref_rankNow_7 : decode prog_7_method_9_code 7 = .ok (.iconst 1, 1) := by decide +kernel
theorem nd_Ref_rankNow_8 : decode prog_7_method_9_code 8 = .ok (.istore_n 3, 1) := by decide +kernel
theorem nd_Ref_rankNow_9 : decode prog_7_method_9_code 9 = .ok (.iload_n 3, 1) := by decide +kernel
theorem nd_Ref_rankNow_10 : decode prog_7_method_9_code 10 = .ok (.aload_n 0, 1) := by decide +kernel
theorem nd_Ref_rankNow_11 : decode prog_7_method_9_code 11 = .ok (.getfield 67, 3) := by decide +kernel
theorem nd_Ref_rankNow_14 : decode prog_7_method_9_code 14 = .ok (.if_icmp .gt (38), 3) := by decide +kernel
theorem nd_Ref_rankNow_17 : decode prog_7_method_9_code 17 = .ok (.aload_n 0, 1) := by decide +kernel
theorem nd_Ref_rankNow_18 : decode prog_7_method_9_code 18 = .ok (.getfield 30, 3) := by decide +kernel
theorem nd_Ref_rankNow_21 : decode prog_7_method_9_code 21 = .ok (.iload_n 3, 1) := by decide +kernel
theorem nd_Ref_rankNow_22 : decode prog_7_method_9_code 22 = .ok (.iaload, 1) := by decide +kernel
theorem nd_Ref_rankNow_23 : decode prog_7_method_9_code 23 = .ok (.iload_n 1, 1) := by decide +kernel
theorem nd_Ref_rankNow_24 : decode prog_7_method_9_code 24 = .ok (.if_icmp .ne (20), 3) := by decide +kernel
theorem nd_Ref_rankNow_27 : decode prog_7_method_9_code 27 = .ok (.aload_n 0, 1) := by decide +kernel
theorem nd_Ref_rankNow_28 : decode prog_7_method_9_code 28 = .ok (.iload_n 3, 1) := by decide +kernel
theorem nd_Ref_rankNow_29 : decode prog_7_method_9_code 29 = .ok (.invokevirtual 79, 3) := by decide +kernel
theorem nd_Ref_rankNow_32 : decode prog_7_method_9_code 32 = .ok (.iload_n 2, 1) := by decide +kernel
theorem nd_Ref_rankNow_33 : decode prog_7_method_9_code 33 = .ok (.if_icmp .le (11), 3) := by decide +kernel
theorem nd_Ref_rankNow_36 : decode prog_7_method_9_code 36 = .ok (.aload_n 0, 1) := by decide +kernel
theorem nd_Ref_rankNow_37 : decode prog_7_method_9_code 37 = .ok (.iload_n 3, 1) := by decide +kernel
theorem nd_Ref_rankNow_38 : decode prog_7_method_9_code 38 = .ok (.invokevirtual 79, 3) := by decide +kernel
theorem nd_Ref_rankNow_41 : decode prog_7_method_9_code 41 = .ok (.goto (4), 3) := by decide +kernel
theorem nd_Ref_rankNow_44 : decode prog_7_method_9_code 44 = .ok (.iload_n 2, 1) := by decide +kernel
theorem nd_Ref_rankNow_45 : decode prog_7_method_9_code 45 = .ok (.istore_n 2, 1) := by decide +kernel
theorem nd_Ref_rankNow_46 : decode prog_7_method_9_code 46 = .ok (.iinc 3 1, 3) := by decide +kernel
theorem nd_Ref_rankNow_49 : decode prog_7_method_9_code 49 = .ok (.goto (-40), 3) := by decide +kernel
theorem nd_Ref_rankNow_52 : decode prog_7_method_9_code 52 = .ok (.iload_n 2, 1) := by decide +kernel
theorem nd_Ref_rankNow_53 : decode prog_7_method_9_code 53 = .ok (.ireturn, 1) := by decide +kernel
abbrev pq_Ref_rankNow (dC : Nat → ClassId) (dI : Nat → Nat → Nat) (cI cZ cJ : ClassId) (arf : Nat → Nat) (rf : cr_S) (lat : Int64) (ln : (Nat → Int64)) (x1 : Int32) (A : Nat → Prop) : Array Value → State → Outcome → State → Prop :=
  va_Qi (fun (r : Int32) (_ : Unit) => r = md_Ref_rankNow rf lat ln x1) (fun (_ : Unit) t => va_P (dC, dI) vwCl (cw_Ref cI cZ cJ arf rf lat ln) t.heap ∧ va_K (dC, dI) vwCl [(cI, .int), (cZ, .boolean), (cJ, .long)] t ∧ va_D A (cw_Ref cI cZ cJ arf rf lat ln)) A
set_option maxHeartbeats 4000000 in
set_option maxRecDepth 100000 in
theorem ct_Ref_rankNow (l : Launch) (dC : Nat → ClassId) (dI : Nat → Nat → Nat) (cI cZ cJ : ClassId) (arf : Nat → Nat) (sz : Nat) (rf : cr_S) (lat : Int64) (ln : (Nat → Int64)) (x1 : Int32) (hR_rf : cr_RRef rf) (hx1 : 0 ≤ x1.toInt ∧ x1.toInt ≤ 10) : Met l ny_Ref_rankNow nw_Ref_rankNow ({ frames := 1, cells := 0, slots := 0, locals := 23 } : Room) (va_Pc [.ref (arf 0), .int x1] (fun U => U.heap.size = sz ∧ va_P (dC, dI) vwCl (cw_Ref cI cZ cJ arf rf lat ln) U.heap ∧ va_K (dC, dI) vwCl [(cI, .int), (cZ, .boolean), (cJ, .long)] U ∧ va_D (fun _ => True) (cw_Ref cI cZ cJ arf rf lat ln))) (pq_Ref_rankNow dC dI cI cZ cJ arf rf lat ln x1 (va_A (cw_Ref cI cZ cJ arf rf lat ln) sz)) 0 0 (va_A (cw_Ref cI cZ cJ arf rf lat ln) sz) := by
  refine Met.ofW (cc := prog_7_method_9_code) (maxL := 4) (ret := (some .int)) (by decide) rfl ?_
  intro p e s m args below meth c s₁ B hml hv
  obtain ⟨rfl, hsz, hP, hK, hD0⟩ := hv
  have hx := B.exec
  have hb := B.bytes
  have hr := B.returns
  have hts0 := atoms_spec (ws := nw_Ref_rankNow) B.pre
  have hts : ∀ w ∈ ng_tbl, w.before ([.ref (arf 0), .int x1] : List Value).toArray s = true := fun w h => hts0 w (List.mem_cons_of_mem _ h)
  have hown : s.vm.findClass "CeilingRowsModel" = some m.cls := findClass_of_methodNamed B.named
  have hlocks := B.notSynchronized
  subst hsz
  have hD := hD0.self (sz := s.heap.size)
  generalize hAe : va_A (cw_Ref cI cZ cJ arf rf lat ln) s.heap.size = A at hD ⊢
  have hA : ∀ q : Nat, s.heap.size ≤ q → A q := fun q h => by rw [← hAe]; exact Or.inr h
  have hS : va_S A s.heap s.heap [] := va_S.rf
  have hP : va_P (dC, dI) vwCl (cw_Ref cI cZ cJ arf rf lat ln) s.heap := hP
  have hl := lv_entry ([.ref (arf 0), .int x1]) (n := 4) (Nat.le_of_ble_eq_true rfl)
  rw [lg_entry_eq]
  generalize (lg_sl ([.ref (arf 0), .int x1]) ++ List.replicate (4 - (lg_sl ([.ref (arf 0), .int x1])).length) Slot.unset).toArray = ls at hl ⊢
  have hl : lv_has ls 4 [(0, .ref (arf 0)), (1, .int x1)] := hl
  have f0_rf_0 := cr_rfo hR_rf.1
  have f0_rf_1 := cr_rfo hR_rf.2.1
  have k_1 : (1 : Int32).toInt = 1 := by decide
  obtain ⟨tgt, hT⟩ : ∃ z, md_Ref_rankNow rf lat ln x1 = z := ⟨_, rfl⟩
  have hM := hT
  unfold md_Ref_rankNow at hM
  refine lv_aload_n hx hb nd_Ref_rankNow_0 rfl (lv_at hl 0 rfl) ?_
  refine va_get (D := (dC, dI)) (ci := 5) (v := .ref (arf 1)) (C := "CeilingRowsModel") (T := nf_Ref) (N := 22) hx hb hts nin_Ref hown hK hP 0 rfl rfl 1 (by decide) (hts _ tw_414) (fun _ h9 => h9) rfl nd_Ref_rankNow_1 ?_
  refine lv_iload_n hx hb nd_Ref_rankNow_4 rfl (lv_at hl 1 rfl) ?_
  have b_1 : vp_in x1 11 := vp_in_iff.mpr (by omega)
  refine va_iald hx hb hK hP 1 0 rfl rfl b_1 nd_Ref_rankNow_5 ?_
  refine lv_istore_n (lv' := [(2, .int (rf 1 x1.toNatClampNeg)), (0, .ref (arf 0)), (1, .int x1)]) hx hb nd_Ref_rankNow_6 rfl hl (by decide) rfl (fun ls hl => ?_)
  refine lv_iconst (v := 1) hx hb nd_Ref_rankNow_7 (by decide) ?_
  refine lv_istore_n (lv' := [(3, .int (1 : Int32)), (2, .int (rf 1 x1.toNatClampNeg)), (0, .ref (arf 0)), (1, .int x1)]) hx hb nd_Ref_rankNow_8 rfl hl (by decide) rfl (fun ls hl => ?_)
  have hl := lv_sub hl [2, 3, 1, 0] rfl
  have lp_9 : ∀ (n_9 : Nat) (v2_9 : Int32) (v3_9 : Int32), (1 ≤ v3_9.toInt ∧ v3_9.toInt ≤ 9) → (9 < v3_9.toInt + (n_9 : Int)) → lo_Ref_rankNow_9 rf lat ln x1 n_9 v2_9 v3_9 = tgt → ∀ (H : Heap) (locs : List Loc), va_P (dC, dI) vwCl (cw_Ref cI cZ cJ arf rf lat ln) H → va_D A (cw_Ref cI cZ cJ arf rf lat ln) → va_S A s.heap H locs → ∀ ls : Array Slot, lv_has ls 4 [(0, .ref (arf 0)), (1, .int x1), (2, .int v2_9), (3, .int v3_9)] → W p l e (headSpec nw_Ref_rankNow ({ frames := 1, cells := 0, slots := 0, locals := 23 } : Room)).room s m ([.ref (arf 0), .int x1] : List Value).toArray below meth c H locs 0 0 (MQ below (pq_Ref_rankNow dC dI cI cZ cJ arf rf lat ln x1 A) ([.ref (arf 0), .int x1] : List Value).toArray s 0 0 A) (F0 m 9 ls []) := by
    intro n_9
    induction n_9 with
    | zero =>
      intro v2_9 v3_9 hv3_9 hn_9
      exfalso; omega
    | succ n_9 ih_9 =>
      intro v2_9 v3_9 hv3_9 hn_9 hM H locs hP hD hS ls hl
      have hn_9 : 9 < v3_9.toInt + ((n_9 : Int) + 1) := by omega
      rw [lo_Ref_rankNow_9] at hM
      refine lv_iload_n hx hb nd_Ref_rankNow_9 rfl (lv_at hl 3 rfl) ?_
      refine lv_aload_n hx hb nd_Ref_rankNow_10 rfl (lv_at hl 0 rfl) ?_
      refine va_get (D := (dC, dI)) (ci := 5) (v := .int (rf 0 2)) (C := "CeilingRowsModel") (T := nf_Ref) (N := 22) hx hb hts nin_Ref hown hK hP 0 rfl rfl 7 (by decide) (hts _ tw_420) (fun _ h9 => h9) rfl nd_Ref_rankNow_11 ?_
      have f_2 := cr_rfo hR_rf.2.1
      refine lv_icmp_gt (tgt := 52) hx hb nd_Ref_rankNow_14 (by decide) (fun c_3 => ?_) (fun c_3 => ?_)
      · have c_3t := cr_lt c_3
        rw [if_pos c_3] at hM
        refine lv_iload_n hx hb nd_Ref_rankNow_52 rfl (lv_at hl 2 rfl) ?_
        exact W.iret (v := v2_9) hx hb hr (fun t ht hW => ⟨⟨v2_9, (), rfl, by rw [hT, ← hM], by rw [ht]; exact hP, va_K.moved hW.alike hK, hD⟩, hS.F ht⟩) hS.2.2 nd_Ref_rankNow_53
      · have c_3t := cr_nlt c_3
        rw [if_neg c_3] at hM
        refine lv_aload_n hx hb nd_Ref_rankNow_17 rfl (lv_at hl 0 rfl) ?_
        refine va_get (D := (dC, dI)) (ci := 5) (v := .ref (arf 7)) (C := "CeilingRowsModel") (T := nf_Ref) (N := 22) hx hb hts nin_Ref hown hK hP 0 rfl rfl 9 (by decide) (hts _ tw_422) (fun _ h9 => h9) rfl nd_Ref_rankNow_18 ?_
        refine lv_iload_n hx hb nd_Ref_rankNow_21 rfl (lv_at hl 3 rfl) ?_
        have b_4 : vp_in v3_9 9 := vp_in_iff.mpr (by omega)
        refine va_iald hx hb hK hP 7 0 rfl rfl b_4 nd_Ref_rankNow_22 ?_
        refine lv_iload_n hx hb nd_Ref_rankNow_23 rfl (lv_at hl 1 rfl) ?_
        refine lv_icmp_ne (tgt := 44) hx hb nd_Ref_rankNow_24 (by decide) (fun c_5 => ?_) (fun c_5 => ?_)
        · have c_5t := cr_ne c_5
          rw [if_neg c_5] at hM
          refine lv_iload_n hx hb nd_Ref_rankNow_44 rfl (lv_at hl 2 rfl) ?_
          refine lv_istore_n (lv' := [(2, .int v2_9), (0, .ref (arf 0)), (1, .int x1), (3, .int v3_9)]) hx hb nd_Ref_rankNow_45 rfl hl (by decide) rfl (fun ls hl => ?_)
          have e_6 : (v3_9 + (1 : Int32)).toInt = v3_9.toInt + (1 : Int32).toInt := cr_add (by omega)
          refine lv_iinc (v := (v3_9 + (1 : Int32))) (lv' := [(3, .int (v3_9 + (1 : Int32))), (2, .int v2_9), (0, .ref (arf 0)), (1, .int x1)]) hx hb nd_Ref_rankNow_46 hl (k := 3) rfl (by rfl) (by decide) rfl (fun ls hl => ?_)
          refine lv_goto (tgt := 9) hx hb nd_Ref_rankNow_49 (by decide) ?_
          exact ih_9 v2_9 (v3_9 + (1 : Int32)) (by omega) (by omega) hM _ _ hP hD hS _ (lv_sub hl [2, 3, 1, 0] rfl)
        · have c_5t := cr_eq c_5
          rw [if_pos c_5] at hM
          refine lv_aload_n hx hb nd_Ref_rankNow_27 rfl (lv_at hl 0 rfl) ?_
          refine lv_iload_n hx hb nd_Ref_rankNow_28 rfl (lv_at hl 3 rfl) ?_
          have hPc := hP
          have hDc := hD
          have hFc := va_free (wc := cw_Ref cI cZ cJ arf rf lat ln) hD hS hA [0, 1, 2, 3, 4, 5, 6, 7, 8, 9, 10, 11, 12, 13, 14, 15, 16, 17] rfl
          refine va_calli (va_runV (As := [.int v3_9]) (rest := []) ⟨hx, hb, hml, hown, hts⟩ (ct_Ref_ceilingOf l dC dI cI cZ cJ arf H.size rf lat ln v3_9 hR_rf (by omega)) (cwV 1 hts (ng_V tw_506 tw_508 tp_20 tw_6 tw_509) rfl rfl rfl (by decide +kernel) ⟨Nat.le_of_ble_eq_true rfl, Nat.le_of_ble_eq_true rfl⟩) ⟨fun a U g mk q => by obtain ⟨q0, q1, qP, qK, qD⟩ := q; exact ⟨q0, q1, qP, va_K.moved (u := U) (U := U.calling g mk a) (Vm.Alike.refl U.vm) qK, qD⟩, va_recv hK hPc (ci := 5) (q0 := 0) rfl rfl, fun U hU hW => ⟨rfl, by rw [hU], by rw [hU]; exact hPc, va_K.moved hW.alike hK, hDc.weaken (fun _ _ _ _ => trivial)⟩⟩ rfl rfl hl.1 rfl (lv_room (Nat.le_of_ble_eq_true rfl)) nd_Ref_rankNow_29 ⟨Nat.zero_le _, Nat.zero_le _⟩) hS (fun q _ h => hFc q h) hFc (fun r_7 u t H1 locs ht hvm hw hB hz1 hk1 hS => ?_)
          obtain ⟨hP1, hK1, hD1⟩ := hB
          rw [ht] at hP1
          have w_8 := hw
          try rw [← w_8] at hM
          have hP := hP1
          have hD := cr_Dw hD1 hFc
          generalize H1 = H at hP hS ⊢
          refine lv_iload_n hx hb nd_Ref_rankNow_32 rfl (lv_at hl 2 rfl) ?_
          refine lv_icmp_le (tgt := 44) hx hb nd_Ref_rankNow_33 (by decide) (fun c_9 => ?_) (fun c_9 => ?_)
          · have c_9t := cr_le c_9
            rw [if_pos c_9] at hM
            refine lv_iload_n hx hb nd_Ref_rankNow_44 rfl (lv_at hl 2 rfl) ?_
            refine lv_istore_n (lv' := [(2, .int v2_9), (0, .ref (arf 0)), (1, .int x1), (3, .int v3_9)]) hx hb nd_Ref_rankNow_45 rfl hl (by decide) rfl (fun ls hl => ?_)
            have e_10 : (v3_9 + (1 : Int32)).toInt = v3_9.toInt + (1 : Int32).toInt := cr_add (by omega)
            refine lv_iinc (v := (v3_9 + (1 : Int32))) (lv' := [(3, .int (v3_9 + (1 : Int32))), (2, .int v2_9), (0, .ref (arf 0)), (1, .int x1)]) hx hb nd_Ref_rankNow_46 hl (k := 3) rfl (by rfl) (by decide) rfl (fun ls hl => ?_)
            refine lv_goto (tgt := 9) hx hb nd_Ref_rankNow_49 (by decide) ?_
            exact ih_9 v2_9 (v3_9 + (1 : Int32)) (by omega) (by omega) hM _ _ hP hD hS _ (lv_sub hl [2, 3, 1, 0] rfl)
          · have c_9t := cr_nle c_9
            rw [if_neg c_9] at hM
            refine lv_aload_n hx hb nd_Ref_rankNow_36 rfl (lv_at hl 0 rfl) ?_
            refine lv_iload_n hx hb nd_Ref_rankNow_37 rfl (lv_at hl 3 rfl) ?_
            have hPc := hP
            have hDc := hD
            have hFc := va_free (wc := cw_Ref cI cZ cJ arf rf lat ln) hD hS hA [0, 1, 2, 3, 4, 5, 6, 7, 8, 9, 10, 11, 12, 13, 14, 15, 16, 17] rfl
            refine va_calli (va_runV (As := [.int v3_9]) (rest := []) ⟨hx, hb, hml, hown, hts⟩ (ct_Ref_ceilingOf l dC dI cI cZ cJ arf H.size rf lat ln v3_9 hR_rf (by omega)) (cwV 1 hts (ng_V tw_506 tw_508 tp_20 tw_6 tw_509) rfl rfl rfl (by decide +kernel) ⟨Nat.le_of_ble_eq_true rfl, Nat.le_of_ble_eq_true rfl⟩) ⟨fun a U g mk q => by obtain ⟨q0, q1, qP, qK, qD⟩ := q; exact ⟨q0, q1, qP, va_K.moved (u := U) (U := U.calling g mk a) (Vm.Alike.refl U.vm) qK, qD⟩, va_recv hK hPc (ci := 5) (q0 := 0) rfl rfl, fun U hU hW => ⟨rfl, by rw [hU], by rw [hU]; exact hPc, va_K.moved hW.alike hK, hDc.weaken (fun _ _ _ _ => trivial)⟩⟩ rfl rfl hl.1 rfl (lv_room (Nat.le_of_ble_eq_true rfl)) nd_Ref_rankNow_38 ⟨Nat.zero_le _, Nat.zero_le _⟩) hS (fun q _ h => hFc q h) hFc (fun r_11 u t H1 locs ht hvm hw hB hz1 hk1 hS => ?_)
            obtain ⟨hP1, hK1, hD1⟩ := hB
            rw [ht] at hP1
            have w_12 := hw
            try rw [← w_12] at hM
            have hEq : r_7 = r_11 := w_8.trans w_12.symm
            subst hEq
            have hP := hP1
            have hD := cr_Dw hD1 hFc
            generalize H1 = H at hP hS ⊢
            refine lv_goto (tgt := 45) hx hb nd_Ref_rankNow_41 (by decide) ?_
            refine lv_istore_n (lv' := [(2, .int r_7), (0, .ref (arf 0)), (1, .int x1), (3, .int v3_9)]) hx hb nd_Ref_rankNow_45 rfl hl (by decide) rfl (fun ls hl => ?_)
            have e_13 : (v3_9 + (1 : Int32)).toInt = v3_9.toInt + (1 : Int32).toInt := cr_add (by omega)
            refine lv_iinc (v := (v3_9 + (1 : Int32))) (lv' := [(3, .int (v3_9 + (1 : Int32))), (2, .int r_7), (0, .ref (arf 0)), (1, .int x1)]) hx hb nd_Ref_rankNow_46 hl (k := 3) rfl (by rfl) (by decide) rfl (fun ls hl => ?_)
            refine lv_goto (tgt := 9) hx hb nd_Ref_rankNow_49 (by decide) ?_
            exact ih_9 r_7 (v3_9 + (1 : Int32)) (by omega) (by omega) hM _ _ hP hD hS _ (lv_sub hl [2, 3, 1, 0] rfl)
  exact lp_9 9 (rf 1 x1.toNatClampNeg) (1 : Int32) (by omega) (by omega) hM _ _ hP hD hS _ hl

theorem nd_Ref_running_0 : decode prog_7_method_10_code 0 = .ok (.iconst 0, 1) := by decide +kernel
theorem nd_Ref_running_1 : decode prog_7_method_10_code 1 = .ok (.istore_n 2, 1) := by decide +kernel
theorem nd_Ref_running_2 : decode prog_7_method_10_code 2 = .ok (.iconst 1, 1) := by decide +kernel
theorem nd_Ref_running_3 : decode prog_7_method_10_code 3 = .ok (.istore_n 3, 1) := by decide +kernel
theorem nd_Ref_running_4 : decode prog_7_method_10_code 4 = .ok (.iload_n 3, 1) := by decide +kernel
theorem nd_Ref_running_5 : decode prog_7_method_10_code 5 = .ok (.aload_n 0, 1) := by decide +kernel
theorem nd_Ref_running_6 : decode prog_7_method_10_code 6 = .ok (.getfield 63, 3) := by decide +kernel
theorem nd_Ref_running_9 : decode prog_7_method_10_code 9 = .ok (.if_icmp .gt (89), 3) := by decide +kernel
theorem nd_Ref_running_12 : decode prog_7_method_10_code 12 = .ok (.aload_n 0, 1) := by decide +kernel
theorem nd_Ref_running_13 : decode prog_7_method_10_code 13 = .ok (.getfield 42, 3) := by decide +kernel
theorem nd_Ref_running_16 : decode prog_7_method_10_code 16 = .ok (.iload_n 1, 1) := by decide +kernel
theorem nd_Ref_running_17 : decode prog_7_method_10_code 17 = .ok (.iaload, 1) := by decide +kernel
theorem nd_Ref_running_18 : decode prog_7_method_10_code 18 = .ok (.ifCond .ne (80), 3) := by decide +kernel
theorem nd_Ref_running_21 : decode prog_7_method_10_code 21 = .ok (.aload_n 0, 1) := by decide +kernel
theorem nd_Ref_running_22 : decode prog_7_method_10_code 22 = .ok (.getfield 13, 3) := by decide +kernel
theorem nd_Ref_running_25 : decode prog_7_method_10_code 25 = .ok (.iload_n 3, 1) := by decide +kernel
theorem nd_Ref_running_26 : decode prog_7_method_10_code 26 = .ok (.iaload, 1) := by decide +kernel
theorem nd_Ref_running_27 : decode prog_7_method_10_code 27 = .ok (.iload_n 1, 1) := by decide +kernel
theorem nd_Ref_running_28 : decode prog_7_method_10_code 28 = .ok (.if_icmp .ne (64), 3) := by decide +kernel
theorem nd_Ref_running_31 : decode prog_7_method_10_code 31 = .ok (.aload_n 0, 1) := by decide +kernel
theorem nd_Ref_running_32 : decode prog_7_method_10_code 32 = .ok (.getfield 16, 3) := by decide +kernel
theorem nd_Ref_running_35 : decode prog_7_method_10_code 35 = .ok (.iload_n 3, 1) := by decide +kernel
theorem nd_Ref_running_36 : decode prog_7_method_10_code 36 = .ok (.iaload, 1) := by decide +kernel
theorem nd_Ref_running_37 : decode prog_7_method_10_code 37 = .ok (.iconst 1, 1) := by decide +kernel
theorem nd_Ref_running_38 : decode prog_7_method_10_code 38 = .ok (.if_icmp .eq (6), 3) := by decide +kernel
theorem nd_Ref_running_41 : decode prog_7_method_10_code 41 = .ok (.goto (51), 3) := by decide +kernel
theorem nd_Ref_running_44 : decode prog_7_method_10_code 44 = .ok (.iload_n 2, 1) := by decide +kernel
theorem nd_Ref_running_45 : decode prog_7_method_10_code 45 = .ok (.ifCond .ne (7), 3) := by decide +kernel
theorem nd_Ref_running_48 : decode prog_7_method_10_code 48 = .ok (.iconst 1, 1) := by decide +kernel
theorem nd_Ref_running_49 : decode prog_7_method_10_code 49 = .ok (.goto (14), 3) := by decide +kernel
theorem nd_Ref_running_52 : decode prog_7_method_10_code 52 = .ok (.aload_n 0, 1) := by decide +kernel
theorem nd_Ref_running_53 : decode prog_7_method_10_code 53 = .ok (.iload_n 3, 1) := by decide +kernel
theorem nd_Ref_running_54 : decode prog_7_method_10_code 54 = .ok (.invokevirtual 83, 3) := by decide +kernel
theorem nd_Ref_running_57 : decode prog_7_method_10_code 57 = .ok (.aload_n 0, 1) := by decide +kernel
theorem nd_Ref_running_58 : decode prog_7_method_10_code 58 = .ok (.iload_n 2, 1) := by decide +kernel
theorem nd_Ref_running_59 : decode prog_7_method_10_code 59 = .ok (.invokevirtual 83, 3) := by decide +kernel
theorem nd_Ref_running_62 : decode prog_7_method_10_code 62 = .ok (.isub, 1) := by decide +kernel
theorem nd_Ref_running_63 : decode prog_7_method_10_code 63 = .ok (.istore 4, 2) := by decide +kernel
theorem nd_Ref_running_65 : decode prog_7_method_10_code 65 = .ok (.iload 4, 2) := by decide +kernel
theorem nd_Ref_running_67 : decode prog_7_method_10_code 67 = .ok (.ifCond .gt (23), 3) := by decide +kernel
theorem nd_Ref_running_70 : decode prog_7_method_10_code 70 = .ok (.iload 4, 2) := by decide +kernel
theorem nd_Ref_running_72 : decode prog_7_method_10_code 72 = .ok (.ifCond .ne (20), 3) := by decide +kernel
theorem nd_Ref_running_75 : decode prog_7_method_10_code 75 = .ok (.aload_n 0, 1) := by decide +kernel
theorem nd_Ref_running_76 : decode prog_7_method_10_code 76 = .ok (.getfield 19, 3) := by decide +kernel
theorem nd_Ref_running_79 : decode prog_7_method_10_code 79 = .ok (.iload_n 3, 1) := by decide +kernel
theorem nd_Ref_running_80 : decode prog_7_method_10_code 80 = .ok (.iaload, 1) := by decide +kernel
theorem nd_Ref_running_81 : decode prog_7_method_10_code 81 = .ok (.aload_n 0, 1) := by decide +kernel
theorem nd_Ref_running_82 : decode prog_7_method_10_code 82 = .ok (.getfield 19, 3) := by decide +kernel
theorem nd_Ref_running_85 : decode prog_7_method_10_code 85 = .ok (.iload_n 2, 1) := by decide +kernel
theorem nd_Ref_running_86 : decode prog_7_method_10_code 86 = .ok (.iaload, 1) := by decide +kernel
theorem nd_Ref_running_87 : decode prog_7_method_10_code 87 = .ok (.if_icmp .ge (5), 3) := by decide +kernel
theorem nd_Ref_running_90 : decode prog_7_method_10_code 90 = .ok (.iload_n 3, 1) := by decide +kernel
theorem nd_Ref_running_91 : decode prog_7_method_10_code 91 = .ok (.istore_n 2, 1) := by decide +kernel
theorem nd_Ref_running_92 : decode prog_7_method_10_code 92 = .ok (.iinc 3 1, 3) := by decide +kernel
theorem nd_Ref_running_95 : decode prog_7_method_10_code 95 = .ok (.goto (-91), 3) := by decide +kernel
theorem nd_Ref_running_98 : decode prog_7_method_10_code 98 = .ok (.iload_n 2, 1) := by decide +kernel
theorem nd_Ref_running_99 : decode prog_7_method_10_code 99 = .ok (.ireturn, 1) := by decide +kernel
abbrev pq_Ref_running (dC : Nat → ClassId) (dI : Nat → Nat → Nat) (cI cZ cJ : ClassId) (arf : Nat → Nat) (rf : cr_S) (lat : Int64) (ln : (Nat → Int64)) (x1 : Int32) (A : Nat → Prop) : Array Value → State → Outcome → State → Prop :=
  va_Qi (fun (r : Int32) (_ : Unit) => r = md_Ref_running rf lat ln x1 ∧ (0 ≤ r.toInt ∧ r.toInt ≤ 10)) (fun (_ : Unit) t => va_P (dC, dI) vwCl (cw_Ref cI cZ cJ arf rf lat ln) t.heap ∧ va_K (dC, dI) vwCl [(cI, .int), (cZ, .boolean), (cJ, .long)] t ∧ va_D A (cw_Ref cI cZ cJ arf rf lat ln)) A
set_option maxHeartbeats 4000000 in
set_option maxRecDepth 100000 in
theorem ct_Ref_running (l : Launch) (dC : Nat → ClassId) (dI : Nat → Nat → Nat) (cI cZ cJ : ClassId) (arf : Nat → Nat) (sz : Nat) (rf : cr_S) (lat : Int64) (ln : (Nat → Int64)) (x1 : Int32) (hR_rf : cr_RRef rf) (hx1 : 0 ≤ x1.toInt ∧ x1.toInt ≤ 3) : Met l ny_Ref_running nw_Ref_running ({ frames := 2, cells := 0, slots := 0, locals := 46 } : Room) (va_Pc [.ref (arf 0), .int x1] (fun U => U.heap.size = sz ∧ va_P (dC, dI) vwCl (cw_Ref cI cZ cJ arf rf lat ln) U.heap ∧ va_K (dC, dI) vwCl [(cI, .int), (cZ, .boolean), (cJ, .long)] U ∧ va_D (fun _ => True) (cw_Ref cI cZ cJ arf rf lat ln))) (pq_Ref_running dC dI cI cZ cJ arf rf lat ln x1 (va_A (cw_Ref cI cZ cJ arf rf lat ln) sz)) 0 0 (va_A (cw_Ref cI cZ cJ arf rf lat ln) sz) := by
  refine Met.ofW (cc := prog_7_method_10_code) (maxL := 5) (ret := (some .int)) (by decide) rfl ?_
  intro p e s m args below meth c s₁ B hml hv
  obtain ⟨rfl, hsz, hP, hK, hD0⟩ := hv
  have hx := B.exec
  have hb := B.bytes
  have hr := B.returns
  have hts0 := atoms_spec (ws := nw_Ref_running) B.pre
  have hts : ∀ w ∈ ng_tbl, w.before ([.ref (arf 0), .int x1] : List Value).toArray s = true := fun w h => hts0 w (List.mem_cons_of_mem _ h)
  have hown : s.vm.findClass "CeilingRowsModel" = some m.cls := findClass_of_methodNamed B.named
  have hlocks := B.notSynchronized
  subst hsz
  have hD := hD0.self (sz := s.heap.size)
  generalize hAe : va_A (cw_Ref cI cZ cJ arf rf lat ln) s.heap.size = A at hD ⊢
  have hA : ∀ q : Nat, s.heap.size ≤ q → A q := fun q h => by rw [← hAe]; exact Or.inr h
  have hS : va_S A s.heap s.heap [] := va_S.rf
  have hP : va_P (dC, dI) vwCl (cw_Ref cI cZ cJ arf rf lat ln) s.heap := hP
  have hl := lv_entry ([.ref (arf 0), .int x1]) (n := 5) (Nat.le_of_ble_eq_true rfl)
  rw [lg_entry_eq]
  generalize (lg_sl ([.ref (arf 0), .int x1]) ++ List.replicate (5 - (lg_sl ([.ref (arf 0), .int x1])).length) Slot.unset).toArray = ls at hl ⊢
  have hl : lv_has ls 5 [(0, .ref (arf 0)), (1, .int x1)] := hl
  have f0_rf_0 := cr_rfo hR_rf.1
  have f0_rf_1 := cr_rfo hR_rf.2.1
  have k_0 : (0 : Int32).toInt = 0 := by decide
  have k_1 : (1 : Int32).toInt = 1 := by decide
  obtain ⟨tgt, hT⟩ : ∃ z, md_Ref_running rf lat ln x1 = z := ⟨_, rfl⟩
  have hM := hT
  unfold md_Ref_running at hM
  refine lv_iconst (v := 0) hx hb nd_Ref_running_0 (by decide) ?_
  refine lv_istore_n (lv' := [(2, .int (0 : Int32)), (0, .ref (arf 0)), (1, .int x1)]) hx hb nd_Ref_running_1 rfl hl (by decide) rfl (fun ls hl => ?_)
  refine lv_iconst (v := 1) hx hb nd_Ref_running_2 (by decide) ?_
  refine lv_istore_n (lv' := [(3, .int (1 : Int32)), (2, .int (0 : Int32)), (0, .ref (arf 0)), (1, .int x1)]) hx hb nd_Ref_running_3 rfl hl (by decide) rfl (fun ls hl => ?_)
  have hl := lv_sub hl [2, 3, 1, 0] rfl
  have lp_4 : ∀ (n_4 : Nat) (v2_4 : Int32) (v3_4 : Int32), (1 ≤ v3_4.toInt ∧ v3_4.toInt ≤ 11) → (0 ≤ v2_4.toInt ∧ v2_4.toInt ≤ 10) → (11 < v3_4.toInt + (n_4 : Int)) → lo_Ref_running_4 rf lat ln x1 n_4 v2_4 v3_4 = tgt → ∀ (H : Heap) (locs : List Loc), va_P (dC, dI) vwCl (cw_Ref cI cZ cJ arf rf lat ln) H → va_D A (cw_Ref cI cZ cJ arf rf lat ln) → va_S A s.heap H locs → ∀ ls : Array Slot, lv_has ls 5 [(0, .ref (arf 0)), (1, .int x1), (2, .int v2_4), (3, .int v3_4)] → W p l e (headSpec nw_Ref_running ({ frames := 2, cells := 0, slots := 0, locals := 46 } : Room)).room s m ([.ref (arf 0), .int x1] : List Value).toArray below meth c H locs 0 0 (MQ below (pq_Ref_running dC dI cI cZ cJ arf rf lat ln x1 A) ([.ref (arf 0), .int x1] : List Value).toArray s 0 0 A) (F0 m 4 ls []) := by
    intro n_4
    induction n_4 with
    | zero =>
      intro v2_4 v3_4 hv3_4 hv2_4 hn_4
      exfalso; omega
    | succ n_4 ih_4 =>
      intro v2_4 v3_4 hv3_4 hv2_4 hn_4 hM H locs hP hD hS ls hl
      have hn_4 : 11 < v3_4.toInt + ((n_4 : Int) + 1) := by omega
      rw [lo_Ref_running_4] at hM
      refine lv_iload_n hx hb nd_Ref_running_4 rfl (lv_at hl 3 rfl) ?_
      refine lv_aload_n hx hb nd_Ref_running_5 rfl (lv_at hl 0 rfl) ?_
      refine va_get (D := (dC, dI)) (ci := 5) (v := .int (rf 0 0)) (C := "CeilingRowsModel") (T := nf_Ref) (N := 22) hx hb hts nin_Ref hown hK hP 0 rfl rfl 0 (by decide) (hts _ tw_413) (fun _ h9 => h9) rfl nd_Ref_running_6 ?_
      have f_1 := cr_rfo hR_rf.1
      refine lv_icmp_gt (tgt := 98) hx hb nd_Ref_running_9 (by decide) (fun c_2 => ?_) (fun c_2 => ?_)
      · have c_2t := cr_lt c_2
        rw [if_pos c_2] at hM
        refine lv_iload_n hx hb nd_Ref_running_98 rfl (lv_at hl 2 rfl) ?_
        exact W.iret (v := v2_4) hx hb hr (fun t ht hW => ⟨⟨v2_4, (), rfl, ⟨by rw [hT, ← hM], by omega⟩, by rw [ht]; exact hP, va_K.moved hW.alike hK, hD⟩, hS.F ht⟩) hS.2.2 nd_Ref_running_99
      · have c_2t := cr_nlt c_2
        rw [if_neg c_2] at hM
        refine lv_aload_n hx hb nd_Ref_running_12 rfl (lv_at hl 0 rfl) ?_
        refine va_get (D := (dC, dI)) (ci := 5) (v := .ref (arf 11)) (C := "CeilingRowsModel") (T := nf_Ref) (N := 22) hx hb hts nin_Ref hown hK hP 0 rfl rfl 14 (by decide) (hts _ tw_427) (fun _ h9 => h9) rfl nd_Ref_running_13 ?_
        refine lv_iload_n hx hb nd_Ref_running_16 rfl (lv_at hl 1 rfl) ?_
        have b_3 : vp_in x1 4 := vp_in_iff.mpr (by omega)
        refine va_iald hx hb hK hP 11 0 rfl rfl b_3 nd_Ref_running_17 ?_
        have f_4 := cr_rgo hR_rf.2.2.2.2.1 (x1.toNatClampNeg)
        refine lv_if_ne (tgt := 98) hx hb nd_Ref_running_18 (by decide) (fun c_5 => ?_) (fun c_5 => ?_)
        · have c_5t := cr_ne c_5
          rw [if_neg c_5] at hM
          refine lv_iload_n hx hb nd_Ref_running_98 rfl (lv_at hl 2 rfl) ?_
          exact W.iret (v := v2_4) hx hb hr (fun t ht hW => ⟨⟨v2_4, (), rfl, ⟨by rw [hT, ← hM], by omega⟩, by rw [ht]; exact hP, va_K.moved hW.alike hK, hD⟩, hS.F ht⟩) hS.2.2 nd_Ref_running_99
        · have c_5t := cr_eq c_5
          rw [if_pos c_5] at hM
          refine lv_aload_n hx hb nd_Ref_running_21 rfl (lv_at hl 0 rfl) ?_
          refine va_get (D := (dC, dI)) (ci := 5) (v := .ref (arf 2)) (C := "CeilingRowsModel") (T := nf_Ref) (N := 22) hx hb hts nin_Ref hown hK hP 0 rfl rfl 2 (by decide) (hts _ tw_415) (fun _ h9 => h9) rfl nd_Ref_running_22 ?_
          refine lv_iload_n hx hb nd_Ref_running_25 rfl (lv_at hl 3 rfl) ?_
          have b_6 : vp_in v3_4 11 := vp_in_iff.mpr (by omega)
          refine va_iald hx hb hK hP 2 0 rfl rfl b_6 nd_Ref_running_26 ?_
          have f_7 := cr_rgo hR_rf.2.2.1 (v3_4.toNatClampNeg)
          refine lv_iload_n hx hb nd_Ref_running_27 rfl (lv_at hl 1 rfl) ?_
          refine lv_icmp_ne (tgt := 92) hx hb nd_Ref_running_28 (by decide) (fun c_8 => ?_) (fun c_8 => ?_)
          · have c_8t := cr_ne c_8
            rw [if_neg c_8] at hM
            have e_9 : (v3_4 + (1 : Int32)).toInt = v3_4.toInt + (1 : Int32).toInt := cr_add (by omega)
            refine lv_iinc (v := (v3_4 + (1 : Int32))) (lv' := [(3, .int (v3_4 + (1 : Int32))), (0, .ref (arf 0)), (1, .int x1), (2, .int v2_4)]) hx hb nd_Ref_running_92 hl (k := 3) rfl (by rfl) (by decide) rfl (fun ls hl => ?_)
            refine lv_goto (tgt := 4) hx hb nd_Ref_running_95 (by decide) ?_
            exact ih_4 v2_4 (v3_4 + (1 : Int32)) (by omega) (by omega) (by omega) hM _ _ hP hD hS _ (lv_sub hl [1, 2, 3, 0] rfl)
          · have c_8t := cr_eq c_8
            rw [if_pos c_8] at hM
            refine lv_aload_n hx hb nd_Ref_running_31 rfl (lv_at hl 0 rfl) ?_
            refine va_get (D := (dC, dI)) (ci := 5) (v := .ref (arf 3)) (C := "CeilingRowsModel") (T := nf_Ref) (N := 22) hx hb hts nin_Ref hown hK hP 0 rfl rfl 3 (by decide) (hts _ tw_416) (fun _ h9 => h9) rfl nd_Ref_running_32 ?_
            refine lv_iload_n hx hb nd_Ref_running_35 rfl (lv_at hl 3 rfl) ?_
            have b_10 : vp_in v3_4 11 := vp_in_iff.mpr (by omega)
            refine va_iald hx hb hK hP 3 0 rfl rfl b_10 nd_Ref_running_36 ?_
            refine lv_iconst (v := 1) hx hb nd_Ref_running_37 (by decide) ?_
            refine lv_icmp_eq (tgt := 44) hx hb nd_Ref_running_38 (by decide) (fun c_11 => ?_) (fun c_11 => ?_)
            · have c_11t := cr_eq c_11
              rw [if_pos c_11] at hM
              refine lv_iload_n hx hb nd_Ref_running_44 rfl (lv_at hl 2 rfl) ?_
              refine lv_if_ne (tgt := 52) hx hb nd_Ref_running_45 (by decide) (fun c_12 => ?_) (fun c_12 => ?_)
              · have c_12t := cr_ne c_12
                rw [if_neg c_12] at hM
                refine lv_aload_n hx hb nd_Ref_running_52 rfl (lv_at hl 0 rfl) ?_
                refine lv_iload_n hx hb nd_Ref_running_53 rfl (lv_at hl 3 rfl) ?_
                have hPc := hP
                have hDc := hD
                have hFc := va_free (wc := cw_Ref cI cZ cJ arf rf lat ln) hD hS hA [0, 1, 2, 3, 4, 5, 6, 7, 8, 9, 10, 11, 12, 13, 14, 15, 16, 17] rfl
                refine va_calli (va_runV (As := [.int v3_4]) (rest := []) ⟨hx, hb, hml, hown, hts⟩ (ct_Ref_rankNow l dC dI cI cZ cJ arf H.size rf lat ln v3_4 hR_rf (by omega)) (cwV 1 hts (ng_V tw_531 tw_533 tp_25 tw_6 tw_534) rfl rfl rfl (by decide +kernel) ⟨Nat.le_of_ble_eq_true rfl, Nat.le_of_ble_eq_true rfl⟩) ⟨fun a U g mk q => by obtain ⟨q0, q1, qP, qK, qD⟩ := q; exact ⟨q0, q1, qP, va_K.moved (u := U) (U := U.calling g mk a) (Vm.Alike.refl U.vm) qK, qD⟩, va_recv hK hPc (ci := 5) (q0 := 0) rfl rfl, fun U hU hW => ⟨rfl, by rw [hU], by rw [hU]; exact hPc, va_K.moved hW.alike hK, hDc.weaken (fun _ _ _ _ => trivial)⟩⟩ rfl rfl hl.1 rfl (lv_room (Nat.le_of_ble_eq_true rfl)) nd_Ref_running_54 ⟨Nat.zero_le _, Nat.zero_le _⟩) hS (fun q _ h => hFc q h) hFc (fun r_13 u t H1 locs ht hvm hw hB hz1 hk1 hS => ?_)
                obtain ⟨hP1, hK1, hD1⟩ := hB
                rw [ht] at hP1
                have w_14 := hw
                try rw [← w_14] at hM
                have hP := hP1
                have hD := cr_Dw hD1 hFc
                generalize H1 = H at hP hS ⊢
                refine lv_aload_n hx hb nd_Ref_running_57 rfl (lv_at hl 0 rfl) ?_
                refine lv_iload_n hx hb nd_Ref_running_58 rfl (lv_at hl 2 rfl) ?_
                have hPc := hP
                have hDc := hD
                have hFc := va_free (wc := cw_Ref cI cZ cJ arf rf lat ln) hD hS hA [0, 1, 2, 3, 4, 5, 6, 7, 8, 9, 10, 11, 12, 13, 14, 15, 16, 17] rfl
                refine va_calli (va_runV (As := [.int v2_4]) (rest := [.int r_13]) ⟨hx, hb, hml, hown, hts⟩ (ct_Ref_rankNow l dC dI cI cZ cJ arf H.size rf lat ln v2_4 hR_rf (by omega)) (cwV 1 hts (ng_V tw_531 tw_533 tp_25 tw_6 tw_534) rfl rfl rfl (by decide +kernel) ⟨Nat.le_of_ble_eq_true rfl, Nat.le_of_ble_eq_true rfl⟩) ⟨fun a U g mk q => by obtain ⟨q0, q1, qP, qK, qD⟩ := q; exact ⟨q0, q1, qP, va_K.moved (u := U) (U := U.calling g mk a) (Vm.Alike.refl U.vm) qK, qD⟩, va_recv hK hPc (ci := 5) (q0 := 0) rfl rfl, fun U hU hW => ⟨rfl, by rw [hU], by rw [hU]; exact hPc, va_K.moved hW.alike hK, hDc.weaken (fun _ _ _ _ => trivial)⟩⟩ rfl rfl hl.1 rfl (lv_room (Nat.le_of_ble_eq_true rfl)) nd_Ref_running_59 ⟨Nat.zero_le _, Nat.zero_le _⟩) hS (fun q _ h => hFc q h) hFc (fun r_15 u t H1 locs ht hvm hw hB hz1 hk1 hS => ?_)
                obtain ⟨hP1, hK1, hD1⟩ := hB
                rw [ht] at hP1
                have w_16 := hw
                try rw [← w_16] at hM
                have hP := hP1
                have hD := cr_Dw hD1 hFc
                generalize H1 = H at hP hS ⊢
                refine lv_isub hx hb nd_Ref_running_62 ?_
                refine lv_istore (lv' := [(4, .int (r_13 - r_15)), (0, .ref (arf 0)), (1, .int x1), (2, .int v2_4), (3, .int v3_4)]) hx hb nd_Ref_running_63 hl (by decide) rfl (fun ls hl => ?_)
                refine lv_iload hx hb nd_Ref_running_65 (lv_at hl 0 rfl) ?_
                refine lv_if_gt (tgt := 90) hx hb nd_Ref_running_67 (by decide) (fun c_17 => ?_) (fun c_17 => ?_)
                · have c_17t := cr_lt c_17
                  rw [if_pos c_17] at hM
                  refine lv_iload_n hx hb nd_Ref_running_90 rfl (lv_at hl 4 rfl) ?_
                  refine lv_istore_n (lv' := [(2, .int v3_4), (4, .int (r_13 - r_15)), (0, .ref (arf 0)), (1, .int x1), (3, .int v3_4)]) hx hb nd_Ref_running_91 rfl hl (by decide) rfl (fun ls hl => ?_)
                  have e_18 : (v3_4 + (1 : Int32)).toInt = v3_4.toInt + (1 : Int32).toInt := cr_add (by omega)
                  refine lv_iinc (v := (v3_4 + (1 : Int32))) (lv' := [(3, .int (v3_4 + (1 : Int32))), (2, .int v3_4), (4, .int (r_13 - r_15)), (0, .ref (arf 0)), (1, .int x1)]) hx hb nd_Ref_running_92 hl (k := 4) rfl (by rfl) (by decide) rfl (fun ls hl => ?_)
                  refine lv_goto (tgt := 4) hx hb nd_Ref_running_95 (by decide) ?_
                  exact ih_4 v3_4 (v3_4 + (1 : Int32)) (by omega) (by omega) (by omega) hM _ _ hP hD hS _ (lv_sub hl [3, 4, 1, 0] rfl)
                · have c_17t := cr_nlt c_17
                  rw [if_neg c_17] at hM
                  refine lv_iload hx hb nd_Ref_running_70 (lv_at hl 0 rfl) ?_
                  refine lv_if_ne (tgt := 92) hx hb nd_Ref_running_72 (by decide) (fun c_19 => ?_) (fun c_19 => ?_)
                  · have c_19t := cr_ne c_19
                    rw [if_neg c_19] at hM
                    have e_20 : (v3_4 + (1 : Int32)).toInt = v3_4.toInt + (1 : Int32).toInt := cr_add (by omega)
                    refine lv_iinc (v := (v3_4 + (1 : Int32))) (lv' := [(3, .int (v3_4 + (1 : Int32))), (4, .int (r_13 - r_15)), (0, .ref (arf 0)), (1, .int x1), (2, .int v2_4)]) hx hb nd_Ref_running_92 hl (k := 4) rfl (by rfl) (by decide) rfl (fun ls hl => ?_)
                    refine lv_goto (tgt := 4) hx hb nd_Ref_running_95 (by decide) ?_
                    exact ih_4 v2_4 (v3_4 + (1 : Int32)) (by omega) (by omega) (by omega) hM _ _ hP hD hS _ (lv_sub hl [2, 3, 4, 0] rfl)
                  · have c_19t := cr_eq c_19
                    rw [if_pos c_19] at hM
                    refine lv_aload_n hx hb nd_Ref_running_75 rfl (lv_at hl 1 rfl) ?_
                    refine va_get (D := (dC, dI)) (ci := 5) (v := .ref (arf 4)) (C := "CeilingRowsModel") (T := nf_Ref) (N := 22) hx hb hts nin_Ref hown hK hP 0 rfl rfl 4 (by decide) (hts _ tw_417) (fun _ h9 => h9) rfl nd_Ref_running_76 ?_
                    refine lv_iload_n hx hb nd_Ref_running_79 rfl (lv_at hl 4 rfl) ?_
                    have b_21 : vp_in v3_4 11 := vp_in_iff.mpr (by omega)
                    refine va_iald hx hb hK hP 4 0 rfl rfl b_21 nd_Ref_running_80 ?_
                    refine lv_aload_n hx hb nd_Ref_running_81 rfl (lv_at hl 1 rfl) ?_
                    refine va_get (D := (dC, dI)) (ci := 5) (v := .ref (arf 4)) (C := "CeilingRowsModel") (T := nf_Ref) (N := 22) hx hb hts nin_Ref hown hK hP 0 rfl rfl 4 (by decide) (hts _ tw_417) (fun _ h9 => h9) rfl nd_Ref_running_82 ?_
                    refine lv_iload_n hx hb nd_Ref_running_85 rfl (lv_at hl 3 rfl) ?_
                    have b_22 : vp_in v2_4 11 := vp_in_iff.mpr (by omega)
                    refine va_iald hx hb hK hP 4 0 rfl rfl b_22 nd_Ref_running_86 ?_
                    refine lv_icmp_ge (tgt := 92) hx hb nd_Ref_running_87 (by decide) (fun c_23 => ?_) (fun c_23 => ?_)
                    · have c_23t := cr_le c_23
                      rw [if_pos c_23] at hM
                      have e_24 : (v3_4 + (1 : Int32)).toInt = v3_4.toInt + (1 : Int32).toInt := cr_add (by omega)
                      refine lv_iinc (v := (v3_4 + (1 : Int32))) (lv' := [(3, .int (v3_4 + (1 : Int32))), (4, .int (r_13 - r_15)), (0, .ref (arf 0)), (1, .int x1), (2, .int v2_4)]) hx hb nd_Ref_running_92 hl (k := 4) rfl (by rfl) (by decide) rfl (fun ls hl => ?_)
                      refine lv_goto (tgt := 4) hx hb nd_Ref_running_95 (by decide) ?_
                      exact ih_4 v2_4 (v3_4 + (1 : Int32)) (by omega) (by omega) (by omega) hM _ _ hP hD hS _ (lv_sub hl [2, 3, 4, 0] rfl)
                    · have c_23t := cr_nle c_23
                      rw [if_neg c_23] at hM
                      refine lv_iload_n hx hb nd_Ref_running_90 rfl (lv_at hl 4 rfl) ?_
                      refine lv_istore_n (lv' := [(2, .int v3_4), (4, .int (r_13 - r_15)), (0, .ref (arf 0)), (1, .int x1), (3, .int v3_4)]) hx hb nd_Ref_running_91 rfl hl (by decide) rfl (fun ls hl => ?_)
                      have e_25 : (v3_4 + (1 : Int32)).toInt = v3_4.toInt + (1 : Int32).toInt := cr_add (by omega)
                      refine lv_iinc (v := (v3_4 + (1 : Int32))) (lv' := [(3, .int (v3_4 + (1 : Int32))), (2, .int v3_4), (4, .int (r_13 - r_15)), (0, .ref (arf 0)), (1, .int x1)]) hx hb nd_Ref_running_92 hl (k := 4) rfl (by rfl) (by decide) rfl (fun ls hl => ?_)
                      refine lv_goto (tgt := 4) hx hb nd_Ref_running_95 (by decide) ?_
                      exact ih_4 v3_4 (v3_4 + (1 : Int32)) (by omega) (by omega) (by omega) hM _ _ hP hD hS _ (lv_sub hl [3, 4, 1, 0] rfl)
              · have c_12t := cr_eq c_12
                rw [if_pos c_12] at hM
                refine lv_iconst (v := 1) hx hb nd_Ref_running_48 (by decide) ?_
                refine lv_goto (tgt := 63) hx hb nd_Ref_running_49 (by decide) ?_
                refine lv_istore (lv' := [(4, .int (1 : Int32)), (0, .ref (arf 0)), (1, .int x1), (2, .int v2_4), (3, .int v3_4)]) hx hb nd_Ref_running_63 hl (by decide) rfl (fun ls hl => ?_)
                refine lv_iload hx hb nd_Ref_running_65 (lv_at hl 0 rfl) ?_
                refine lv_if_gt (tgt := 90) hx hb nd_Ref_running_67 (by decide) (fun c_26 => ?_) (fun c_26 => ?_)
                · refine lv_iload_n hx hb nd_Ref_running_90 rfl (lv_at hl 4 rfl) ?_
                  refine lv_istore_n (lv' := [(2, .int v3_4), (4, .int (1 : Int32)), (0, .ref (arf 0)), (1, .int x1), (3, .int v3_4)]) hx hb nd_Ref_running_91 rfl hl (by decide) rfl (fun ls hl => ?_)
                  have e_27 : (v3_4 + (1 : Int32)).toInt = v3_4.toInt + (1 : Int32).toInt := cr_add (by omega)
                  refine lv_iinc (v := (v3_4 + (1 : Int32))) (lv' := [(3, .int (v3_4 + (1 : Int32))), (2, .int v3_4), (4, .int (1 : Int32)), (0, .ref (arf 0)), (1, .int x1)]) hx hb nd_Ref_running_92 hl (k := 4) rfl (by rfl) (by decide) rfl (fun ls hl => ?_)
                  refine lv_goto (tgt := 4) hx hb nd_Ref_running_95 (by decide) ?_
                  exact ih_4 v3_4 (v3_4 + (1 : Int32)) (by omega) (by omega) (by omega) hM _ _ hP hD hS _ (lv_sub hl [3, 4, 1, 0] rfl)
                · exact absurd c_26 (by decide)
            · have c_11t := cr_ne c_11
              rw [if_neg c_11] at hM
              refine lv_goto (tgt := 92) hx hb nd_Ref_running_41 (by decide) ?_
              have e_28 : (v3_4 + (1 : Int32)).toInt = v3_4.toInt + (1 : Int32).toInt := cr_add (by omega)
              refine lv_iinc (v := (v3_4 + (1 : Int32))) (lv' := [(3, .int (v3_4 + (1 : Int32))), (0, .ref (arf 0)), (1, .int x1), (2, .int v2_4)]) hx hb nd_Ref_running_92 hl (k := 3) rfl (by rfl) (by decide) rfl (fun ls hl => ?_)
              refine lv_goto (tgt := 4) hx hb nd_Ref_running_95 (by decide) ?_
              exact ih_4 v2_4 (v3_4 + (1 : Int32)) (by omega) (by omega) (by omega) hM _ _ hP hD hS _ (lv_sub hl [1, 2, 3, 0] rfl)
  exact lp_4 11 (0 : Int32) (1 : Int32) (by omega) (by omega) (by omega) hM _ _ hP hD hS _ hl

theorem nd_Ref_runs_0 : decode prog_7_method_11_code 0 = .ok (.aload_n 0, 1) := by decide +kernel
theorem nd_Ref_runs_1 : decode prog_7_method_11_code 1 = .ok (.aload_n 0, 1) := by decide +kernel
theorem nd_Ref_runs_2 : decode prog_7_method_11_code 2 = .ok (.getfield 13, 3) := by decide +kernel
theorem nd_Ref_runs_5 : decode prog_7_method_11_code 5 = .ok (.iload_n 1, 1) := by decide +kernel
theorem nd_Ref_runs_6 : decode prog_7_method_11_code 6 = .ok (.iaload, 1) := by decide +kernel
theorem nd_Ref_runs_7 : decode prog_7_method_11_code 7 = .ok (.invokevirtual 86, 3) := by decide +kernel
theorem nd_Ref_runs_10 : decode prog_7_method_11_code 10 = .ok (.iload_n 1, 1) := by decide +kernel
theorem nd_Ref_runs_11 : decode prog_7_method_11_code 11 = .ok (.if_icmp .ne (7), 3) := by decide +kernel
theorem nd_Ref_runs_14 : decode prog_7_method_11_code 14 = .ok (.iconst 1, 1) := by decide +kernel
theorem nd_Ref_runs_15 : decode prog_7_method_11_code 15 = .ok (.goto (4), 3) := by decide +kernel
theorem nd_Ref_runs_18 : decode prog_7_method_11_code 18 = .ok (.iconst 0, 1) := by decide +kernel
theorem nd_Ref_runs_19 : decode prog_7_method_11_code 19 = .ok (.ireturn, 1) := by decide +kernel
abbrev pq_Ref_runs (dC : Nat → ClassId) (dI : Nat → Nat → Nat) (cI cZ cJ : ClassId) (arf : Nat → Nat) (rf : cr_S) (lat : Int64) (ln : (Nat → Int64)) (x1 : Int32) (A : Nat → Prop) : Array Value → State → Outcome → State → Prop :=
  va_Qi (fun (r : Int32) (_ : Unit) => r = md_Ref_runs rf lat ln x1) (fun (_ : Unit) t => va_P (dC, dI) vwCl (cw_Ref cI cZ cJ arf rf lat ln) t.heap ∧ va_K (dC, dI) vwCl [(cI, .int), (cZ, .boolean), (cJ, .long)] t ∧ va_D A (cw_Ref cI cZ cJ arf rf lat ln)) A
set_option maxHeartbeats 4000000 in
set_option maxRecDepth 100000 in
theorem ct_Ref_runs (l : Launch) (dC : Nat → ClassId) (dI : Nat → Nat → Nat) (cI cZ cJ : ClassId) (arf : Nat → Nat) (sz : Nat) (rf : cr_S) (lat : Int64) (ln : (Nat → Int64)) (x1 : Int32) (hR_rf : cr_RRef rf) (hx1 : 0 ≤ x1.toInt ∧ x1.toInt ≤ 10) : Met l ny_Ref_runs nw_Ref_runs ({ frames := 3, cells := 0, slots := 0, locals := 70 } : Room) (va_Pc [.ref (arf 0), .int x1] (fun U => U.heap.size = sz ∧ va_P (dC, dI) vwCl (cw_Ref cI cZ cJ arf rf lat ln) U.heap ∧ va_K (dC, dI) vwCl [(cI, .int), (cZ, .boolean), (cJ, .long)] U ∧ va_D (fun _ => True) (cw_Ref cI cZ cJ arf rf lat ln))) (pq_Ref_runs dC dI cI cZ cJ arf rf lat ln x1 (va_A (cw_Ref cI cZ cJ arf rf lat ln) sz)) 0 0 (va_A (cw_Ref cI cZ cJ arf rf lat ln) sz) := by
  refine Met.ofW (cc := prog_7_method_11_code) (maxL := 2) (ret := (some .boolean)) (by decide) rfl ?_
  intro p e s m args below meth c s₁ B hml hv
  obtain ⟨rfl, hsz, hP, hK, hD0⟩ := hv
  have hx := B.exec
  have hb := B.bytes
  have hr := B.returns
  have hts0 := atoms_spec (ws := nw_Ref_runs) B.pre
  have hts : ∀ w ∈ ng_tbl, w.before ([.ref (arf 0), .int x1] : List Value).toArray s = true := fun w h => hts0 w (List.mem_cons_of_mem _ h)
  have hown : s.vm.findClass "CeilingRowsModel" = some m.cls := findClass_of_methodNamed B.named
  have hlocks := B.notSynchronized
  subst hsz
  have hD := hD0.self (sz := s.heap.size)
  generalize hAe : va_A (cw_Ref cI cZ cJ arf rf lat ln) s.heap.size = A at hD ⊢
  have hA : ∀ q : Nat, s.heap.size ≤ q → A q := fun q h => by rw [← hAe]; exact Or.inr h
  have hS : va_S A s.heap s.heap [] := va_S.rf
  have hP : va_P (dC, dI) vwCl (cw_Ref cI cZ cJ arf rf lat ln) s.heap := hP
  have hl := lv_entry ([.ref (arf 0), .int x1]) (n := 2) (Nat.le_of_ble_eq_true rfl)
  rw [lg_entry_eq]
  generalize (lg_sl ([.ref (arf 0), .int x1]) ++ List.replicate (2 - (lg_sl ([.ref (arf 0), .int x1])).length) Slot.unset).toArray = ls at hl ⊢
  have hl : lv_has ls 2 [(0, .ref (arf 0)), (1, .int x1)] := hl
  have f0_rf_0 := cr_rfo hR_rf.1
  have f0_rf_1 := cr_rfo hR_rf.2.1
  have k_0 : (0 : Int32).toInt = 0 := by decide
  have k_1 : (1 : Int32).toInt = 1 := by decide
  obtain ⟨tgt, hT⟩ : ∃ z, md_Ref_runs rf lat ln x1 = z := ⟨_, rfl⟩
  have hM := hT
  unfold md_Ref_runs at hM
  refine lv_aload_n hx hb nd_Ref_runs_0 rfl (lv_at hl 0 rfl) ?_
  refine lv_aload_n hx hb nd_Ref_runs_1 rfl (lv_at hl 0 rfl) ?_
  refine va_get (D := (dC, dI)) (ci := 5) (v := .ref (arf 2)) (C := "CeilingRowsModel") (T := nf_Ref) (N := 22) hx hb hts nin_Ref hown hK hP 0 rfl rfl 2 (by decide) (hts _ tw_415) (fun _ h9 => h9) rfl nd_Ref_runs_2 ?_
  refine lv_iload_n hx hb nd_Ref_runs_5 rfl (lv_at hl 1 rfl) ?_
  have b_1 : vp_in x1 11 := vp_in_iff.mpr (by omega)
  refine va_iald hx hb hK hP 2 0 rfl rfl b_1 nd_Ref_runs_6 ?_
  have f_2 := cr_rgo hR_rf.2.2.1 (x1.toNatClampNeg)
  have hPc := hP
  have hDc := hD
  have hFc := va_free (wc := cw_Ref cI cZ cJ arf rf lat ln) hD hS hA [0, 1, 2, 3, 4, 5, 6, 7, 8, 9, 10, 11, 12, 13, 14, 15, 16, 17] rfl
  refine va_calli (va_runV (As := [.int (rf 2 x1.toNatClampNeg)]) (rest := []) ⟨hx, hb, hml, hown, hts⟩ (ct_Ref_running l dC dI cI cZ cJ arf s.heap.size rf lat ln (rf 2 x1.toNatClampNeg) hR_rf (by omega)) (cwV 1 hts (ng_V tw_527 tw_529 tp_24 tw_6 tw_530) rfl rfl rfl (by decide +kernel) ⟨Nat.le_of_ble_eq_true rfl, Nat.le_of_ble_eq_true rfl⟩) ⟨fun a U g mk q => by obtain ⟨q0, q1, qP, qK, qD⟩ := q; exact ⟨q0, q1, qP, va_K.moved (u := U) (U := U.calling g mk a) (Vm.Alike.refl U.vm) qK, qD⟩, va_recv hK hPc (ci := 5) (q0 := 0) rfl rfl, fun U hU hW => ⟨rfl, by rw [hU], by rw [hU]; exact hPc, va_K.moved hW.alike hK, hDc.weaken (fun _ _ _ _ => trivial)⟩⟩ rfl rfl hl.1 rfl (lv_room (Nat.le_of_ble_eq_true rfl)) nd_Ref_runs_7 ⟨Nat.zero_le _, Nat.zero_le _⟩) hS (fun q _ h => hFc q h) hFc (fun r_3 u t H1 locs ht hvm hw hB hz1 hk1 hS => ?_)
  obtain ⟨hP1, hK1, hD1⟩ := hB
  rw [ht] at hP1
  obtain ⟨w_4, f_5⟩ := hw
  try rw [← w_4] at hM
  have hP := hP1
  have hD := cr_Dw hD1 hFc
  generalize H1 = H at hP hS ⊢
  refine lv_iload_n hx hb nd_Ref_runs_10 rfl (lv_at hl 1 rfl) ?_
  refine lv_icmp_ne (tgt := 18) hx hb nd_Ref_runs_11 (by decide) (fun c_6 => ?_) (fun c_6 => ?_)
  · have c_6t := cr_ne c_6
    rw [if_neg c_6] at hM
    refine lv_iconst (v := 0) hx hb nd_Ref_runs_18 (by decide) ?_
    exact W.zret (v := (0 : Int32)) (ty := .boolean) hx hb hr (by decide) (fun t ht hW => ⟨⟨(0 : Int32), (), rfl, by rw [hT, ← hM], by rw [ht]; exact hP, va_K.moved hW.alike hK, hD⟩, hS.F ht⟩) hS.2.2 nd_Ref_runs_19
  · have c_6t := cr_eq c_6
    rw [if_pos c_6] at hM
    refine lv_iconst (v := 1) hx hb nd_Ref_runs_14 (by decide) ?_
    refine lv_goto (tgt := 19) hx hb nd_Ref_runs_15 (by decide) ?_
    exact W.zret (v := (1 : Int32)) (ty := .boolean) hx hb hr (by decide) (fun t ht hW => ⟨⟨(1 : Int32), (), rfl, by rw [hT, ← hM], by rw [ht]; exact hP, va_K.moved hW.alike hK, hD⟩, hS.F ht⟩) hS.2.2 nd_Ref_runs_19

theorem nd_Ref_ready_0 : decode prog_7_method_12_code 0 = .ok (.aload_n 0, 1) := by decide +kernel
theorem nd_Ref_ready_1 : decode prog_7_method_12_code 1 = .ok (.getfield 16, 3) := by decide +kernel
theorem nd_Ref_ready_4 : decode prog_7_method_12_code 4 = .ok (.iload_n 1, 1) := by decide +kernel
theorem nd_Ref_ready_5 : decode prog_7_method_12_code 5 = .ok (.iconst 1, 1) := by decide +kernel
theorem nd_Ref_ready_6 : decode prog_7_method_12_code 6 = .ok (.iastore, 1) := by decide +kernel
theorem nd_Ref_ready_7 : decode prog_7_method_12_code 7 = .ok (.aload_n 0, 1) := by decide +kernel
theorem nd_Ref_ready_8 : decode prog_7_method_12_code 8 = .ok (.dup, 1) := by decide +kernel
theorem nd_Ref_ready_9 : decode prog_7_method_12_code 9 = .ok (.getfield 89, 3) := by decide +kernel
theorem nd_Ref_ready_12 : decode prog_7_method_12_code 12 = .ok (.iconst 1, 1) := by decide +kernel
theorem nd_Ref_ready_13 : decode prog_7_method_12_code 13 = .ok (.iadd, 1) := by decide +kernel
theorem nd_Ref_ready_14 : decode prog_7_method_12_code 14 = .ok (.putfield 89, 3) := by decide +kernel
theorem nd_Ref_ready_17 : decode prog_7_method_12_code 17 = .ok (.aload_n 0, 1) := by decide +kernel
theorem nd_Ref_ready_18 : decode prog_7_method_12_code 18 = .ok (.getfield 19, 3) := by decide +kernel
theorem nd_Ref_ready_21 : decode prog_7_method_12_code 21 = .ok (.iload_n 1, 1) := by decide +kernel
theorem nd_Ref_ready_22 : decode prog_7_method_12_code 22 = .ok (.aload_n 0, 1) := by decide +kernel
theorem nd_Ref_ready_23 : decode prog_7_method_12_code 23 = .ok (.getfield 89, 3) := by decide +kernel
theorem nd_Ref_ready_26 : decode prog_7_method_12_code 26 = .ok (.iastore, 1) := by decide +kernel
theorem nd_Ref_ready_27 : decode prog_7_method_12_code 27 = .ok (.return_, 1) := by decide +kernel
abbrev pq_Ref_ready (dC : Nat → ClassId) (dI : Nat → Nat → Nat) (cI cZ cJ : ClassId) (arf : Nat → Nat) (rf : cr_S) (lat : Int64) (ln : (Nat → Int64)) (x1 : Int32) (A : Nat → Prop) : Array Value → State → Outcome → State → Prop :=
  va_Qv (fun (rf' : cr_S) => rf' = md_Ref_ready rf lat ln x1 ∧ cr_RRef rf') (fun (rf' : cr_S) t => va_P (dC, dI) vwCl (cw_Ref cI cZ cJ arf rf' lat ln) t.heap ∧ va_K (dC, dI) vwCl [(cI, .int), (cZ, .boolean), (cJ, .long)] t ∧ va_D A (cw_Ref cI cZ cJ arf rf' lat ln)) A
set_option maxHeartbeats 4000000 in
set_option maxRecDepth 100000 in
theorem ct_Ref_ready (l : Launch) (dC : Nat → ClassId) (dI : Nat → Nat → Nat) (cI cZ cJ : ClassId) (arf : Nat → Nat) (sz : Nat) (rf : cr_S) (lat : Int64) (ln : (Nat → Int64)) (x1 : Int32) (hR_rf : cr_RRef rf) (hx1 : 0 ≤ x1.toInt ∧ x1.toInt ≤ 10) : Met l ny_Ref_ready nw_Ref_ready ({ frames := 0, cells := 0, slots := 0, locals := 0 } : Room) (va_Pc [.ref (arf 0), .int x1] (fun U => U.heap.size = sz ∧ va_P (dC, dI) vwCl (cw_Ref cI cZ cJ arf rf lat ln) U.heap ∧ va_K (dC, dI) vwCl [(cI, .int), (cZ, .boolean), (cJ, .long)] U ∧ va_D (fun _ => True) (cw_Ref cI cZ cJ arf rf lat ln))) (pq_Ref_ready dC dI cI cZ cJ arf rf lat ln x1 (va_A (cw_Ref cI cZ cJ arf rf lat ln) sz)) 0 0 (va_A (cw_Ref cI cZ cJ arf rf lat ln) sz) := by
  refine Met.ofW (cc := prog_7_method_12_code) (maxL := 2) (ret := none) (by decide) rfl ?_
  intro p e s m args below meth c s₁ B hml hv
  obtain ⟨rfl, hsz, hP, hK, hD0⟩ := hv
  have hx := B.exec
  have hb := B.bytes
  have hr := B.returns
  have hts0 := atoms_spec (ws := nw_Ref_ready) B.pre
  have hts : ∀ w ∈ ng_tbl, w.before ([.ref (arf 0), .int x1] : List Value).toArray s = true := fun w h => hts0 w (List.mem_cons_of_mem _ h)
  have hown : s.vm.findClass "CeilingRowsModel" = some m.cls := findClass_of_methodNamed B.named
  have hlocks := B.notSynchronized
  subst hsz
  have hD := hD0.self (sz := s.heap.size)
  generalize hAe : va_A (cw_Ref cI cZ cJ arf rf lat ln) s.heap.size = A at hD ⊢
  have hA : ∀ q : Nat, s.heap.size ≤ q → A q := fun q h => by rw [← hAe]; exact Or.inr h
  have hS : va_S A s.heap s.heap [] := va_S.rf
  have hP : va_P (dC, dI) vwCl (cw_Ref cI cZ cJ arf rf lat ln) s.heap := hP
  have hl := lv_entry ([.ref (arf 0), .int x1]) (n := 2) (Nat.le_of_ble_eq_true rfl)
  rw [lg_entry_eq]
  generalize (lg_sl ([.ref (arf 0), .int x1]) ++ List.replicate (2 - (lg_sl ([.ref (arf 0), .int x1])).length) Slot.unset).toArray = ls at hl ⊢
  have hl : lv_has ls 2 [(0, .ref (arf 0)), (1, .int x1)] := hl
  have f0_rf_0 := cr_rfo hR_rf.1
  have f0_rf_1 := cr_rfo hR_rf.2.1
  have k_1 : (1 : Int32).toInt = 1 := by decide
  obtain ⟨tgt, hT⟩ : ∃ z, md_Ref_ready rf lat ln x1 = z := ⟨_, rfl⟩
  have hM := hT
  unfold md_Ref_ready at hM
  refine lv_aload_n hx hb nd_Ref_ready_0 rfl (lv_at hl 0 rfl) ?_
  refine va_get (D := (dC, dI)) (ci := 5) (v := .ref (arf 3)) (C := "CeilingRowsModel") (T := nf_Ref) (N := 22) hx hb hts nin_Ref hown hK hP 0 rfl rfl 3 (by decide) (hts _ tw_416) (fun _ h9 => h9) rfl nd_Ref_ready_1 ?_
  refine lv_iload_n hx hb nd_Ref_ready_4 rfl (lv_at hl 1 rfl) ?_
  refine lv_iconst (v := 1) hx hb nd_Ref_ready_5 (by decide) ?_
  have b_1 : vp_in x1 11 := vp_in_iff.mpr (by omega)
  refine va_iast hx hb hK hP hD hS 3 0 rfl rfl b_1 nd_Ref_ready_6 (fun H locs hP hD hS => ?_)
  have hP : va_P (dC, dI) vwCl (cw_Ref cI cZ cJ arf (cr_up rf 3 x1.toNatClampNeg (1 : Int32)) lat ln) H := hP
  have hD : va_D A (cw_Ref cI cZ cJ arf (cr_up rf 3 x1.toNatClampNeg (1 : Int32)) lat ln) := hD
  have hR_2 : cr_RRef (cr_up rf 3 x1.toNatClampNeg (1 : Int32)) := ⟨cr_rf_up hR_rf.1 (fun e _ => absurd e (by decide)), cr_rf_up hR_rf.2.1 (fun e _ => absurd e (by decide)), cr_rg_up hR_rf.2.2.1 (fun e => absurd e (by decide)), cr_rg_up hR_rf.2.2.2.1 (fun e => absurd e (by decide)), cr_rg_up hR_rf.2.2.2.2.1 (fun e => absurd e (by decide)), cr_rh_up hR_rf.2.2.2.2.2 (fun e => absurd e (by decide))⟩
  obtain ⟨rfq_3, hrfq_3⟩ : ∃ z, (cr_up rf 3 x1.toNatClampNeg (1 : Int32)) = z := ⟨_, rfl⟩
  rw [hrfq_3] at hP hD hR_2
  try rw [hrfq_3] at hM
  refine lv_aload_n hx hb nd_Ref_ready_7 rfl (lv_at hl 0 rfl) ?_
  refine lv_dup hx hb nd_Ref_ready_8 rfl ?_
  refine va_get (D := (dC, dI)) (ci := 5) (v := .int (rfq_3 0 1)) (C := "CeilingRowsModel") (T := nf_Ref) (N := 22) hx hb hts nin_Ref hown hK hP 0 rfl rfl 5 (by decide) (hts _ tw_418) (fun _ h9 => h9) rfl nd_Ref_ready_9 ?_
  refine lv_iconst (v := 1) hx hb nd_Ref_ready_12 (by decide) ?_
  refine lv_iadd hx hb nd_Ref_ready_13 ?_
  refine va_put (D := (dC, dI)) (ci := 5) (v := .int ((rfq_3 0 1) + (1 : Int32))) (ty := .int) (C := "CeilingRowsModel") (T := nf_Ref) (N := 22) hx hb hts nin_Ref nt_Ref nto_Ref nno_Ref hown hK hP hD hS 0 rfl rfl 5 (by decide) (hts _ tw_418) (fun _ h9 => h9) rfl (by decide +kernel) rfl rfl (Nat.le_of_ble_eq_true rfl) nd_Ref_ready_14 (fun H locs hP hD hS => ?_)
  have hP : va_P (dC, dI) vwCl (cw_Ref cI cZ cJ arf (cr_up rfq_3 0 1 ((rfq_3 0 1) + (1 : Int32))) lat ln) H := hP
  have hD : va_D A (cw_Ref cI cZ cJ arf (cr_up rfq_3 0 1 ((rfq_3 0 1) + (1 : Int32))) lat ln) := hD
  have hR_4 : cr_RRef (cr_up rfq_3 0 1 ((rfq_3 0 1) + (1 : Int32))) := ⟨cr_rf_up hR_2.1 (fun _ e => absurd e (by decide)), cr_rf_up hR_2.2.1 (fun _ e => absurd e (by decide)), cr_rg_up hR_2.2.2.1 (fun e => absurd e (by decide)), cr_rg_up hR_2.2.2.2.1 (fun e => absurd e (by decide)), cr_rg_up hR_2.2.2.2.2.1 (fun e => absurd e (by decide)), cr_rh_up hR_2.2.2.2.2.2 (fun e => absurd e (by decide))⟩
  obtain ⟨rfq_5, hrfq_5⟩ : ∃ z, (cr_up rfq_3 0 1 ((rfq_3 0 1) + (1 : Int32))) = z := ⟨_, rfl⟩
  rw [hrfq_5] at hP hD hR_4
  try rw [hrfq_5] at hM
  refine lv_aload_n hx hb nd_Ref_ready_17 rfl (lv_at hl 0 rfl) ?_
  refine va_get (D := (dC, dI)) (ci := 5) (v := .ref (arf 4)) (C := "CeilingRowsModel") (T := nf_Ref) (N := 22) hx hb hts nin_Ref hown hK hP 0 rfl rfl 4 (by decide) (hts _ tw_417) (fun _ h9 => h9) rfl nd_Ref_ready_18 ?_
  refine lv_iload_n hx hb nd_Ref_ready_21 rfl (lv_at hl 1 rfl) ?_
  refine lv_aload_n hx hb nd_Ref_ready_22 rfl (lv_at hl 0 rfl) ?_
  refine va_get (D := (dC, dI)) (ci := 5) (v := .int (rfq_5 0 1)) (C := "CeilingRowsModel") (T := nf_Ref) (N := 22) hx hb hts nin_Ref hown hK hP 0 rfl rfl 5 (by decide) (hts _ tw_418) (fun _ h9 => h9) rfl nd_Ref_ready_23 ?_
  have b_6 : vp_in x1 11 := vp_in_iff.mpr (by omega)
  refine va_iast hx hb hK hP hD hS 4 0 rfl rfl b_6 nd_Ref_ready_26 (fun H locs hP hD hS => ?_)
  have hP : va_P (dC, dI) vwCl (cw_Ref cI cZ cJ arf (cr_up rfq_5 4 x1.toNatClampNeg (rfq_5 0 1)) lat ln) H := hP
  have hD : va_D A (cw_Ref cI cZ cJ arf (cr_up rfq_5 4 x1.toNatClampNeg (rfq_5 0 1)) lat ln) := hD
  have hR_7 : cr_RRef (cr_up rfq_5 4 x1.toNatClampNeg (rfq_5 0 1)) := ⟨cr_rf_up hR_4.1 (fun e _ => absurd e (by decide)), cr_rf_up hR_4.2.1 (fun e _ => absurd e (by decide)), cr_rg_up hR_4.2.2.1 (fun e => absurd e (by decide)), cr_rg_up hR_4.2.2.2.1 (fun e => absurd e (by decide)), cr_rg_up hR_4.2.2.2.2.1 (fun e => absurd e (by decide)), cr_rh_up hR_4.2.2.2.2.2 (fun e => absurd e (by decide))⟩
  obtain ⟨rfq_8, hrfq_8⟩ : ∃ z, (cr_up rfq_5 4 x1.toNatClampNeg (rfq_5 0 1)) = z := ⟨_, rfl⟩
  rw [hrfq_8] at hP hD hR_7
  try rw [hrfq_8] at hM
  exact W.vret hx hb hr (fun t ht hW => ⟨⟨rfq_8, rfl, ⟨by rw [hT, ← hM], hR_7⟩, by rw [ht]; exact hP, va_K.moved hW.alike hK, hD⟩, hS.F ht⟩) hS.2.2 nd_Ref_ready_27

theorem nd_Ref_last_0 : decode prog_7_method_13_code 0 = .ok (.iconst 0, 1) := by decide +kernel
theorem nd_Ref_last_1 : decode prog_7_method_13_code 1 = .ok (.istore_n 2, 1) := by decide +kernel
theorem nd_Ref_last_2 : decode prog_7_method_13_code 2 = .ok (.iconst 1, 1) := by decide +kernel
theorem nd_Ref_last_3 : decode prog_7_method_13_code 3 = .ok (.istore_n 3, 1) := by decide +kernel
theorem nd_Ref_last_4 : decode prog_7_method_13_code 4 = .ok (.iload_n 3, 1) := by decide +kernel
theorem nd_Ref_last_5 : decode prog_7_method_13_code 5 = .ok (.aload_n 0, 1) := by decide +kernel
theorem nd_Ref_last_6 : decode prog_7_method_13_code 6 = .ok (.getfield 67, 3) := by decide +kernel
theorem nd_Ref_last_9 : decode prog_7_method_13_code 9 = .ok (.if_icmp .gt (40), 3) := by decide +kernel
theorem nd_Ref_last_12 : decode prog_7_method_13_code 12 = .ok (.aload_n 0, 1) := by decide +kernel
theorem nd_Ref_last_13 : decode prog_7_method_13_code 13 = .ok (.getfield 30, 3) := by decide +kernel
theorem nd_Ref_last_16 : decode prog_7_method_13_code 16 = .ok (.iload_n 3, 1) := by decide +kernel
theorem nd_Ref_last_17 : decode prog_7_method_13_code 17 = .ok (.iaload, 1) := by decide +kernel
theorem nd_Ref_last_18 : decode prog_7_method_13_code 18 = .ok (.iload_n 1, 1) := by decide +kernel
theorem nd_Ref_last_19 : decode prog_7_method_13_code 19 = .ok (.if_icmp .ne (24), 3) := by decide +kernel
theorem nd_Ref_last_22 : decode prog_7_method_13_code 22 = .ok (.iload_n 2, 1) := by decide +kernel
theorem nd_Ref_last_23 : decode prog_7_method_13_code 23 = .ok (.ifCond .eq (18), 3) := by decide +kernel
theorem nd_Ref_last_26 : decode prog_7_method_13_code 26 = .ok (.aload_n 0, 1) := by decide +kernel
theorem nd_Ref_last_27 : decode prog_7_method_13_code 27 = .ok (.getfield 33, 3) := by decide +kernel
theorem nd_Ref_last_30 : decode prog_7_method_13_code 30 = .ok (.iload_n 3, 1) := by decide +kernel
theorem nd_Ref_last_31 : decode prog_7_method_13_code 31 = .ok (.iaload, 1) := by decide +kernel
theorem nd_Ref_last_32 : decode prog_7_method_13_code 32 = .ok (.aload_n 0, 1) := by decide +kernel
theorem nd_Ref_last_33 : decode prog_7_method_13_code 33 = .ok (.getfield 33, 3) := by decide +kernel
theorem nd_Ref_last_36 : decode prog_7_method_13_code 36 = .ok (.iload_n 2, 1) := by decide +kernel
theorem nd_Ref_last_37 : decode prog_7_method_13_code 37 = .ok (.iaload, 1) := by decide +kernel
theorem nd_Ref_last_38 : decode prog_7_method_13_code 38 = .ok (.if_icmp .le (5), 3) := by decide +kernel
theorem nd_Ref_last_41 : decode prog_7_method_13_code 41 = .ok (.iload_n 3, 1) := by decide +kernel
theorem nd_Ref_last_42 : decode prog_7_method_13_code 42 = .ok (.istore_n 2, 1) := by decide +kernel
theorem nd_Ref_last_43 : decode prog_7_method_13_code 43 = .ok (.iinc 3 1, 3) := by decide +kernel
theorem nd_Ref_last_46 : decode prog_7_method_13_code 46 = .ok (.goto (-42), 3) := by decide +kernel
theorem nd_Ref_last_49 : decode prog_7_method_13_code 49 = .ok (.iload_n 2, 1) := by decide +kernel
theorem nd_Ref_last_50 : decode prog_7_method_13_code 50 = .ok (.ireturn, 1) := by decide +kernel
abbrev pq_Ref_last (dC : Nat → ClassId) (dI : Nat → Nat → Nat) (cI cZ cJ : ClassId) (arf : Nat → Nat) (rf : cr_S) (lat : Int64) (ln : (Nat → Int64)) (x1 : Int32) (A : Nat → Prop) : Array Value → State → Outcome → State → Prop :=
  va_Qi (fun (r : Int32) (_ : Unit) => r = md_Ref_last rf lat ln x1 ∧ (0 ≤ r.toInt ∧ r.toInt ≤ 8)) (fun (_ : Unit) t => va_P (dC, dI) vwCl (cw_Ref cI cZ cJ arf rf lat ln) t.heap ∧ va_K (dC, dI) vwCl [(cI, .int), (cZ, .boolean), (cJ, .long)] t ∧ va_D A (cw_Ref cI cZ cJ arf rf lat ln)) A
set_option maxHeartbeats 4000000 in
set_option maxRecDepth 100000 in
theorem ct_Ref_last (l : Launch) (dC : Nat → ClassId) (dI : Nat → Nat → Nat) (cI cZ cJ : ClassId) (arf : Nat → Nat) (sz : Nat) (rf : cr_S) (lat : Int64) (ln : (Nat → Int64)) (x1 : Int32) (hR_rf : cr_RRef rf) : Met l ny_Ref_last nw_Ref_last ({ frames := 0, cells := 0, slots := 0, locals := 0 } : Room) (va_Pc [.ref (arf 0), .int x1] (fun U => U.heap.size = sz ∧ va_P (dC, dI) vwCl (cw_Ref cI cZ cJ arf rf lat ln) U.heap ∧ va_K (dC, dI) vwCl [(cI, .int), (cZ, .boolean), (cJ, .long)] U ∧ va_D (fun _ => True) (cw_Ref cI cZ cJ arf rf lat ln))) (pq_Ref_last dC dI cI cZ cJ arf rf lat ln x1 (va_A (cw_Ref cI cZ cJ arf rf lat ln) sz)) 0 0 (va_A (cw_Ref cI cZ cJ arf rf lat ln) sz) := by
  refine Met.ofW (cc := prog_7_method_13_code) (maxL := 4) (ret := (some .int)) (by decide) rfl ?_
  intro p e s m args below meth c s₁ B hml hv
  obtain ⟨rfl, hsz, hP, hK, hD0⟩ := hv
  have hx := B.exec
  have hb := B.bytes
  have hr := B.returns
  have hts0 := atoms_spec (ws := nw_Ref_last) B.pre
  have hts : ∀ w ∈ ng_tbl, w.before ([.ref (arf 0), .int x1] : List Value).toArray s = true := fun w h => hts0 w (List.mem_cons_of_mem _ h)
  have hown : s.vm.findClass "CeilingRowsModel" = some m.cls := findClass_of_methodNamed B.named
  have hlocks := B.notSynchronized
  subst hsz
  have hD := hD0.self (sz := s.heap.size)
  generalize hAe : va_A (cw_Ref cI cZ cJ arf rf lat ln) s.heap.size = A at hD ⊢
  have hA : ∀ q : Nat, s.heap.size ≤ q → A q := fun q h => by rw [← hAe]; exact Or.inr h
  have hS : va_S A s.heap s.heap [] := va_S.rf
  have hP : va_P (dC, dI) vwCl (cw_Ref cI cZ cJ arf rf lat ln) s.heap := hP
  have hl := lv_entry ([.ref (arf 0), .int x1]) (n := 4) (Nat.le_of_ble_eq_true rfl)
  rw [lg_entry_eq]
  generalize (lg_sl ([.ref (arf 0), .int x1]) ++ List.replicate (4 - (lg_sl ([.ref (arf 0), .int x1])).length) Slot.unset).toArray = ls at hl ⊢
  have hl : lv_has ls 4 [(0, .ref (arf 0)), (1, .int x1)] := hl
  have f0_rf_0 := cr_rfo hR_rf.1
  have f0_rf_1 := cr_rfo hR_rf.2.1
  have k_0 : (0 : Int32).toInt = 0 := by decide
  have k_1 : (1 : Int32).toInt = 1 := by decide
  obtain ⟨tgt, hT⟩ : ∃ z, md_Ref_last rf lat ln x1 = z := ⟨_, rfl⟩
  have hM := hT
  unfold md_Ref_last at hM
  refine lv_iconst (v := 0) hx hb nd_Ref_last_0 (by decide) ?_
  refine lv_istore_n (lv' := [(2, .int (0 : Int32)), (0, .ref (arf 0)), (1, .int x1)]) hx hb nd_Ref_last_1 rfl hl (by decide) rfl (fun ls hl => ?_)
  refine lv_iconst (v := 1) hx hb nd_Ref_last_2 (by decide) ?_
  refine lv_istore_n (lv' := [(3, .int (1 : Int32)), (2, .int (0 : Int32)), (0, .ref (arf 0)), (1, .int x1)]) hx hb nd_Ref_last_3 rfl hl (by decide) rfl (fun ls hl => ?_)
  have hl := lv_sub hl [2, 3, 1, 0] rfl
  have lp_4 : ∀ (n_4 : Nat) (v2_4 : Int32) (v3_4 : Int32), (1 ≤ v3_4.toInt ∧ v3_4.toInt ≤ 9) → (0 ≤ v2_4.toInt ∧ v2_4.toInt ≤ 8) → (9 < v3_4.toInt + (n_4 : Int)) → lo_Ref_last_4 rf lat ln x1 n_4 v2_4 v3_4 = tgt → ∀ (H : Heap) (locs : List Loc), va_P (dC, dI) vwCl (cw_Ref cI cZ cJ arf rf lat ln) H → va_D A (cw_Ref cI cZ cJ arf rf lat ln) → va_S A s.heap H locs → ∀ ls : Array Slot, lv_has ls 4 [(0, .ref (arf 0)), (1, .int x1), (2, .int v2_4), (3, .int v3_4)] → W p l e (headSpec nw_Ref_last ({ frames := 0, cells := 0, slots := 0, locals := 0 } : Room)).room s m ([.ref (arf 0), .int x1] : List Value).toArray below meth c H locs 0 0 (MQ below (pq_Ref_last dC dI cI cZ cJ arf rf lat ln x1 A) ([.ref (arf 0), .int x1] : List Value).toArray s 0 0 A) (F0 m 4 ls []) := by
    intro n_4
    induction n_4 with
    | zero =>
      intro v2_4 v3_4 hv3_4 hv2_4 hn_4
      exfalso; omega
    | succ n_4 ih_4 =>
      intro v2_4 v3_4 hv3_4 hv2_4 hn_4 hM H locs hP hD hS ls hl
      have hn_4 : 9 < v3_4.toInt + ((n_4 : Int) + 1) := by omega
      rw [lo_Ref_last_4] at hM
      refine lv_iload_n hx hb nd_Ref_last_4 rfl (lv_at hl 3 rfl) ?_
      refine lv_aload_n hx hb nd_Ref_last_5 rfl (lv_at hl 0 rfl) ?_
      refine va_get (D := (dC, dI)) (ci := 5) (v := .int (rf 0 2)) (C := "CeilingRowsModel") (T := nf_Ref) (N := 22) hx hb hts nin_Ref hown hK hP 0 rfl rfl 7 (by decide) (hts _ tw_420) (fun _ h9 => h9) rfl nd_Ref_last_6 ?_
      have f_1 := cr_rfo hR_rf.2.1
      refine lv_icmp_gt (tgt := 49) hx hb nd_Ref_last_9 (by decide) (fun c_2 => ?_) (fun c_2 => ?_)
      · have c_2t := cr_lt c_2
        rw [if_pos c_2] at hM
        refine lv_iload_n hx hb nd_Ref_last_49 rfl (lv_at hl 2 rfl) ?_
        exact W.iret (v := v2_4) hx hb hr (fun t ht hW => ⟨⟨v2_4, (), rfl, ⟨by rw [hT, ← hM], by omega⟩, by rw [ht]; exact hP, va_K.moved hW.alike hK, hD⟩, hS.F ht⟩) hS.2.2 nd_Ref_last_50
      · have c_2t := cr_nlt c_2
        rw [if_neg c_2] at hM
        refine lv_aload_n hx hb nd_Ref_last_12 rfl (lv_at hl 0 rfl) ?_
        refine va_get (D := (dC, dI)) (ci := 5) (v := .ref (arf 7)) (C := "CeilingRowsModel") (T := nf_Ref) (N := 22) hx hb hts nin_Ref hown hK hP 0 rfl rfl 9 (by decide) (hts _ tw_422) (fun _ h9 => h9) rfl nd_Ref_last_13 ?_
        refine lv_iload_n hx hb nd_Ref_last_16 rfl (lv_at hl 3 rfl) ?_
        have b_3 : vp_in v3_4 9 := vp_in_iff.mpr (by omega)
        refine va_iald hx hb hK hP 7 0 rfl rfl b_3 nd_Ref_last_17 ?_
        refine lv_iload_n hx hb nd_Ref_last_18 rfl (lv_at hl 1 rfl) ?_
        refine lv_icmp_ne (tgt := 43) hx hb nd_Ref_last_19 (by decide) (fun c_4 => ?_) (fun c_4 => ?_)
        · have c_4t := cr_ne c_4
          rw [if_neg c_4] at hM
          have e_5 : (v3_4 + (1 : Int32)).toInt = v3_4.toInt + (1 : Int32).toInt := cr_add (by omega)
          refine lv_iinc (v := (v3_4 + (1 : Int32))) (lv' := [(3, .int (v3_4 + (1 : Int32))), (0, .ref (arf 0)), (1, .int x1), (2, .int v2_4)]) hx hb nd_Ref_last_43 hl (k := 3) rfl (by rfl) (by decide) rfl (fun ls hl => ?_)
          refine lv_goto (tgt := 4) hx hb nd_Ref_last_46 (by decide) ?_
          exact ih_4 v2_4 (v3_4 + (1 : Int32)) (by omega) (by omega) (by omega) hM _ _ hP hD hS _ (lv_sub hl [1, 2, 3, 0] rfl)
        · have c_4t := cr_eq c_4
          rw [if_pos c_4] at hM
          refine lv_iload_n hx hb nd_Ref_last_22 rfl (lv_at hl 2 rfl) ?_
          refine lv_if_eq (tgt := 41) hx hb nd_Ref_last_23 (by decide) (fun c_6 => ?_) (fun c_6 => ?_)
          · have c_6t := cr_eq c_6
            rw [if_pos c_6] at hM
            refine lv_iload_n hx hb nd_Ref_last_41 rfl (lv_at hl 3 rfl) ?_
            refine lv_istore_n (lv' := [(2, .int v3_4), (0, .ref (arf 0)), (1, .int x1), (3, .int v3_4)]) hx hb nd_Ref_last_42 rfl hl (by decide) rfl (fun ls hl => ?_)
            have e_7 : (v3_4 + (1 : Int32)).toInt = v3_4.toInt + (1 : Int32).toInt := cr_add (by omega)
            refine lv_iinc (v := (v3_4 + (1 : Int32))) (lv' := [(3, .int (v3_4 + (1 : Int32))), (2, .int v3_4), (0, .ref (arf 0)), (1, .int x1)]) hx hb nd_Ref_last_43 hl (k := 3) rfl (by rfl) (by decide) rfl (fun ls hl => ?_)
            refine lv_goto (tgt := 4) hx hb nd_Ref_last_46 (by decide) ?_
            exact ih_4 v3_4 (v3_4 + (1 : Int32)) (by omega) (by omega) (by omega) hM _ _ hP hD hS _ (lv_sub hl [2, 3, 1, 0] rfl)
          · have c_6t := cr_ne c_6
            rw [if_neg c_6] at hM
            refine lv_aload_n hx hb nd_Ref_last_26 rfl (lv_at hl 0 rfl) ?_
            refine va_get (D := (dC, dI)) (ci := 5) (v := .ref (arf 8)) (C := "CeilingRowsModel") (T := nf_Ref) (N := 22) hx hb hts nin_Ref hown hK hP 0 rfl rfl 10 (by decide) (hts _ tw_423) (fun _ h9 => h9) rfl nd_Ref_last_27 ?_
            refine lv_iload_n hx hb nd_Ref_last_30 rfl (lv_at hl 3 rfl) ?_
            have b_8 : vp_in v3_4 9 := vp_in_iff.mpr (by omega)
            refine va_iald hx hb hK hP 8 0 rfl rfl b_8 nd_Ref_last_31 ?_
            refine lv_aload_n hx hb nd_Ref_last_32 rfl (lv_at hl 0 rfl) ?_
            refine va_get (D := (dC, dI)) (ci := 5) (v := .ref (arf 8)) (C := "CeilingRowsModel") (T := nf_Ref) (N := 22) hx hb hts nin_Ref hown hK hP 0 rfl rfl 10 (by decide) (hts _ tw_423) (fun _ h9 => h9) rfl nd_Ref_last_33 ?_
            refine lv_iload_n hx hb nd_Ref_last_36 rfl (lv_at hl 2 rfl) ?_
            have b_9 : vp_in v2_4 9 := vp_in_iff.mpr (by omega)
            refine va_iald hx hb hK hP 8 0 rfl rfl b_9 nd_Ref_last_37 ?_
            refine lv_icmp_le (tgt := 43) hx hb nd_Ref_last_38 (by decide) (fun c_10 => ?_) (fun c_10 => ?_)
            · have c_10t := cr_le c_10
              rw [if_pos c_10] at hM
              have e_11 : (v3_4 + (1 : Int32)).toInt = v3_4.toInt + (1 : Int32).toInt := cr_add (by omega)
              refine lv_iinc (v := (v3_4 + (1 : Int32))) (lv' := [(3, .int (v3_4 + (1 : Int32))), (0, .ref (arf 0)), (1, .int x1), (2, .int v2_4)]) hx hb nd_Ref_last_43 hl (k := 3) rfl (by rfl) (by decide) rfl (fun ls hl => ?_)
              refine lv_goto (tgt := 4) hx hb nd_Ref_last_46 (by decide) ?_
              exact ih_4 v2_4 (v3_4 + (1 : Int32)) (by omega) (by omega) (by omega) hM _ _ hP hD hS _ (lv_sub hl [1, 2, 3, 0] rfl)
            · have c_10t := cr_nle c_10
              rw [if_neg c_10] at hM
              refine lv_iload_n hx hb nd_Ref_last_41 rfl (lv_at hl 3 rfl) ?_
              refine lv_istore_n (lv' := [(2, .int v3_4), (0, .ref (arf 0)), (1, .int x1), (3, .int v3_4)]) hx hb nd_Ref_last_42 rfl hl (by decide) rfl (fun ls hl => ?_)
              have e_12 : (v3_4 + (1 : Int32)).toInt = v3_4.toInt + (1 : Int32).toInt := cr_add (by omega)
              refine lv_iinc (v := (v3_4 + (1 : Int32))) (lv' := [(3, .int (v3_4 + (1 : Int32))), (2, .int v3_4), (0, .ref (arf 0)), (1, .int x1)]) hx hb nd_Ref_last_43 hl (k := 3) rfl (by rfl) (by decide) rfl (fun ls hl => ?_)
              refine lv_goto (tgt := 4) hx hb nd_Ref_last_46 (by decide) ?_
              exact ih_4 v3_4 (v3_4 + (1 : Int32)) (by omega) (by omega) (by omega) hM _ _ hP hD hS _ (lv_sub hl [2, 3, 1, 0] rfl)
  exact lp_4 9 (0 : Int32) (1 : Int32) (by omega) (by omega) (by omega) hM _ _ hP hD hS _ hl
