theorem nd_Ref_tickOf_0 : decode prog_7_method_25_code 0 = .ok (.iload_n 2, 1) := by decide +kernel
theorem nd_Ref_tickOf_1 : decode prog_7_method_25_code 1 = .ok (.istore_n 3, 1) := by decide +kernel
theorem nd_Ref_tickOf_2 : decode prog_7_method_25_code 2 = .ok (.iload_n 3, 1) := by decide +kernel
theorem nd_Ref_tickOf_3 : decode prog_7_method_25_code 3 = .ok (.ifCond .ne (5), 3) := by decide +kernel
theorem nd_Ref_tickOf_6 : decode prog_7_method_25_code 6 = .ok (.iconst 0, 1) := by decide +kernel
theorem nd_Ref_tickOf_7 : decode prog_7_method_25_code 7 = .ok (.ireturn, 1) := by decide +kernel
theorem nd_Ref_tickOf_8 : decode prog_7_method_25_code 8 = .ok (.iinc 3 (-1), 3) := by decide +kernel
theorem nd_Ref_tickOf_11 : decode prog_7_method_25_code 11 = .ok (.iconst 1, 1) := by decide +kernel
theorem nd_Ref_tickOf_12 : decode prog_7_method_25_code 12 = .ok (.istore 4, 2) := by decide +kernel
theorem nd_Ref_tickOf_14 : decode prog_7_method_25_code 14 = .ok (.iload 4, 2) := by decide +kernel
theorem nd_Ref_tickOf_16 : decode prog_7_method_25_code 16 = .ok (.aload_n 0, 1) := by decide +kernel
theorem nd_Ref_tickOf_17 : decode prog_7_method_25_code 17 = .ok (.getfield 67, 3) := by decide +kernel
theorem nd_Ref_tickOf_20 : decode prog_7_method_25_code 20 = .ok (.if_icmp .gt (91), 3) := by decide +kernel
theorem nd_Ref_tickOf_23 : decode prog_7_method_25_code 23 = .ok (.aload_n 0, 1) := by decide +kernel
theorem nd_Ref_tickOf_24 : decode prog_7_method_25_code 24 = .ok (.getfield 26, 3) := by decide +kernel
theorem nd_Ref_tickOf_27 : decode prog_7_method_25_code 27 = .ok (.bipush 9, 2) := by decide +kernel
theorem nd_Ref_tickOf_29 : decode prog_7_method_25_code 29 = .ok (.iload_n 1, 1) := by decide +kernel
theorem nd_Ref_tickOf_30 : decode prog_7_method_25_code 30 = .ok (.imul, 1) := by decide +kernel
theorem nd_Ref_tickOf_31 : decode prog_7_method_25_code 31 = .ok (.iload 4, 2) := by decide +kernel
theorem nd_Ref_tickOf_33 : decode prog_7_method_25_code 33 = .ok (.iadd, 1) := by decide +kernel
theorem nd_Ref_tickOf_34 : decode prog_7_method_25_code 34 = .ok (.laload, 1) := by decide +kernel
theorem nd_Ref_tickOf_35 : decode prog_7_method_25_code 35 = .ok (.lconst 0, 1) := by decide +kernel
theorem nd_Ref_tickOf_36 : decode prog_7_method_25_code 36 = .ok (.lcmp, 1) := by decide +kernel
theorem nd_Ref_tickOf_37 : decode prog_7_method_25_code 37 = .ok (.ifCond .ne (6), 3) := by decide +kernel
theorem nd_Ref_tickOf_40 : decode prog_7_method_25_code 40 = .ok (.goto (65), 3) := by decide +kernel
theorem nd_Ref_tickOf_43 : decode prog_7_method_25_code 43 = .ok (.aload_n 0, 1) := by decide +kernel
theorem nd_Ref_tickOf_44 : decode prog_7_method_25_code 44 = .ok (.getfield 26, 3) := by decide +kernel
theorem nd_Ref_tickOf_47 : decode prog_7_method_25_code 47 = .ok (.bipush 9, 2) := by decide +kernel
theorem nd_Ref_tickOf_49 : decode prog_7_method_25_code 49 = .ok (.iload_n 1, 1) := by decide +kernel
theorem nd_Ref_tickOf_50 : decode prog_7_method_25_code 50 = .ok (.imul, 1) := by decide +kernel
theorem nd_Ref_tickOf_51 : decode prog_7_method_25_code 51 = .ok (.iload 4, 2) := by decide +kernel
theorem nd_Ref_tickOf_53 : decode prog_7_method_25_code 53 = .ok (.iadd, 1) := by decide +kernel
theorem nd_Ref_tickOf_54 : decode prog_7_method_25_code 54 = .ok (.laload, 1) := by decide +kernel
theorem nd_Ref_tickOf_55 : decode prog_7_method_25_code 55 = .ok (.ldc2_w 128, 3) := by decide +kernel
theorem nd_Ref_tickOf_58 : decode prog_7_method_25_code 58 = .ok (.lcmp, 1) := by decide +kernel
theorem nd_Ref_tickOf_59 : decode prog_7_method_25_code 59 = .ok (.ifCond .ge (19), 3) := by decide +kernel
theorem nd_Ref_tickOf_62 : decode prog_7_method_25_code 62 = .ok (.aload_n 0, 1) := by decide +kernel
theorem nd_Ref_tickOf_63 : decode prog_7_method_25_code 63 = .ok (.getfield 26, 3) := by decide +kernel
theorem nd_Ref_tickOf_66 : decode prog_7_method_25_code 66 = .ok (.bipush 9, 2) := by decide +kernel
theorem nd_Ref_tickOf_68 : decode prog_7_method_25_code 68 = .ok (.iload_n 1, 1) := by decide +kernel
theorem nd_Ref_tickOf_69 : decode prog_7_method_25_code 69 = .ok (.imul, 1) := by decide +kernel
theorem nd_Ref_tickOf_70 : decode prog_7_method_25_code 70 = .ok (.iload 4, 2) := by decide +kernel
theorem nd_Ref_tickOf_72 : decode prog_7_method_25_code 72 = .ok (.iadd, 1) := by decide +kernel
theorem nd_Ref_tickOf_73 : decode prog_7_method_25_code 73 = .ok (.laload, 1) := by decide +kernel
theorem nd_Ref_tickOf_74 : decode prog_7_method_25_code 74 = .ok (.l2i, 1) := by decide +kernel
theorem nd_Ref_tickOf_75 : decode prog_7_method_25_code 75 = .ok (.goto (4), 3) := by decide +kernel
theorem nd_Ref_tickOf_78 : decode prog_7_method_25_code 78 = .ok (.iconst 3, 1) := by decide +kernel
theorem nd_Ref_tickOf_79 : decode prog_7_method_25_code 79 = .ok (.istore 5, 2) := by decide +kernel
theorem nd_Ref_tickOf_81 : decode prog_7_method_25_code 81 = .ok (.iload_n 3, 1) := by decide +kernel
theorem nd_Ref_tickOf_82 : decode prog_7_method_25_code 82 = .ok (.iload 5, 2) := by decide +kernel
theorem nd_Ref_tickOf_84 : decode prog_7_method_25_code 84 = .ok (.if_icmp .ge (6), 3) := by decide +kernel
theorem nd_Ref_tickOf_87 : decode prog_7_method_25_code 87 = .ok (.iload 4, 2) := by decide +kernel
theorem nd_Ref_tickOf_89 : decode prog_7_method_25_code 89 = .ok (.ireturn, 1) := by decide +kernel
theorem nd_Ref_tickOf_90 : decode prog_7_method_25_code 90 = .ok (.iload_n 3, 1) := by decide +kernel
theorem nd_Ref_tickOf_91 : decode prog_7_method_25_code 91 = .ok (.iload 5, 2) := by decide +kernel
theorem nd_Ref_tickOf_93 : decode prog_7_method_25_code 93 = .ok (.if_icmp .ne (5), 3) := by decide +kernel
theorem nd_Ref_tickOf_96 : decode prog_7_method_25_code 96 = .ok (.iconst 0, 1) := by decide +kernel
theorem nd_Ref_tickOf_97 : decode prog_7_method_25_code 97 = .ok (.ireturn, 1) := by decide +kernel
theorem nd_Ref_tickOf_98 : decode prog_7_method_25_code 98 = .ok (.iload_n 3, 1) := by decide +kernel
theorem nd_Ref_tickOf_99 : decode prog_7_method_25_code 99 = .ok (.iload 5, 2) := by decide +kernel
theorem nd_Ref_tickOf_101 : decode prog_7_method_25_code 101 = .ok (.iconst 1, 1) := by decide +kernel
theorem nd_Ref_tickOf_102 : decode prog_7_method_25_code 102 = .ok (.iadd, 1) := by decide +kernel
theorem nd_Ref_tickOf_103 : decode prog_7_method_25_code 103 = .ok (.isub, 1) := by decide +kernel
theorem nd_Ref_tickOf_104 : decode prog_7_method_25_code 104 = .ok (.istore_n 3, 1) := by decide +kernel
theorem nd_Ref_tickOf_105 : decode prog_7_method_25_code 105 = .ok (.iinc 4 1, 3) := by decide +kernel
theorem nd_Ref_tickOf_108 : decode prog_7_method_25_code 108 = .ok (.goto (-94), 3) := by decide +kernel
theorem nd_Ref_tickOf_111 : decode prog_7_method_25_code 111 = .ok (.iconst (-1), 1) := by decide +kernel
theorem nd_Ref_tickOf_112 : decode prog_7_method_25_code 112 = .ok (.ireturn, 1) := by decide +kernel
abbrev pq_Ref_tickOf (dC : Nat → ClassId) (dI : Nat → Nat → Nat) (cI cZ cJ : ClassId) (arf : Nat → Nat) (rf : cr_S) (lat : Int64) (ln : (Nat → Int64)) (x1 : Int32) (x2 : Int32) (A : Nat → Prop) : Array Value → State → Outcome → State → Prop :=
  va_Qi (fun (r : Int32) (_ : Unit) => r = md_Ref_tickOf rf lat ln x1 x2 ∧ (-1 ≤ r.toInt ∧ r.toInt ≤ 8)) (fun (_ : Unit) t => va_P (dC, dI) vwCl (cw_Ref cI cZ cJ arf rf lat ln) t.heap ∧ va_K (dC, dI) vwCl [(cI, .int), (cZ, .boolean), (cJ, .long)] t ∧ va_D A (cw_Ref cI cZ cJ arf rf lat ln)) A
set_option maxHeartbeats 4000000 in
set_option maxRecDepth 100000 in
theorem ct_Ref_tickOf (l : Launch) (dC : Nat → ClassId) (dI : Nat → Nat → Nat) (cI cZ cJ : ClassId) (arf : Nat → Nat) (sz : Nat) (rf : cr_S) (lat : Int64) (ln : (Nat → Int64)) (x1 : Int32) (x2 : Int32) (hR_rf : cr_RRef rf) (hx1 : 0 ≤ x1.toInt ∧ x1.toInt ≤ 10) : Met l ny_Ref_tickOf nw_Ref_tickOf ({ frames := 0, cells := 0, slots := 0, locals := 0 } : Room) (va_Pc [.ref (arf 0), .int x1, .int x2] (fun U => U.heap.size = sz ∧ va_P (dC, dI) vwCl (cw_Ref cI cZ cJ arf rf lat ln) U.heap ∧ va_K (dC, dI) vwCl [(cI, .int), (cZ, .boolean), (cJ, .long)] U ∧ va_D (fun _ => True) (cw_Ref cI cZ cJ arf rf lat ln))) (pq_Ref_tickOf dC dI cI cZ cJ arf rf lat ln x1 x2 (va_A (cw_Ref cI cZ cJ arf rf lat ln) sz)) 0 0 (va_A (cw_Ref cI cZ cJ arf rf lat ln) sz) := by
  refine Met.ofW (cc := prog_7_method_25_code) (maxL := 6) (ret := (some .int)) (by decide) rfl ?_
  intro p e s m args below meth c s₁ B hml hv
  obtain ⟨rfl, hsz, hP, hK, hD0⟩ := hv
  have hx := B.exec
  have hb := B.bytes
  have hr := B.returns
  have hts0 := atoms_spec (ws := nw_Ref_tickOf) B.pre
  have hts : ∀ w ∈ ng_tbl, w.before ([.ref (arf 0), .int x1, .int x2] : List Value).toArray s = true := fun w h => hts0 w (List.mem_cons_of_mem _ h)
  have hown : s.vm.findClass "CeilingRowsModel" = some m.cls := findClass_of_methodNamed B.named
  have hlocks := B.notSynchronized
  subst hsz
  have hD := hD0.self (sz := s.heap.size)
  generalize hAe : va_A (cw_Ref cI cZ cJ arf rf lat ln) s.heap.size = A at hD ⊢
  have hA : ∀ q : Nat, s.heap.size ≤ q → A q := fun q h => by rw [← hAe]; exact Or.inr h
  have hS : va_S A s.heap s.heap [] := va_S.rf
  have hP : va_P (dC, dI) vwCl (cw_Ref cI cZ cJ arf rf lat ln) s.heap := hP
  have hl := lv_entry ([.ref (arf 0), .int x1, .int x2]) (n := 6) (Nat.le_of_ble_eq_true rfl)
  rw [lg_entry_eq]
  generalize (lg_sl ([.ref (arf 0), .int x1, .int x2]) ++ List.replicate (6 - (lg_sl ([.ref (arf 0), .int x1, .int x2])).length) Slot.unset).toArray = ls at hl ⊢
  have hl : lv_has ls 6 [(0, .ref (arf 0)), (1, .int x1), (2, .int x2)] := hl
  have f0_rf_0 := cr_rfo hR_rf.1
  have f0_rf_1 := cr_rfo hR_rf.2.1
  have k_m1 : (-1 : Int32).toInt = -1 := by decide
  have k_0 : (0 : Int32).toInt = 0 := by decide
  have k_1 : (1 : Int32).toInt = 1 := by decide
  have k_3 : (3 : Int32).toInt = 3 := by decide
  have k_9 : (9 : Int32).toInt = 9 := by decide
  obtain ⟨tgt, hT⟩ : ∃ z, md_Ref_tickOf rf lat ln x1 x2 = z := ⟨_, rfl⟩
  have hM := hT
  unfold md_Ref_tickOf at hM
  refine lv_iload_n hx hb nd_Ref_tickOf_0 rfl (lv_at hl 2 rfl) ?_
  refine lv_istore_n (lv' := [(3, .int x2), (0, .ref (arf 0)), (1, .int x1), (2, .int x2)]) hx hb nd_Ref_tickOf_1 rfl hl (by decide) rfl (fun ls hl => ?_)
  refine lv_iload_n hx hb nd_Ref_tickOf_2 rfl (lv_at hl 0 rfl) ?_
  refine lv_if_ne (tgt := 8) hx hb nd_Ref_tickOf_3 (by decide) (fun c_1 => ?_) (fun c_1 => ?_)
  · have c_1t := cr_ne c_1
    rw [if_neg c_1] at hM
    refine lv_iinc (v := (x2 + (-1 : Int32))) (lv' := [(3, .int (x2 + (-1 : Int32))), (0, .ref (arf 0)), (1, .int x1), (2, .int x2)]) hx hb nd_Ref_tickOf_8 hl (k := 0) rfl (by rfl) (by decide) rfl (fun ls hl => ?_)
    refine lv_iconst (v := 1) hx hb nd_Ref_tickOf_11 (by decide) ?_
    refine lv_istore (lv' := [(4, .int (1 : Int32)), (3, .int (x2 + (-1 : Int32))), (0, .ref (arf 0)), (1, .int x1), (2, .int x2)]) hx hb nd_Ref_tickOf_12 hl (by decide) rfl (fun ls hl => ?_)
    have hl := lv_sub hl [2, 3, 1, 0] rfl
    have lp_14 : ∀ (n_14 : Nat) (v3_14 : Int32) (v4_14 : Int32), (1 ≤ v4_14.toInt ∧ v4_14.toInt ≤ 9) → (9 < v4_14.toInt + (n_14 : Int)) → lo_Ref_tickOf_14 rf lat ln x1 x2 n_14 v3_14 v4_14 = tgt → ∀ (H : Heap) (locs : List Loc), va_P (dC, dI) vwCl (cw_Ref cI cZ cJ arf rf lat ln) H → va_D A (cw_Ref cI cZ cJ arf rf lat ln) → va_S A s.heap H locs → ∀ ls : Array Slot, lv_has ls 6 [(0, .ref (arf 0)), (1, .int x1), (3, .int v3_14), (4, .int v4_14)] → W p l e (headSpec nw_Ref_tickOf ({ frames := 0, cells := 0, slots := 0, locals := 0 } : Room)).room s m ([.ref (arf 0), .int x1, .int x2] : List Value).toArray below meth c H locs 0 0 (MQ below (pq_Ref_tickOf dC dI cI cZ cJ arf rf lat ln x1 x2 A) ([.ref (arf 0), .int x1, .int x2] : List Value).toArray s 0 0 A) (F0 m 14 ls []) := by
      intro n_14
      induction n_14 with
      | zero =>
        intro v3_14 v4_14 hv4_14 hn_14
        exfalso; omega
      | succ n_14 ih_14 =>
        intro v3_14 v4_14 hv4_14 hn_14 hM H locs hP hD hS ls hl
        have hn_14 : 9 < v4_14.toInt + ((n_14 : Int) + 1) := by omega
        rw [lo_Ref_tickOf_14] at hM
        refine lv_iload hx hb nd_Ref_tickOf_14 (lv_at hl 3 rfl) ?_
        refine lv_aload_n hx hb nd_Ref_tickOf_16 rfl (lv_at hl 0 rfl) ?_
        refine va_get (D := (dC, dI)) (ci := 5) (v := .int (rf 0 2)) (C := "CeilingRowsModel") (T := nf_Ref) (N := 22) hx hb hts nin_Ref hown hK hP 0 rfl rfl 7 (by decide) (hts _ tw_420) (fun _ h9 => h9) rfl nd_Ref_tickOf_17 ?_
        have f_2 := cr_rfo hR_rf.2.1
        refine lv_icmp_gt (tgt := 111) hx hb nd_Ref_tickOf_20 (by decide) (fun c_3 => ?_) (fun c_3 => ?_)
        · have c_3t := cr_lt c_3
          rw [if_pos c_3] at hM
          refine lv_iconst (v := -1) hx hb nd_Ref_tickOf_111 (by decide) ?_
          exact W.iret (v := (-1 : Int32)) hx hb hr (fun t ht hW => ⟨⟨(-1 : Int32), (), rfl, ⟨by rw [hT, ← hM], by omega⟩, by rw [ht]; exact hP, va_K.moved hW.alike hK, hD⟩, hS.F ht⟩) hS.2.2 nd_Ref_tickOf_112
        · have c_3t := cr_nlt c_3
          rw [if_neg c_3] at hM
          refine lv_aload_n hx hb nd_Ref_tickOf_23 rfl (lv_at hl 0 rfl) ?_
          refine va_get (D := (dC, dI)) (ci := 5) (v := .ref (arf 6)) (C := "CeilingRowsModel") (T := nf_Ref) (N := 22) hx hb hts nin_Ref hown hK hP 0 rfl rfl 8 (by decide) (hts _ tw_421) (fun _ h9 => h9) rfl nd_Ref_tickOf_24 ?_
          refine lv_bipush (v := 9) hx hb nd_Ref_tickOf_27 (by decide) ?_
          refine lv_iload_n hx hb nd_Ref_tickOf_29 rfl (lv_at hl 1 rfl) ?_
          refine lv_imul hx hb nd_Ref_tickOf_30 ?_
          have e_4 : ((9 : Int32) * x1).toInt = 9 * x1.toInt := cr_mulL 9 k_9 (by omega)
          refine lv_iload hx hb nd_Ref_tickOf_31 (lv_at hl 3 rfl) ?_
          refine lv_iadd hx hb nd_Ref_tickOf_33 ?_
          have e_5 : (((9 : Int32) * x1) + v4_14).toInt = ((9 : Int32) * x1).toInt + v4_14.toInt := cr_add (by omega)
          have b_6 : vp_in (((9 : Int32) * x1) + v4_14) 99 := vp_in_iff.mpr (by omega)
          refine va_lald hx hb hK hP 6 2 rfl rfl b_6 nd_Ref_tickOf_34 ?_
          refine lv_lconst (v := 0) hx hb nd_Ref_tickOf_35 (by decide) ?_
          refine W.lcmp hx hb nd_Ref_tickOf_36 ?_
          refine lv_if_ne (tgt := 43) hx hb nd_Ref_tickOf_37 (by decide) (fun c_7 => ?_) (fun c_7 => ?_)
          · have c_7t := cr_ne c_7
            rw [if_neg c_7] at hM
            refine lv_aload_n hx hb nd_Ref_tickOf_43 rfl (lv_at hl 0 rfl) ?_
            refine va_get (D := (dC, dI)) (ci := 5) (v := .ref (arf 6)) (C := "CeilingRowsModel") (T := nf_Ref) (N := 22) hx hb hts nin_Ref hown hK hP 0 rfl rfl 8 (by decide) (hts _ tw_421) (fun _ h9 => h9) rfl nd_Ref_tickOf_44 ?_
            refine lv_bipush (v := 9) hx hb nd_Ref_tickOf_47 (by decide) ?_
            refine lv_iload_n hx hb nd_Ref_tickOf_49 rfl (lv_at hl 1 rfl) ?_
            refine lv_imul hx hb nd_Ref_tickOf_50 ?_
            have e_8 : ((9 : Int32) * x1).toInt = 9 * x1.toInt := cr_mulL 9 k_9 (by omega)
            refine lv_iload hx hb nd_Ref_tickOf_51 (lv_at hl 3 rfl) ?_
            refine lv_iadd hx hb nd_Ref_tickOf_53 ?_
            have e_9 : (((9 : Int32) * x1) + v4_14).toInt = ((9 : Int32) * x1).toInt + v4_14.toInt := cr_add (by omega)
            have b_10 : vp_in (((9 : Int32) * x1) + v4_14) 99 := vp_in_iff.mpr (by omega)
            refine va_lald hx hb hK hP 6 2 rfl rfl b_10 nd_Ref_tickOf_54 ?_
            refine lv_ldc2 (v := 3) hx hb hown (hts _ tw_593) nd_Ref_tickOf_55 ?_
            refine W.lcmp hx hb nd_Ref_tickOf_58 ?_
            refine lv_if_ge (tgt := 78) hx hb nd_Ref_tickOf_59 (by decide) (fun c_11 => ?_) (fun c_11 => ?_)
            · have c_11t := cr_le c_11
              rw [if_pos c_11] at hM
              refine lv_iconst (v := 3) hx hb nd_Ref_tickOf_78 (by decide) ?_
              refine lv_istore (lv' := [(5, .int (3 : Int32)), (0, .ref (arf 0)), (1, .int x1), (3, .int v3_14), (4, .int v4_14)]) hx hb nd_Ref_tickOf_79 hl (by decide) rfl (fun ls hl => ?_)
              refine lv_iload_n hx hb nd_Ref_tickOf_81 rfl (lv_at hl 3 rfl) ?_
              refine lv_iload hx hb nd_Ref_tickOf_82 (lv_at hl 0 rfl) ?_
              refine lv_icmp_ge (tgt := 90) hx hb nd_Ref_tickOf_84 (by decide) (fun c_12 => ?_) (fun c_12 => ?_)
              · have c_12t := cr_le c_12
                rw [if_pos c_12] at hM
                refine lv_iload_n hx hb nd_Ref_tickOf_90 rfl (lv_at hl 3 rfl) ?_
                refine lv_iload hx hb nd_Ref_tickOf_91 (lv_at hl 0 rfl) ?_
                refine lv_icmp_ne (tgt := 98) hx hb nd_Ref_tickOf_93 (by decide) (fun c_13 => ?_) (fun c_13 => ?_)
                · have c_13t := cr_ne c_13
                  rw [if_neg c_13] at hM
                  refine lv_iload_n hx hb nd_Ref_tickOf_98 rfl (lv_at hl 3 rfl) ?_
                  refine lv_iload hx hb nd_Ref_tickOf_99 (lv_at hl 0 rfl) ?_
                  refine lv_iconst (v := 1) hx hb nd_Ref_tickOf_101 (by decide) ?_
                  refine lv_iadd hx hb nd_Ref_tickOf_102 ?_
                  have e_14 : ((3 : Int32) + (1 : Int32)).toInt = (3 : Int32).toInt + (1 : Int32).toInt := cr_add (by omega)
                  refine lv_isub hx hb nd_Ref_tickOf_103 ?_
                  refine lv_istore_n (lv' := [(3, .int (v3_14 - ((3 : Int32) + (1 : Int32)))), (5, .int (3 : Int32)), (0, .ref (arf 0)), (1, .int x1), (4, .int v4_14)]) hx hb nd_Ref_tickOf_104 rfl hl (by decide) rfl (fun ls hl => ?_)
                  have e_15 : (v4_14 + (1 : Int32)).toInt = v4_14.toInt + (1 : Int32).toInt := cr_add (by omega)
                  refine lv_iinc (v := (v4_14 + (1 : Int32))) (lv' := [(4, .int (v4_14 + (1 : Int32))), (3, .int (v3_14 - ((3 : Int32) + (1 : Int32)))), (5, .int (3 : Int32)), (0, .ref (arf 0)), (1, .int x1)]) hx hb nd_Ref_tickOf_105 hl (k := 4) rfl (by rfl) (by decide) rfl (fun ls hl => ?_)
                  refine lv_goto (tgt := 14) hx hb nd_Ref_tickOf_108 (by decide) ?_
                  exact ih_14 (v3_14 - ((3 : Int32) + (1 : Int32))) (v4_14 + (1 : Int32)) (by omega) (by omega) hM _ _ hP hD hS _ (lv_sub hl [3, 4, 1, 0] rfl)
                · have c_13t := cr_eq c_13
                  rw [if_pos c_13] at hM
                  refine lv_iconst (v := 0) hx hb nd_Ref_tickOf_96 (by decide) ?_
                  exact W.iret (v := (0 : Int32)) hx hb hr (fun t ht hW => ⟨⟨(0 : Int32), (), rfl, ⟨by rw [hT, ← hM], by omega⟩, by rw [ht]; exact hP, va_K.moved hW.alike hK, hD⟩, hS.F ht⟩) hS.2.2 nd_Ref_tickOf_97
              · have c_12t := cr_nle c_12
                rw [if_neg c_12] at hM
                refine lv_iload hx hb nd_Ref_tickOf_87 (lv_at hl 4 rfl) ?_
                exact W.iret (v := v4_14) hx hb hr (fun t ht hW => ⟨⟨v4_14, (), rfl, ⟨by rw [hT, ← hM], by omega⟩, by rw [ht]; exact hP, va_K.moved hW.alike hK, hD⟩, hS.F ht⟩) hS.2.2 nd_Ref_tickOf_89
            · have c_11t := cr_nle c_11
              rw [if_neg c_11] at hM
              refine lv_aload_n hx hb nd_Ref_tickOf_62 rfl (lv_at hl 0 rfl) ?_
              refine va_get (D := (dC, dI)) (ci := 5) (v := .ref (arf 6)) (C := "CeilingRowsModel") (T := nf_Ref) (N := 22) hx hb hts nin_Ref hown hK hP 0 rfl rfl 8 (by decide) (hts _ tw_421) (fun _ h9 => h9) rfl nd_Ref_tickOf_63 ?_
              refine lv_bipush (v := 9) hx hb nd_Ref_tickOf_66 (by decide) ?_
              refine lv_iload_n hx hb nd_Ref_tickOf_68 rfl (lv_at hl 1 rfl) ?_
              refine lv_imul hx hb nd_Ref_tickOf_69 ?_
              have e_16 : ((9 : Int32) * x1).toInt = 9 * x1.toInt := cr_mulL 9 k_9 (by omega)
              refine lv_iload hx hb nd_Ref_tickOf_70 (lv_at hl 3 rfl) ?_
              refine lv_iadd hx hb nd_Ref_tickOf_72 ?_
              have e_17 : (((9 : Int32) * x1) + v4_14).toInt = ((9 : Int32) * x1).toInt + v4_14.toInt := cr_add (by omega)
              have b_18 : vp_in (((9 : Int32) * x1) + v4_14) 99 := vp_in_iff.mpr (by omega)
              refine va_lald hx hb hK hP 6 2 rfl rfl b_18 nd_Ref_tickOf_73 ?_
              refine lv_l2i (v := (ln (((9 : Int32) * x1) + v4_14).toNatClampNeg).toInt32) hx hb nd_Ref_tickOf_74 rfl ?_
              refine lv_goto (tgt := 79) hx hb nd_Ref_tickOf_75 (by decide) ?_
              refine lv_istore (lv' := [(5, .int ((ln (((9 : Int32) * x1) + v4_14).toNatClampNeg).toInt32)), (0, .ref (arf 0)), (1, .int x1), (3, .int v3_14), (4, .int v4_14)]) hx hb nd_Ref_tickOf_79 hl (by decide) rfl (fun ls hl => ?_)
              refine lv_iload_n hx hb nd_Ref_tickOf_81 rfl (lv_at hl 3 rfl) ?_
              refine lv_iload hx hb nd_Ref_tickOf_82 (lv_at hl 0 rfl) ?_
              refine lv_icmp_ge (tgt := 90) hx hb nd_Ref_tickOf_84 (by decide) (fun c_19 => ?_) (fun c_19 => ?_)
              · have c_19t := cr_le c_19
                rw [if_pos c_19] at hM
                refine lv_iload_n hx hb nd_Ref_tickOf_90 rfl (lv_at hl 3 rfl) ?_
                refine lv_iload hx hb nd_Ref_tickOf_91 (lv_at hl 0 rfl) ?_
                refine lv_icmp_ne (tgt := 98) hx hb nd_Ref_tickOf_93 (by decide) (fun c_20 => ?_) (fun c_20 => ?_)
                · have c_20t := cr_ne c_20
                  rw [if_neg c_20] at hM
                  refine lv_iload_n hx hb nd_Ref_tickOf_98 rfl (lv_at hl 3 rfl) ?_
                  refine lv_iload hx hb nd_Ref_tickOf_99 (lv_at hl 0 rfl) ?_
                  refine lv_iconst (v := 1) hx hb nd_Ref_tickOf_101 (by decide) ?_
                  refine lv_iadd hx hb nd_Ref_tickOf_102 ?_
                  refine lv_isub hx hb nd_Ref_tickOf_103 ?_
                  refine lv_istore_n (lv' := [(3, .int (v3_14 - ((ln (((9 : Int32) * x1) + v4_14).toNatClampNeg).toInt32 + (1 : Int32)))), (5, .int ((ln (((9 : Int32) * x1) + v4_14).toNatClampNeg).toInt32)), (0, .ref (arf 0)), (1, .int x1), (4, .int v4_14)]) hx hb nd_Ref_tickOf_104 rfl hl (by decide) rfl (fun ls hl => ?_)
                  have e_21 : (v4_14 + (1 : Int32)).toInt = v4_14.toInt + (1 : Int32).toInt := cr_add (by omega)
                  refine lv_iinc (v := (v4_14 + (1 : Int32))) (lv' := [(4, .int (v4_14 + (1 : Int32))), (3, .int (v3_14 - ((ln (((9 : Int32) * x1) + v4_14).toNatClampNeg).toInt32 + (1 : Int32)))), (5, .int ((ln (((9 : Int32) * x1) + v4_14).toNatClampNeg).toInt32)), (0, .ref (arf 0)), (1, .int x1)]) hx hb nd_Ref_tickOf_105 hl (k := 4) rfl (by rfl) (by decide) rfl (fun ls hl => ?_)
                  refine lv_goto (tgt := 14) hx hb nd_Ref_tickOf_108 (by decide) ?_
                  exact ih_14 (v3_14 - ((ln (((9 : Int32) * x1) + v4_14).toNatClampNeg).toInt32 + (1 : Int32))) (v4_14 + (1 : Int32)) (by omega) (by omega) hM _ _ hP hD hS _ (lv_sub hl [3, 4, 1, 0] rfl)
                · have c_20t := cr_eq c_20
                  rw [if_pos c_20] at hM
                  refine lv_iconst (v := 0) hx hb nd_Ref_tickOf_96 (by decide) ?_
                  exact W.iret (v := (0 : Int32)) hx hb hr (fun t ht hW => ⟨⟨(0 : Int32), (), rfl, ⟨by rw [hT, ← hM], by omega⟩, by rw [ht]; exact hP, va_K.moved hW.alike hK, hD⟩, hS.F ht⟩) hS.2.2 nd_Ref_tickOf_97
              · have c_19t := cr_nle c_19
                rw [if_neg c_19] at hM
                refine lv_iload hx hb nd_Ref_tickOf_87 (lv_at hl 4 rfl) ?_
                exact W.iret (v := v4_14) hx hb hr (fun t ht hW => ⟨⟨v4_14, (), rfl, ⟨by rw [hT, ← hM], by omega⟩, by rw [ht]; exact hP, va_K.moved hW.alike hK, hD⟩, hS.F ht⟩) hS.2.2 nd_Ref_tickOf_89
          · have c_7t := cr_eq c_7
            rw [if_pos c_7] at hM
            refine lv_goto (tgt := 105) hx hb nd_Ref_tickOf_40 (by decide) ?_
            have e_22 : (v4_14 + (1 : Int32)).toInt = v4_14.toInt + (1 : Int32).toInt := cr_add (by omega)
            refine lv_iinc (v := (v4_14 + (1 : Int32))) (lv' := [(4, .int (v4_14 + (1 : Int32))), (0, .ref (arf 0)), (1, .int x1), (3, .int v3_14)]) hx hb nd_Ref_tickOf_105 hl (k := 3) rfl (by rfl) (by decide) rfl (fun ls hl => ?_)
            refine lv_goto (tgt := 14) hx hb nd_Ref_tickOf_108 (by decide) ?_
            exact ih_14 v3_14 (v4_14 + (1 : Int32)) (by omega) (by omega) hM _ _ hP hD hS _ (lv_sub hl [1, 2, 3, 0] rfl)
    exact lp_14 9 (x2 + (-1 : Int32)) (1 : Int32) (by omega) (by omega) hM _ _ hP hD hS _ hl
  · have c_1t := cr_eq c_1
    rw [if_pos c_1] at hM
    refine lv_iconst (v := 0) hx hb nd_Ref_tickOf_6 (by decide) ?_
    exact W.iret (v := (0 : Int32)) hx hb hr (fun t ht hW => ⟨⟨(0 : Int32), (), rfl, ⟨by rw [hT, ← hM], by omega⟩, by rw [ht]; exact hP, va_K.moved hW.alike hK, hD⟩, hS.F ht⟩) hS.2.2 nd_Ref_tickOf_7

theorem nd_Ref_trialRank_0 : decode prog_7_method_26_code 0 = .ok (.aload_n 0, 1) := by decide +kernel
theorem nd_Ref_trialRank_1 : decode prog_7_method_26_code 1 = .ok (.getfield 57, 3) := by decide +kernel
theorem nd_Ref_trialRank_4 : decode prog_7_method_26_code 4 = .ok (.iload_n 1, 1) := by decide +kernel
theorem nd_Ref_trialRank_5 : decode prog_7_method_26_code 5 = .ok (.iaload, 1) := by decide +kernel
theorem nd_Ref_trialRank_6 : decode prog_7_method_26_code 6 = .ok (.ifCond .le (35), 3) := by decide +kernel
theorem nd_Ref_trialRank_9 : decode prog_7_method_26_code 9 = .ok (.aload_n 0, 1) := by decide +kernel
theorem nd_Ref_trialRank_10 : decode prog_7_method_26_code 10 = .ok (.aload_n 0, 1) := by decide +kernel
theorem nd_Ref_trialRank_11 : decode prog_7_method_26_code 11 = .ok (.getfield 57, 3) := by decide +kernel
theorem nd_Ref_trialRank_14 : decode prog_7_method_26_code 14 = .ok (.iload_n 1, 1) := by decide +kernel
theorem nd_Ref_trialRank_15 : decode prog_7_method_26_code 15 = .ok (.iaload, 1) := by decide +kernel
theorem nd_Ref_trialRank_16 : decode prog_7_method_26_code 16 = .ok (.invokevirtual 79, 3) := by decide +kernel
theorem nd_Ref_trialRank_19 : decode prog_7_method_26_code 19 = .ok (.aload_n 0, 1) := by decide +kernel
theorem nd_Ref_trialRank_20 : decode prog_7_method_26_code 20 = .ok (.getfield 7, 3) := by decide +kernel
theorem nd_Ref_trialRank_23 : decode prog_7_method_26_code 23 = .ok (.iload_n 1, 1) := by decide +kernel
theorem nd_Ref_trialRank_24 : decode prog_7_method_26_code 24 = .ok (.iaload, 1) := by decide +kernel
theorem nd_Ref_trialRank_25 : decode prog_7_method_26_code 25 = .ok (.if_icmp .le (16), 3) := by decide +kernel
theorem nd_Ref_trialRank_28 : decode prog_7_method_26_code 28 = .ok (.aload_n 0, 1) := by decide +kernel
theorem nd_Ref_trialRank_29 : decode prog_7_method_26_code 29 = .ok (.aload_n 0, 1) := by decide +kernel
theorem nd_Ref_trialRank_30 : decode prog_7_method_26_code 30 = .ok (.getfield 57, 3) := by decide +kernel
theorem nd_Ref_trialRank_33 : decode prog_7_method_26_code 33 = .ok (.iload_n 1, 1) := by decide +kernel
theorem nd_Ref_trialRank_34 : decode prog_7_method_26_code 34 = .ok (.iaload, 1) := by decide +kernel
theorem nd_Ref_trialRank_35 : decode prog_7_method_26_code 35 = .ok (.invokevirtual 79, 3) := by decide +kernel
theorem nd_Ref_trialRank_38 : decode prog_7_method_26_code 38 = .ok (.goto (9), 3) := by decide +kernel
theorem nd_Ref_trialRank_41 : decode prog_7_method_26_code 41 = .ok (.aload_n 0, 1) := by decide +kernel
theorem nd_Ref_trialRank_42 : decode prog_7_method_26_code 42 = .ok (.getfield 7, 3) := by decide +kernel
theorem nd_Ref_trialRank_45 : decode prog_7_method_26_code 45 = .ok (.iload_n 1, 1) := by decide +kernel
theorem nd_Ref_trialRank_46 : decode prog_7_method_26_code 46 = .ok (.iaload, 1) := by decide +kernel
theorem nd_Ref_trialRank_47 : decode prog_7_method_26_code 47 = .ok (.ireturn, 1) := by decide +kernel
abbrev pq_Ref_trialRank (dC : Nat → ClassId) (dI : Nat → Nat → Nat) (cI cZ cJ : ClassId) (arf : Nat → Nat) (rf : cr_S) (lat : Int64) (ln : (Nat → Int64)) (x1 : Int32) (A : Nat → Prop) : Array Value → State → Outcome → State → Prop :=
  va_Qi (fun (r : Int32) (_ : Unit) => r = md_Ref_trialRank rf lat ln x1) (fun (_ : Unit) t => va_P (dC, dI) vwCl (cw_Ref cI cZ cJ arf rf lat ln) t.heap ∧ va_K (dC, dI) vwCl [(cI, .int), (cZ, .boolean), (cJ, .long)] t ∧ va_D A (cw_Ref cI cZ cJ arf rf lat ln)) A
set_option maxHeartbeats 4000000 in
set_option maxRecDepth 100000 in
theorem ct_Ref_trialRank (l : Launch) (dC : Nat → ClassId) (dI : Nat → Nat → Nat) (cI cZ cJ : ClassId) (arf : Nat → Nat) (sz : Nat) (rf : cr_S) (lat : Int64) (ln : (Nat → Int64)) (x1 : Int32) (hR_rf : cr_RRef rf) (hx1 : 0 ≤ x1.toInt ∧ x1.toInt ≤ 10) : Met l ny_Ref_trialRank nw_Ref_trialRank ({ frames := 1, cells := 0, slots := 0, locals := 23 } : Room) (va_Pc [.ref (arf 0), .int x1] (fun U => U.heap.size = sz ∧ va_P (dC, dI) vwCl (cw_Ref cI cZ cJ arf rf lat ln) U.heap ∧ va_K (dC, dI) vwCl [(cI, .int), (cZ, .boolean), (cJ, .long)] U ∧ va_D (fun _ => True) (cw_Ref cI cZ cJ arf rf lat ln))) (pq_Ref_trialRank dC dI cI cZ cJ arf rf lat ln x1 (va_A (cw_Ref cI cZ cJ arf rf lat ln) sz)) 0 0 (va_A (cw_Ref cI cZ cJ arf rf lat ln) sz) := by
  refine Met.ofW (cc := prog_7_method_26_code) (maxL := 2) (ret := (some .int)) (by decide) rfl ?_
  intro p e s m args below meth c s₁ B hml hv
  obtain ⟨rfl, hsz, hP, hK, hD0⟩ := hv
  have hx := B.exec
  have hb := B.bytes
  have hr := B.returns
  have hts0 := atoms_spec (ws := nw_Ref_trialRank) B.pre
  have hts : ∀ w ∈ ng_tbl, w.before ([.ref (arf 0), .int x1] : List Value).toArray s = true := fun w h => hts0 w (List.mem_cons_of_mem _ h)
  have hown : s.vm.findClass "CeilingRowsModel" = some m.cls := findClass_of_methodNamed B.named
  have hlocks := B.notSynchronized
  subst hsz
  have hD := hD0.self (sz := s.heap.size)
  generalize hAe : va_A (cw_Ref cI cZ cJ arf rf lat ln) s.heap.size = A at hD ⊢
  have hA : ∀ q : Nat, s.heap.size ≤ q → A q := fun q h => by rw [← hAe]; exact Or.inr h
  have hS : va_S A s.heap s.heap [] := va_S.rf
  have hP : va_P (dC, dI) vwCl (cw_Ref cI cZ cJ arf rf lat ln) s.heap := hP
  have hl := lv_entry ([.ref (arf 0), .int x1]) (n := 2) (Nat.le_of_ble_eq_true rfl)
  rw [lg_entry_eq]
  generalize (lg_sl ([.ref (arf 0), .int x1]) ++ List.replicate (2 - (lg_sl ([.ref (arf 0), .int x1])).length) Slot.unset).toArray = ls at hl ⊢
  have hl : lv_has ls 2 [(0, .ref (arf 0)), (1, .int x1)] := hl
  have f0_rf_0 := cr_rfo hR_rf.1
  have f0_rf_1 := cr_rfo hR_rf.2.1
  have k_0 : (0 : Int32).toInt = 0 := by decide
  obtain ⟨tgt, hT⟩ : ∃ z, md_Ref_trialRank rf lat ln x1 = z := ⟨_, rfl⟩
  have hM := hT
  unfold md_Ref_trialRank at hM
  refine lv_aload_n hx hb nd_Ref_trialRank_0 rfl (lv_at hl 0 rfl) ?_
  refine va_get (D := (dC, dI)) (ci := 5) (v := .ref (arf 16)) (C := "CeilingRowsModel") (T := nf_Ref) (N := 22) hx hb hts nin_Ref hown hK hP 0 rfl rfl 20 (by decide) (hts _ tw_433) (fun _ h9 => h9) rfl nd_Ref_trialRank_1 ?_
  refine lv_iload_n hx hb nd_Ref_trialRank_4 rfl (lv_at hl 1 rfl) ?_
  have b_1 : vp_in x1 11 := vp_in_iff.mpr (by omega)
  refine va_iald hx hb hK hP 16 0 rfl rfl b_1 nd_Ref_trialRank_5 ?_
  have f_2 := cr_rho hR_rf.2.2.2.2.2 (x1.toNatClampNeg)
  refine lv_if_le (tgt := 41) hx hb nd_Ref_trialRank_6 (by decide) (fun c_3 => ?_) (fun c_3 => ?_)
  · have c_3t := cr_le c_3
    rw [if_pos c_3] at hM
    refine lv_aload_n hx hb nd_Ref_trialRank_41 rfl (lv_at hl 0 rfl) ?_
    refine va_get (D := (dC, dI)) (ci := 5) (v := .ref (arf 1)) (C := "CeilingRowsModel") (T := nf_Ref) (N := 22) hx hb hts nin_Ref hown hK hP 0 rfl rfl 1 (by decide) (hts _ tw_414) (fun _ h9 => h9) rfl nd_Ref_trialRank_42 ?_
    refine lv_iload_n hx hb nd_Ref_trialRank_45 rfl (lv_at hl 1 rfl) ?_
    have b_4 : vp_in x1 11 := vp_in_iff.mpr (by omega)
    refine va_iald hx hb hK hP 1 0 rfl rfl b_4 nd_Ref_trialRank_46 ?_
    exact W.iret (v := (rf 1 x1.toNatClampNeg)) hx hb hr (fun t ht hW => ⟨⟨(rf 1 x1.toNatClampNeg), (), rfl, by rw [hT, ← hM], by rw [ht]; exact hP, va_K.moved hW.alike hK, hD⟩, hS.F ht⟩) hS.2.2 nd_Ref_trialRank_47
  · have c_3t := cr_nle c_3
    rw [if_neg c_3] at hM
    refine lv_aload_n hx hb nd_Ref_trialRank_9 rfl (lv_at hl 0 rfl) ?_
    refine lv_aload_n hx hb nd_Ref_trialRank_10 rfl (lv_at hl 0 rfl) ?_
    refine va_get (D := (dC, dI)) (ci := 5) (v := .ref (arf 16)) (C := "CeilingRowsModel") (T := nf_Ref) (N := 22) hx hb hts nin_Ref hown hK hP 0 rfl rfl 20 (by decide) (hts _ tw_433) (fun _ h9 => h9) rfl nd_Ref_trialRank_11 ?_
    refine lv_iload_n hx hb nd_Ref_trialRank_14 rfl (lv_at hl 1 rfl) ?_
    have b_5 : vp_in x1 11 := vp_in_iff.mpr (by omega)
    refine va_iald hx hb hK hP 16 0 rfl rfl b_5 nd_Ref_trialRank_15 ?_
    have f_6 := cr_rho hR_rf.2.2.2.2.2 (x1.toNatClampNeg)
    have hPc := hP
    have hDc := hD
    have hFc := va_free (wc := cw_Ref cI cZ cJ arf rf lat ln) hD hS hA [0, 1, 2, 3, 4, 5, 6, 7, 8, 9, 10, 11, 12, 13, 14, 15, 16, 17] rfl
    refine va_calli (va_runV (As := [.int (rf 16 x1.toNatClampNeg)]) (rest := []) ⟨hx, hb, hml, hown, hts⟩ (ct_Ref_ceilingOf l dC dI cI cZ cJ arf s.heap.size rf lat ln (rf 16 x1.toNatClampNeg) hR_rf (by omega)) (cwV 1 hts (ng_V tw_506 tw_508 tp_20 tw_6 tw_509) rfl rfl rfl (by decide +kernel) ⟨Nat.le_of_ble_eq_true rfl, Nat.le_of_ble_eq_true rfl⟩) ⟨fun a U g mk q => by obtain ⟨q0, q1, qP, qK, qD⟩ := q; exact ⟨q0, q1, qP, va_K.moved (u := U) (U := U.calling g mk a) (Vm.Alike.refl U.vm) qK, qD⟩, va_recv hK hPc (ci := 5) (q0 := 0) rfl rfl, fun U hU hW => ⟨rfl, by rw [hU], by rw [hU]; exact hPc, va_K.moved hW.alike hK, hDc.weaken (fun _ _ _ _ => trivial)⟩⟩ rfl rfl hl.1 rfl (lv_room (Nat.le_of_ble_eq_true rfl)) nd_Ref_trialRank_16 ⟨Nat.zero_le _, Nat.zero_le _⟩) hS (fun q _ h => hFc q h) hFc (fun r_7 u t H1 locs ht hvm hw hB hz1 hk1 hS => ?_)
    obtain ⟨hP1, hK1, hD1⟩ := hB
    rw [ht] at hP1
    have w_8 := hw
    try rw [← w_8] at hM
    have hP := hP1
    have hD := cr_Dw hD1 hFc
    generalize H1 = H at hP hS ⊢
    refine lv_aload_n hx hb nd_Ref_trialRank_19 rfl (lv_at hl 0 rfl) ?_
    refine va_get (D := (dC, dI)) (ci := 5) (v := .ref (arf 1)) (C := "CeilingRowsModel") (T := nf_Ref) (N := 22) hx hb hts nin_Ref hown hK hP 0 rfl rfl 1 (by decide) (hts _ tw_414) (fun _ h9 => h9) rfl nd_Ref_trialRank_20 ?_
    refine lv_iload_n hx hb nd_Ref_trialRank_23 rfl (lv_at hl 1 rfl) ?_
    have b_9 : vp_in x1 11 := vp_in_iff.mpr (by omega)
    refine va_iald hx hb hK hP 1 0 rfl rfl b_9 nd_Ref_trialRank_24 ?_
    refine lv_icmp_le (tgt := 41) hx hb nd_Ref_trialRank_25 (by decide) (fun c_10 => ?_) (fun c_10 => ?_)
    · have c_10t := cr_le c_10
      rw [if_pos c_10] at hM
      refine lv_aload_n hx hb nd_Ref_trialRank_41 rfl (lv_at hl 0 rfl) ?_
      refine va_get (D := (dC, dI)) (ci := 5) (v := .ref (arf 1)) (C := "CeilingRowsModel") (T := nf_Ref) (N := 22) hx hb hts nin_Ref hown hK hP 0 rfl rfl 1 (by decide) (hts _ tw_414) (fun _ h9 => h9) rfl nd_Ref_trialRank_42 ?_
      refine lv_iload_n hx hb nd_Ref_trialRank_45 rfl (lv_at hl 1 rfl) ?_
      have b_11 : vp_in x1 11 := vp_in_iff.mpr (by omega)
      refine va_iald hx hb hK hP 1 0 rfl rfl b_11 nd_Ref_trialRank_46 ?_
      exact W.iret (v := (rf 1 x1.toNatClampNeg)) hx hb hr (fun t ht hW => ⟨⟨(rf 1 x1.toNatClampNeg), (), rfl, by rw [hT, ← hM], by rw [ht]; exact hP, va_K.moved hW.alike hK, hD⟩, hS.F ht⟩) hS.2.2 nd_Ref_trialRank_47
    · have c_10t := cr_nle c_10
      rw [if_neg c_10] at hM
      refine lv_aload_n hx hb nd_Ref_trialRank_28 rfl (lv_at hl 0 rfl) ?_
      refine lv_aload_n hx hb nd_Ref_trialRank_29 rfl (lv_at hl 0 rfl) ?_
      refine va_get (D := (dC, dI)) (ci := 5) (v := .ref (arf 16)) (C := "CeilingRowsModel") (T := nf_Ref) (N := 22) hx hb hts nin_Ref hown hK hP 0 rfl rfl 20 (by decide) (hts _ tw_433) (fun _ h9 => h9) rfl nd_Ref_trialRank_30 ?_
      refine lv_iload_n hx hb nd_Ref_trialRank_33 rfl (lv_at hl 1 rfl) ?_
      have b_12 : vp_in x1 11 := vp_in_iff.mpr (by omega)
      refine va_iald hx hb hK hP 16 0 rfl rfl b_12 nd_Ref_trialRank_34 ?_
      have f_13 := cr_rho hR_rf.2.2.2.2.2 (x1.toNatClampNeg)
      have hPc := hP
      have hDc := hD
      have hFc := va_free (wc := cw_Ref cI cZ cJ arf rf lat ln) hD hS hA [0, 1, 2, 3, 4, 5, 6, 7, 8, 9, 10, 11, 12, 13, 14, 15, 16, 17] rfl
      refine va_calli (va_runV (As := [.int (rf 16 x1.toNatClampNeg)]) (rest := []) ⟨hx, hb, hml, hown, hts⟩ (ct_Ref_ceilingOf l dC dI cI cZ cJ arf H.size rf lat ln (rf 16 x1.toNatClampNeg) hR_rf (by omega)) (cwV 1 hts (ng_V tw_506 tw_508 tp_20 tw_6 tw_509) rfl rfl rfl (by decide +kernel) ⟨Nat.le_of_ble_eq_true rfl, Nat.le_of_ble_eq_true rfl⟩) ⟨fun a U g mk q => by obtain ⟨q0, q1, qP, qK, qD⟩ := q; exact ⟨q0, q1, qP, va_K.moved (u := U) (U := U.calling g mk a) (Vm.Alike.refl U.vm) qK, qD⟩, va_recv hK hPc (ci := 5) (q0 := 0) rfl rfl, fun U hU hW => ⟨rfl, by rw [hU], by rw [hU]; exact hPc, va_K.moved hW.alike hK, hDc.weaken (fun _ _ _ _ => trivial)⟩⟩ rfl rfl hl.1 rfl (lv_room (Nat.le_of_ble_eq_true rfl)) nd_Ref_trialRank_35 ⟨Nat.zero_le _, Nat.zero_le _⟩) hS (fun q _ h => hFc q h) hFc (fun r_14 u t H1 locs ht hvm hw hB hz1 hk1 hS => ?_)
      obtain ⟨hP1, hK1, hD1⟩ := hB
      rw [ht] at hP1
      have w_15 := hw
      try rw [← w_15] at hM
      have hEq : r_7 = r_14 := w_8.trans w_15.symm
      subst hEq
      have hP := hP1
      have hD := cr_Dw hD1 hFc
      generalize H1 = H at hP hS ⊢
      refine lv_goto (tgt := 47) hx hb nd_Ref_trialRank_38 (by decide) ?_
      exact W.iret (v := r_7) hx hb hr (fun t ht hW => ⟨⟨r_7, (), rfl, by rw [hT, ← hM], by rw [ht]; exact hP, va_K.moved hW.alike hK, hD⟩, hS.F ht⟩) hS.2.2 nd_Ref_trialRank_47

theorem nd_Ref_trialRuns_0 : decode prog_7_method_27_code 0 = .ok (.iconst 0, 1) := by decide +kernel
theorem nd_Ref_trialRuns_1 : decode prog_7_method_27_code 1 = .ok (.istore_n 2, 1) := by decide +kernel
theorem nd_Ref_trialRuns_2 : decode prog_7_method_27_code 2 = .ok (.iconst 1, 1) := by decide +kernel
theorem nd_Ref_trialRuns_3 : decode prog_7_method_27_code 3 = .ok (.istore_n 3, 1) := by decide +kernel
theorem nd_Ref_trialRuns_4 : decode prog_7_method_27_code 4 = .ok (.iload_n 3, 1) := by decide +kernel
theorem nd_Ref_trialRuns_5 : decode prog_7_method_27_code 5 = .ok (.aload_n 0, 1) := by decide +kernel
theorem nd_Ref_trialRuns_6 : decode prog_7_method_27_code 6 = .ok (.getfield 63, 3) := by decide +kernel
theorem nd_Ref_trialRuns_9 : decode prog_7_method_27_code 9 = .ok (.if_icmp .gt (80), 3) := by decide +kernel
theorem nd_Ref_trialRuns_12 : decode prog_7_method_27_code 12 = .ok (.aload_n 0, 1) := by decide +kernel
theorem nd_Ref_trialRuns_13 : decode prog_7_method_27_code 13 = .ok (.getfield 13, 3) := by decide +kernel
theorem nd_Ref_trialRuns_16 : decode prog_7_method_27_code 16 = .ok (.iload_n 3, 1) := by decide +kernel
theorem nd_Ref_trialRuns_17 : decode prog_7_method_27_code 17 = .ok (.iaload, 1) := by decide +kernel
theorem nd_Ref_trialRuns_18 : decode prog_7_method_27_code 18 = .ok (.iload_n 1, 1) := by decide +kernel
theorem nd_Ref_trialRuns_19 : decode prog_7_method_27_code 19 = .ok (.if_icmp .ne (64), 3) := by decide +kernel
theorem nd_Ref_trialRuns_22 : decode prog_7_method_27_code 22 = .ok (.aload_n 0, 1) := by decide +kernel
theorem nd_Ref_trialRuns_23 : decode prog_7_method_27_code 23 = .ok (.getfield 48, 3) := by decide +kernel
theorem nd_Ref_trialRuns_26 : decode prog_7_method_27_code 26 = .ok (.iload_n 3, 1) := by decide +kernel
theorem nd_Ref_trialRuns_27 : decode prog_7_method_27_code 27 = .ok (.iaload, 1) := by decide +kernel
theorem nd_Ref_trialRuns_28 : decode prog_7_method_27_code 28 = .ok (.iconst 1, 1) := by decide +kernel
theorem nd_Ref_trialRuns_29 : decode prog_7_method_27_code 29 = .ok (.if_icmp .eq (6), 3) := by decide +kernel
theorem nd_Ref_trialRuns_32 : decode prog_7_method_27_code 32 = .ok (.goto (51), 3) := by decide +kernel
theorem nd_Ref_trialRuns_35 : decode prog_7_method_27_code 35 = .ok (.iload_n 2, 1) := by decide +kernel
theorem nd_Ref_trialRuns_36 : decode prog_7_method_27_code 36 = .ok (.ifCond .ne (7), 3) := by decide +kernel
theorem nd_Ref_trialRuns_39 : decode prog_7_method_27_code 39 = .ok (.iconst 1, 1) := by decide +kernel
theorem nd_Ref_trialRuns_40 : decode prog_7_method_27_code 40 = .ok (.goto (14), 3) := by decide +kernel
theorem nd_Ref_trialRuns_43 : decode prog_7_method_27_code 43 = .ok (.aload_n 0, 1) := by decide +kernel
theorem nd_Ref_trialRuns_44 : decode prog_7_method_27_code 44 = .ok (.iload_n 3, 1) := by decide +kernel
theorem nd_Ref_trialRuns_45 : decode prog_7_method_27_code 45 = .ok (.invokevirtual 130, 3) := by decide +kernel
theorem nd_Ref_trialRuns_48 : decode prog_7_method_27_code 48 = .ok (.aload_n 0, 1) := by decide +kernel
theorem nd_Ref_trialRuns_49 : decode prog_7_method_27_code 49 = .ok (.iload_n 2, 1) := by decide +kernel
theorem nd_Ref_trialRuns_50 : decode prog_7_method_27_code 50 = .ok (.invokevirtual 130, 3) := by decide +kernel
theorem nd_Ref_trialRuns_53 : decode prog_7_method_27_code 53 = .ok (.isub, 1) := by decide +kernel
theorem nd_Ref_trialRuns_54 : decode prog_7_method_27_code 54 = .ok (.istore 4, 2) := by decide +kernel
theorem nd_Ref_trialRuns_56 : decode prog_7_method_27_code 56 = .ok (.iload 4, 2) := by decide +kernel
theorem nd_Ref_trialRuns_58 : decode prog_7_method_27_code 58 = .ok (.ifCond .gt (23), 3) := by decide +kernel
theorem nd_Ref_trialRuns_61 : decode prog_7_method_27_code 61 = .ok (.iload 4, 2) := by decide +kernel
theorem nd_Ref_trialRuns_63 : decode prog_7_method_27_code 63 = .ok (.ifCond .ne (20), 3) := by decide +kernel
theorem nd_Ref_trialRuns_66 : decode prog_7_method_27_code 66 = .ok (.aload_n 0, 1) := by decide +kernel
theorem nd_Ref_trialRuns_67 : decode prog_7_method_27_code 67 = .ok (.getfield 51, 3) := by decide +kernel
theorem nd_Ref_trialRuns_70 : decode prog_7_method_27_code 70 = .ok (.iload_n 3, 1) := by decide +kernel
theorem nd_Ref_trialRuns_71 : decode prog_7_method_27_code 71 = .ok (.iaload, 1) := by decide +kernel
theorem nd_Ref_trialRuns_72 : decode prog_7_method_27_code 72 = .ok (.aload_n 0, 1) := by decide +kernel
theorem nd_Ref_trialRuns_73 : decode prog_7_method_27_code 73 = .ok (.getfield 51, 3) := by decide +kernel
theorem nd_Ref_trialRuns_76 : decode prog_7_method_27_code 76 = .ok (.iload_n 2, 1) := by decide +kernel
theorem nd_Ref_trialRuns_77 : decode prog_7_method_27_code 77 = .ok (.iaload, 1) := by decide +kernel
theorem nd_Ref_trialRuns_78 : decode prog_7_method_27_code 78 = .ok (.if_icmp .ge (5), 3) := by decide +kernel
theorem nd_Ref_trialRuns_81 : decode prog_7_method_27_code 81 = .ok (.iload_n 3, 1) := by decide +kernel
theorem nd_Ref_trialRuns_82 : decode prog_7_method_27_code 82 = .ok (.istore_n 2, 1) := by decide +kernel
theorem nd_Ref_trialRuns_83 : decode prog_7_method_27_code 83 = .ok (.iinc 3 1, 3) := by decide +kernel
theorem nd_Ref_trialRuns_86 : decode prog_7_method_27_code 86 = .ok (.goto (-82), 3) := by decide +kernel
theorem nd_Ref_trialRuns_89 : decode prog_7_method_27_code 89 = .ok (.iload_n 2, 1) := by decide +kernel
theorem nd_Ref_trialRuns_90 : decode prog_7_method_27_code 90 = .ok (.ireturn, 1) := by decide +kernel
abbrev pq_Ref_trialRuns (dC : Nat → ClassId) (dI : Nat → Nat → Nat) (cI cZ cJ : ClassId) (arf : Nat → Nat) (rf : cr_S) (lat : Int64) (ln : (Nat → Int64)) (x1 : Int32) (A : Nat → Prop) : Array Value → State → Outcome → State → Prop :=
  va_Qi (fun (r : Int32) (_ : Unit) => r = md_Ref_trialRuns rf lat ln x1 ∧ (0 ≤ r.toInt ∧ r.toInt ≤ 10)) (fun (_ : Unit) t => va_P (dC, dI) vwCl (cw_Ref cI cZ cJ arf rf lat ln) t.heap ∧ va_K (dC, dI) vwCl [(cI, .int), (cZ, .boolean), (cJ, .long)] t ∧ va_D A (cw_Ref cI cZ cJ arf rf lat ln)) A
set_option maxHeartbeats 4000000 in
set_option maxRecDepth 100000 in
theorem ct_Ref_trialRuns (l : Launch) (dC : Nat → ClassId) (dI : Nat → Nat → Nat) (cI cZ cJ : ClassId) (arf : Nat → Nat) (sz : Nat) (rf : cr_S) (lat : Int64) (ln : (Nat → Int64)) (x1 : Int32) (hR_rf : cr_RRef rf) : Met l ny_Ref_trialRuns nw_Ref_trialRuns ({ frames := 2, cells := 0, slots := 0, locals := 44 } : Room) (va_Pc [.ref (arf 0), .int x1] (fun U => U.heap.size = sz ∧ va_P (dC, dI) vwCl (cw_Ref cI cZ cJ arf rf lat ln) U.heap ∧ va_K (dC, dI) vwCl [(cI, .int), (cZ, .boolean), (cJ, .long)] U ∧ va_D (fun _ => True) (cw_Ref cI cZ cJ arf rf lat ln))) (pq_Ref_trialRuns dC dI cI cZ cJ arf rf lat ln x1 (va_A (cw_Ref cI cZ cJ arf rf lat ln) sz)) 0 0 (va_A (cw_Ref cI cZ cJ arf rf lat ln) sz) := by
  refine Met.ofW (cc := prog_7_method_27_code) (maxL := 5) (ret := (some .int)) (by decide) rfl ?_
  intro p e s m args below meth c s₁ B hml hv
  obtain ⟨rfl, hsz, hP, hK, hD0⟩ := hv
  have hx := B.exec
  have hb := B.bytes
  have hr := B.returns
  have hts0 := atoms_spec (ws := nw_Ref_trialRuns) B.pre
  have hts : ∀ w ∈ ng_tbl, w.before ([.ref (arf 0), .int x1] : List Value).toArray s = true := fun w h => hts0 w (List.mem_cons_of_mem _ h)
  have hown : s.vm.findClass "CeilingRowsModel" = some m.cls := findClass_of_methodNamed B.named
  have hlocks := B.notSynchronized
  subst hsz
  have hD := hD0.self (sz := s.heap.size)
  generalize hAe : va_A (cw_Ref cI cZ cJ arf rf lat ln) s.heap.size = A at hD ⊢
  have hA : ∀ q : Nat, s.heap.size ≤ q → A q := fun q h => by rw [← hAe]; exact Or.inr h
  have hS : va_S A s.heap s.heap [] := va_S.rf
  have hP : va_P (dC, dI) vwCl (cw_Ref cI cZ cJ arf rf lat ln) s.heap := hP
  have hl := lv_entry ([.ref (arf 0), .int x1]) (n := 5) (Nat.le_of_ble_eq_true rfl)
  rw [lg_entry_eq]
  generalize (lg_sl ([.ref (arf 0), .int x1]) ++ List.replicate (5 - (lg_sl ([.ref (arf 0), .int x1])).length) Slot.unset).toArray = ls at hl ⊢
  have hl : lv_has ls 5 [(0, .ref (arf 0)), (1, .int x1)] := hl
  have f0_rf_0 := cr_rfo hR_rf.1
  have f0_rf_1 := cr_rfo hR_rf.2.1
  have k_0 : (0 : Int32).toInt = 0 := by decide
  have k_1 : (1 : Int32).toInt = 1 := by decide
  obtain ⟨tgt, hT⟩ : ∃ z, md_Ref_trialRuns rf lat ln x1 = z := ⟨_, rfl⟩
  have hM := hT
  unfold md_Ref_trialRuns at hM
  refine lv_iconst (v := 0) hx hb nd_Ref_trialRuns_0 (by decide) ?_
  refine lv_istore_n (lv' := [(2, .int (0 : Int32)), (0, .ref (arf 0)), (1, .int x1)]) hx hb nd_Ref_trialRuns_1 rfl hl (by decide) rfl (fun ls hl => ?_)
  refine lv_iconst (v := 1) hx hb nd_Ref_trialRuns_2 (by decide) ?_
  refine lv_istore_n (lv' := [(3, .int (1 : Int32)), (2, .int (0 : Int32)), (0, .ref (arf 0)), (1, .int x1)]) hx hb nd_Ref_trialRuns_3 rfl hl (by decide) rfl (fun ls hl => ?_)
  have hl := lv_sub hl [2, 3, 1, 0] rfl
  have lp_4 : ∀ (n_4 : Nat) (v2_4 : Int32) (v3_4 : Int32), (1 ≤ v3_4.toInt ∧ v3_4.toInt ≤ 11) → (0 ≤ v2_4.toInt ∧ v2_4.toInt ≤ 10) → (11 < v3_4.toInt + (n_4 : Int)) → lo_Ref_trialRuns_4 rf lat ln x1 n_4 v2_4 v3_4 = tgt → ∀ (H : Heap) (locs : List Loc), va_P (dC, dI) vwCl (cw_Ref cI cZ cJ arf rf lat ln) H → va_D A (cw_Ref cI cZ cJ arf rf lat ln) → va_S A s.heap H locs → ∀ ls : Array Slot, lv_has ls 5 [(0, .ref (arf 0)), (1, .int x1), (2, .int v2_4), (3, .int v3_4)] → W p l e (headSpec nw_Ref_trialRuns ({ frames := 2, cells := 0, slots := 0, locals := 44 } : Room)).room s m ([.ref (arf 0), .int x1] : List Value).toArray below meth c H locs 0 0 (MQ below (pq_Ref_trialRuns dC dI cI cZ cJ arf rf lat ln x1 A) ([.ref (arf 0), .int x1] : List Value).toArray s 0 0 A) (F0 m 4 ls []) := by
    intro n_4
    induction n_4 with
    | zero =>
      intro v2_4 v3_4 hv3_4 hv2_4 hn_4
      exfalso; omega
    | succ n_4 ih_4 =>
      intro v2_4 v3_4 hv3_4 hv2_4 hn_4 hM H locs hP hD hS ls hl
      have hn_4 : 11 < v3_4.toInt + ((n_4 : Int) + 1) := by omega
      rw [lo_Ref_trialRuns_4] at hM
      refine lv_iload_n hx hb nd_Ref_trialRuns_4 rfl (lv_at hl 3 rfl) ?_
      refine lv_aload_n hx hb nd_Ref_trialRuns_5 rfl (lv_at hl 0 rfl) ?_
      refine va_get (D := (dC, dI)) (ci := 5) (v := .int (rf 0 0)) (C := "CeilingRowsModel") (T := nf_Ref) (N := 22) hx hb hts nin_Ref hown hK hP 0 rfl rfl 0 (by decide) (hts _ tw_413) (fun _ h9 => h9) rfl nd_Ref_trialRuns_6 ?_
      have f_1 := cr_rfo hR_rf.1
      refine lv_icmp_gt (tgt := 89) hx hb nd_Ref_trialRuns_9 (by decide) (fun c_2 => ?_) (fun c_2 => ?_)
      · have c_2t := cr_lt c_2
        rw [if_pos c_2] at hM
        refine lv_iload_n hx hb nd_Ref_trialRuns_89 rfl (lv_at hl 2 rfl) ?_
        exact W.iret (v := v2_4) hx hb hr (fun t ht hW => ⟨⟨v2_4, (), rfl, ⟨by rw [hT, ← hM], by omega⟩, by rw [ht]; exact hP, va_K.moved hW.alike hK, hD⟩, hS.F ht⟩) hS.2.2 nd_Ref_trialRuns_90
      · have c_2t := cr_nlt c_2
        rw [if_neg c_2] at hM
        refine lv_aload_n hx hb nd_Ref_trialRuns_12 rfl (lv_at hl 0 rfl) ?_
        refine va_get (D := (dC, dI)) (ci := 5) (v := .ref (arf 2)) (C := "CeilingRowsModel") (T := nf_Ref) (N := 22) hx hb hts nin_Ref hown hK hP 0 rfl rfl 2 (by decide) (hts _ tw_415) (fun _ h9 => h9) rfl nd_Ref_trialRuns_13 ?_
        refine lv_iload_n hx hb nd_Ref_trialRuns_16 rfl (lv_at hl 3 rfl) ?_
        have b_3 : vp_in v3_4 11 := vp_in_iff.mpr (by omega)
        refine va_iald hx hb hK hP 2 0 rfl rfl b_3 nd_Ref_trialRuns_17 ?_
        have f_4 := cr_rgo hR_rf.2.2.1 (v3_4.toNatClampNeg)
        refine lv_iload_n hx hb nd_Ref_trialRuns_18 rfl (lv_at hl 1 rfl) ?_
        refine lv_icmp_ne (tgt := 83) hx hb nd_Ref_trialRuns_19 (by decide) (fun c_5 => ?_) (fun c_5 => ?_)
        · have c_5t := cr_ne c_5
          rw [if_neg c_5] at hM
          have e_6 : (v3_4 + (1 : Int32)).toInt = v3_4.toInt + (1 : Int32).toInt := cr_add (by omega)
          refine lv_iinc (v := (v3_4 + (1 : Int32))) (lv' := [(3, .int (v3_4 + (1 : Int32))), (0, .ref (arf 0)), (1, .int x1), (2, .int v2_4)]) hx hb nd_Ref_trialRuns_83 hl (k := 3) rfl (by rfl) (by decide) rfl (fun ls hl => ?_)
          refine lv_goto (tgt := 4) hx hb nd_Ref_trialRuns_86 (by decide) ?_
          exact ih_4 v2_4 (v3_4 + (1 : Int32)) (by omega) (by omega) (by omega) hM _ _ hP hD hS _ (lv_sub hl [1, 2, 3, 0] rfl)
        · have c_5t := cr_eq c_5
          rw [if_pos c_5] at hM
          refine lv_aload_n hx hb nd_Ref_trialRuns_22 rfl (lv_at hl 0 rfl) ?_
          refine va_get (D := (dC, dI)) (ci := 5) (v := .ref (arf 13)) (C := "CeilingRowsModel") (T := nf_Ref) (N := 22) hx hb hts nin_Ref hown hK hP 0 rfl rfl 17 (by decide) (hts _ tw_430) (fun _ h9 => h9) rfl nd_Ref_trialRuns_23 ?_
          refine lv_iload_n hx hb nd_Ref_trialRuns_26 rfl (lv_at hl 3 rfl) ?_
          have b_7 : vp_in v3_4 11 := vp_in_iff.mpr (by omega)
          refine va_iald hx hb hK hP 13 0 rfl rfl b_7 nd_Ref_trialRuns_27 ?_
          refine lv_iconst (v := 1) hx hb nd_Ref_trialRuns_28 (by decide) ?_
          refine lv_icmp_eq (tgt := 35) hx hb nd_Ref_trialRuns_29 (by decide) (fun c_8 => ?_) (fun c_8 => ?_)
          · have c_8t := cr_eq c_8
            rw [if_pos c_8] at hM
            refine lv_iload_n hx hb nd_Ref_trialRuns_35 rfl (lv_at hl 2 rfl) ?_
            refine lv_if_ne (tgt := 43) hx hb nd_Ref_trialRuns_36 (by decide) (fun c_9 => ?_) (fun c_9 => ?_)
            · have c_9t := cr_ne c_9
              rw [if_neg c_9] at hM
              refine lv_aload_n hx hb nd_Ref_trialRuns_43 rfl (lv_at hl 0 rfl) ?_
              refine lv_iload_n hx hb nd_Ref_trialRuns_44 rfl (lv_at hl 3 rfl) ?_
              have hPc := hP
              have hDc := hD
              have hFc := va_free (wc := cw_Ref cI cZ cJ arf rf lat ln) hD hS hA [0, 1, 2, 3, 4, 5, 6, 7, 8, 9, 10, 11, 12, 13, 14, 15, 16, 17] rfl
              refine va_calli (va_runV (As := [.int v3_4]) (rest := []) ⟨hx, hb, hml, hown, hts⟩ (ct_Ref_trialRank l dC dI cI cZ cJ arf H.size rf lat ln v3_4 hR_rf (by omega)) (cwV 1 hts (ng_V tw_585 tw_587 tp_31 tw_6 tw_588) rfl rfl rfl (by decide +kernel) ⟨Nat.le_of_ble_eq_true rfl, Nat.le_of_ble_eq_true rfl⟩) ⟨fun a U g mk q => by obtain ⟨q0, q1, qP, qK, qD⟩ := q; exact ⟨q0, q1, qP, va_K.moved (u := U) (U := U.calling g mk a) (Vm.Alike.refl U.vm) qK, qD⟩, va_recv hK hPc (ci := 5) (q0 := 0) rfl rfl, fun U hU hW => ⟨rfl, by rw [hU], by rw [hU]; exact hPc, va_K.moved hW.alike hK, hDc.weaken (fun _ _ _ _ => trivial)⟩⟩ rfl rfl hl.1 rfl (lv_room (Nat.le_of_ble_eq_true rfl)) nd_Ref_trialRuns_45 ⟨Nat.zero_le _, Nat.zero_le _⟩) hS (fun q _ h => hFc q h) hFc (fun r_10 u t H1 locs ht hvm hw hB hz1 hk1 hS => ?_)
              obtain ⟨hP1, hK1, hD1⟩ := hB
              rw [ht] at hP1
              have w_11 := hw
              try rw [← w_11] at hM
              have hP := hP1
              have hD := cr_Dw hD1 hFc
              generalize H1 = H at hP hS ⊢
              refine lv_aload_n hx hb nd_Ref_trialRuns_48 rfl (lv_at hl 0 rfl) ?_
              refine lv_iload_n hx hb nd_Ref_trialRuns_49 rfl (lv_at hl 2 rfl) ?_
              have hPc := hP
              have hDc := hD
              have hFc := va_free (wc := cw_Ref cI cZ cJ arf rf lat ln) hD hS hA [0, 1, 2, 3, 4, 5, 6, 7, 8, 9, 10, 11, 12, 13, 14, 15, 16, 17] rfl
              refine va_calli (va_runV (As := [.int v2_4]) (rest := [.int r_10]) ⟨hx, hb, hml, hown, hts⟩ (ct_Ref_trialRank l dC dI cI cZ cJ arf H.size rf lat ln v2_4 hR_rf (by omega)) (cwV 1 hts (ng_V tw_585 tw_587 tp_31 tw_6 tw_588) rfl rfl rfl (by decide +kernel) ⟨Nat.le_of_ble_eq_true rfl, Nat.le_of_ble_eq_true rfl⟩) ⟨fun a U g mk q => by obtain ⟨q0, q1, qP, qK, qD⟩ := q; exact ⟨q0, q1, qP, va_K.moved (u := U) (U := U.calling g mk a) (Vm.Alike.refl U.vm) qK, qD⟩, va_recv hK hPc (ci := 5) (q0 := 0) rfl rfl, fun U hU hW => ⟨rfl, by rw [hU], by rw [hU]; exact hPc, va_K.moved hW.alike hK, hDc.weaken (fun _ _ _ _ => trivial)⟩⟩ rfl rfl hl.1 rfl (lv_room (Nat.le_of_ble_eq_true rfl)) nd_Ref_trialRuns_50 ⟨Nat.zero_le _, Nat.zero_le _⟩) hS (fun q _ h => hFc q h) hFc (fun r_12 u t H1 locs ht hvm hw hB hz1 hk1 hS => ?_)
              obtain ⟨hP1, hK1, hD1⟩ := hB
              rw [ht] at hP1
              have w_13 := hw
              try rw [← w_13] at hM
              have hP := hP1
              have hD := cr_Dw hD1 hFc
              generalize H1 = H at hP hS ⊢
              refine lv_isub hx hb nd_Ref_trialRuns_53 ?_
              refine lv_istore (lv' := [(4, .int (r_10 - r_12)), (0, .ref (arf 0)), (1, .int x1), (2, .int v2_4), (3, .int v3_4)]) hx hb nd_Ref_trialRuns_54 hl (by decide) rfl (fun ls hl => ?_)
              refine lv_iload hx hb nd_Ref_trialRuns_56 (lv_at hl 0 rfl) ?_
              refine lv_if_gt (tgt := 81) hx hb nd_Ref_trialRuns_58 (by decide) (fun c_14 => ?_) (fun c_14 => ?_)
              · have c_14t := cr_lt c_14
                rw [if_pos c_14] at hM
                refine lv_iload_n hx hb nd_Ref_trialRuns_81 rfl (lv_at hl 4 rfl) ?_
                refine lv_istore_n (lv' := [(2, .int v3_4), (4, .int (r_10 - r_12)), (0, .ref (arf 0)), (1, .int x1), (3, .int v3_4)]) hx hb nd_Ref_trialRuns_82 rfl hl (by decide) rfl (fun ls hl => ?_)
                have e_15 : (v3_4 + (1 : Int32)).toInt = v3_4.toInt + (1 : Int32).toInt := cr_add (by omega)
                refine lv_iinc (v := (v3_4 + (1 : Int32))) (lv' := [(3, .int (v3_4 + (1 : Int32))), (2, .int v3_4), (4, .int (r_10 - r_12)), (0, .ref (arf 0)), (1, .int x1)]) hx hb nd_Ref_trialRuns_83 hl (k := 4) rfl (by rfl) (by decide) rfl (fun ls hl => ?_)
                refine lv_goto (tgt := 4) hx hb nd_Ref_trialRuns_86 (by decide) ?_
                exact ih_4 v3_4 (v3_4 + (1 : Int32)) (by omega) (by omega) (by omega) hM _ _ hP hD hS _ (lv_sub hl [3, 4, 1, 0] rfl)
              · have c_14t := cr_nlt c_14
                rw [if_neg c_14] at hM
                refine lv_iload hx hb nd_Ref_trialRuns_61 (lv_at hl 0 rfl) ?_
                refine lv_if_ne (tgt := 83) hx hb nd_Ref_trialRuns_63 (by decide) (fun c_16 => ?_) (fun c_16 => ?_)
                · have c_16t := cr_ne c_16
                  rw [if_neg c_16] at hM
                  have e_17 : (v3_4 + (1 : Int32)).toInt = v3_4.toInt + (1 : Int32).toInt := cr_add (by omega)
                  refine lv_iinc (v := (v3_4 + (1 : Int32))) (lv' := [(3, .int (v3_4 + (1 : Int32))), (4, .int (r_10 - r_12)), (0, .ref (arf 0)), (1, .int x1), (2, .int v2_4)]) hx hb nd_Ref_trialRuns_83 hl (k := 4) rfl (by rfl) (by decide) rfl (fun ls hl => ?_)
                  refine lv_goto (tgt := 4) hx hb nd_Ref_trialRuns_86 (by decide) ?_
                  exact ih_4 v2_4 (v3_4 + (1 : Int32)) (by omega) (by omega) (by omega) hM _ _ hP hD hS _ (lv_sub hl [2, 3, 4, 0] rfl)
                · have c_16t := cr_eq c_16
                  rw [if_pos c_16] at hM
                  refine lv_aload_n hx hb nd_Ref_trialRuns_66 rfl (lv_at hl 1 rfl) ?_
                  refine va_get (D := (dC, dI)) (ci := 5) (v := .ref (arf 14)) (C := "CeilingRowsModel") (T := nf_Ref) (N := 22) hx hb hts nin_Ref hown hK hP 0 rfl rfl 18 (by decide) (hts _ tw_431) (fun _ h9 => h9) rfl nd_Ref_trialRuns_67 ?_
                  refine lv_iload_n hx hb nd_Ref_trialRuns_70 rfl (lv_at hl 4 rfl) ?_
                  have b_18 : vp_in v3_4 11 := vp_in_iff.mpr (by omega)
                  refine va_iald hx hb hK hP 14 0 rfl rfl b_18 nd_Ref_trialRuns_71 ?_
                  refine lv_aload_n hx hb nd_Ref_trialRuns_72 rfl (lv_at hl 1 rfl) ?_
                  refine va_get (D := (dC, dI)) (ci := 5) (v := .ref (arf 14)) (C := "CeilingRowsModel") (T := nf_Ref) (N := 22) hx hb hts nin_Ref hown hK hP 0 rfl rfl 18 (by decide) (hts _ tw_431) (fun _ h9 => h9) rfl nd_Ref_trialRuns_73 ?_
                  refine lv_iload_n hx hb nd_Ref_trialRuns_76 rfl (lv_at hl 3 rfl) ?_
                  have b_19 : vp_in v2_4 11 := vp_in_iff.mpr (by omega)
                  refine va_iald hx hb hK hP 14 0 rfl rfl b_19 nd_Ref_trialRuns_77 ?_
                  refine lv_icmp_ge (tgt := 83) hx hb nd_Ref_trialRuns_78 (by decide) (fun c_20 => ?_) (fun c_20 => ?_)
                  · have c_20t := cr_le c_20
                    rw [if_pos c_20] at hM
                    have e_21 : (v3_4 + (1 : Int32)).toInt = v3_4.toInt + (1 : Int32).toInt := cr_add (by omega)
                    refine lv_iinc (v := (v3_4 + (1 : Int32))) (lv' := [(3, .int (v3_4 + (1 : Int32))), (4, .int (r_10 - r_12)), (0, .ref (arf 0)), (1, .int x1), (2, .int v2_4)]) hx hb nd_Ref_trialRuns_83 hl (k := 4) rfl (by rfl) (by decide) rfl (fun ls hl => ?_)
                    refine lv_goto (tgt := 4) hx hb nd_Ref_trialRuns_86 (by decide) ?_
                    exact ih_4 v2_4 (v3_4 + (1 : Int32)) (by omega) (by omega) (by omega) hM _ _ hP hD hS _ (lv_sub hl [2, 3, 4, 0] rfl)
                  · have c_20t := cr_nle c_20
                    rw [if_neg c_20] at hM
                    refine lv_iload_n hx hb nd_Ref_trialRuns_81 rfl (lv_at hl 4 rfl) ?_
                    refine lv_istore_n (lv' := [(2, .int v3_4), (4, .int (r_10 - r_12)), (0, .ref (arf 0)), (1, .int x1), (3, .int v3_4)]) hx hb nd_Ref_trialRuns_82 rfl hl (by decide) rfl (fun ls hl => ?_)
                    have e_22 : (v3_4 + (1 : Int32)).toInt = v3_4.toInt + (1 : Int32).toInt := cr_add (by omega)
                    refine lv_iinc (v := (v3_4 + (1 : Int32))) (lv' := [(3, .int (v3_4 + (1 : Int32))), (2, .int v3_4), (4, .int (r_10 - r_12)), (0, .ref (arf 0)), (1, .int x1)]) hx hb nd_Ref_trialRuns_83 hl (k := 4) rfl (by rfl) (by decide) rfl (fun ls hl => ?_)
                    refine lv_goto (tgt := 4) hx hb nd_Ref_trialRuns_86 (by decide) ?_
                    exact ih_4 v3_4 (v3_4 + (1 : Int32)) (by omega) (by omega) (by omega) hM _ _ hP hD hS _ (lv_sub hl [3, 4, 1, 0] rfl)
            · have c_9t := cr_eq c_9
              rw [if_pos c_9] at hM
              refine lv_iconst (v := 1) hx hb nd_Ref_trialRuns_39 (by decide) ?_
              refine lv_goto (tgt := 54) hx hb nd_Ref_trialRuns_40 (by decide) ?_
              refine lv_istore (lv' := [(4, .int (1 : Int32)), (0, .ref (arf 0)), (1, .int x1), (2, .int v2_4), (3, .int v3_4)]) hx hb nd_Ref_trialRuns_54 hl (by decide) rfl (fun ls hl => ?_)
              refine lv_iload hx hb nd_Ref_trialRuns_56 (lv_at hl 0 rfl) ?_
              refine lv_if_gt (tgt := 81) hx hb nd_Ref_trialRuns_58 (by decide) (fun c_23 => ?_) (fun c_23 => ?_)
              · refine lv_iload_n hx hb nd_Ref_trialRuns_81 rfl (lv_at hl 4 rfl) ?_
                refine lv_istore_n (lv' := [(2, .int v3_4), (4, .int (1 : Int32)), (0, .ref (arf 0)), (1, .int x1), (3, .int v3_4)]) hx hb nd_Ref_trialRuns_82 rfl hl (by decide) rfl (fun ls hl => ?_)
                have e_24 : (v3_4 + (1 : Int32)).toInt = v3_4.toInt + (1 : Int32).toInt := cr_add (by omega)
                refine lv_iinc (v := (v3_4 + (1 : Int32))) (lv' := [(3, .int (v3_4 + (1 : Int32))), (2, .int v3_4), (4, .int (1 : Int32)), (0, .ref (arf 0)), (1, .int x1)]) hx hb nd_Ref_trialRuns_83 hl (k := 4) rfl (by rfl) (by decide) rfl (fun ls hl => ?_)
                refine lv_goto (tgt := 4) hx hb nd_Ref_trialRuns_86 (by decide) ?_
                exact ih_4 v3_4 (v3_4 + (1 : Int32)) (by omega) (by omega) (by omega) hM _ _ hP hD hS _ (lv_sub hl [3, 4, 1, 0] rfl)
              · exact absurd c_23 (by decide)
          · have c_8t := cr_ne c_8
            rw [if_neg c_8] at hM
            refine lv_goto (tgt := 83) hx hb nd_Ref_trialRuns_32 (by decide) ?_
            have e_25 : (v3_4 + (1 : Int32)).toInt = v3_4.toInt + (1 : Int32).toInt := cr_add (by omega)
            refine lv_iinc (v := (v3_4 + (1 : Int32))) (lv' := [(3, .int (v3_4 + (1 : Int32))), (0, .ref (arf 0)), (1, .int x1), (2, .int v2_4)]) hx hb nd_Ref_trialRuns_83 hl (k := 3) rfl (by rfl) (by decide) rfl (fun ls hl => ?_)
            refine lv_goto (tgt := 4) hx hb nd_Ref_trialRuns_86 (by decide) ?_
            exact ih_4 v2_4 (v3_4 + (1 : Int32)) (by omega) (by omega) (by omega) hM _ _ hP hD hS _ (lv_sub hl [1, 2, 3, 0] rfl)
  exact lp_4 11 (0 : Int32) (1 : Int32) (by omega) (by omega) (by omega) hM _ _ hP hD hS _ hl

theorem nd_Ref_plain_0 : decode prog_7_method_28_code 0 = .ok (.iconst 0, 1) := by decide +kernel
theorem nd_Ref_plain_1 : decode prog_7_method_28_code 1 = .ok (.istore_n 3, 1) := by decide +kernel
theorem nd_Ref_plain_2 : decode prog_7_method_28_code 2 = .ok (.iload_n 3, 1) := by decide +kernel
theorem nd_Ref_plain_3 : decode prog_7_method_28_code 3 = .ok (.sipush 1089, 3) := by decide +kernel
theorem nd_Ref_plain_6 : decode prog_7_method_28_code 6 = .ok (.if_icmp .ge (16), 3) := by decide +kernel
theorem nd_Ref_plain_9 : decode prog_7_method_28_code 9 = .ok (.aload_n 0, 1) := by decide +kernel
theorem nd_Ref_plain_10 : decode prog_7_method_28_code 10 = .ok (.getfield 60, 3) := by decide +kernel
theorem nd_Ref_plain_13 : decode prog_7_method_28_code 13 = .ok (.iload_n 3, 1) := by decide +kernel
theorem nd_Ref_plain_14 : decode prog_7_method_28_code 14 = .ok (.iconst 0, 1) := by decide +kernel
theorem nd_Ref_plain_15 : decode prog_7_method_28_code 15 = .ok (.bastore, 1) := by decide +kernel
theorem nd_Ref_plain_16 : decode prog_7_method_28_code 16 = .ok (.iinc 3 1, 3) := by decide +kernel
theorem nd_Ref_plain_19 : decode prog_7_method_28_code 19 = .ok (.goto (-17), 3) := by decide +kernel
theorem nd_Ref_plain_22 : decode prog_7_method_28_code 22 = .ok (.iconst 1, 1) := by decide +kernel
theorem nd_Ref_plain_23 : decode prog_7_method_28_code 23 = .ok (.istore_n 3, 1) := by decide +kernel
theorem nd_Ref_plain_24 : decode prog_7_method_28_code 24 = .ok (.iload_n 3, 1) := by decide +kernel
theorem nd_Ref_plain_25 : decode prog_7_method_28_code 25 = .ok (.aload_n 0, 1) := by decide +kernel
theorem nd_Ref_plain_26 : decode prog_7_method_28_code 26 = .ok (.getfield 63, 3) := by decide +kernel
theorem nd_Ref_plain_29 : decode prog_7_method_28_code 29 = .ok (.if_icmp .gt (30), 3) := by decide +kernel
theorem nd_Ref_plain_32 : decode prog_7_method_28_code 32 = .ok (.aload_n 0, 1) := by decide +kernel
theorem nd_Ref_plain_33 : decode prog_7_method_28_code 33 = .ok (.getfield 48, 3) := by decide +kernel
theorem nd_Ref_plain_36 : decode prog_7_method_28_code 36 = .ok (.iload_n 3, 1) := by decide +kernel
theorem nd_Ref_plain_37 : decode prog_7_method_28_code 37 = .ok (.iconst 0, 1) := by decide +kernel
theorem nd_Ref_plain_38 : decode prog_7_method_28_code 38 = .ok (.iastore, 1) := by decide +kernel
theorem nd_Ref_plain_39 : decode prog_7_method_28_code 39 = .ok (.aload_n 0, 1) := by decide +kernel
theorem nd_Ref_plain_40 : decode prog_7_method_28_code 40 = .ok (.getfield 54, 3) := by decide +kernel
theorem nd_Ref_plain_43 : decode prog_7_method_28_code 43 = .ok (.iload_n 3, 1) := by decide +kernel
theorem nd_Ref_plain_44 : decode prog_7_method_28_code 44 = .ok (.iconst 0, 1) := by decide +kernel
theorem nd_Ref_plain_45 : decode prog_7_method_28_code 45 = .ok (.iastore, 1) := by decide +kernel
theorem nd_Ref_plain_46 : decode prog_7_method_28_code 46 = .ok (.aload_n 0, 1) := by decide +kernel
theorem nd_Ref_plain_47 : decode prog_7_method_28_code 47 = .ok (.getfield 57, 3) := by decide +kernel
theorem nd_Ref_plain_50 : decode prog_7_method_28_code 50 = .ok (.iload_n 3, 1) := by decide +kernel
theorem nd_Ref_plain_51 : decode prog_7_method_28_code 51 = .ok (.iconst 0, 1) := by decide +kernel
theorem nd_Ref_plain_52 : decode prog_7_method_28_code 52 = .ok (.iastore, 1) := by decide +kernel
theorem nd_Ref_plain_53 : decode prog_7_method_28_code 53 = .ok (.iinc 3 1, 3) := by decide +kernel
theorem nd_Ref_plain_56 : decode prog_7_method_28_code 56 = .ok (.goto (-32), 3) := by decide +kernel
theorem nd_Ref_plain_59 : decode prog_7_method_28_code 59 = .ok (.iconst 0, 1) := by decide +kernel
theorem nd_Ref_plain_60 : decode prog_7_method_28_code 60 = .ok (.istore_n 3, 1) := by decide +kernel
theorem nd_Ref_plain_61 : decode prog_7_method_28_code 61 = .ok (.iconst 0, 1) := by decide +kernel
theorem nd_Ref_plain_62 : decode prog_7_method_28_code 62 = .ok (.istore 4, 2) := by decide +kernel
theorem nd_Ref_plain_64 : decode prog_7_method_28_code 64 = .ok (.iload 4, 2) := by decide +kernel
theorem nd_Ref_plain_66 : decode prog_7_method_28_code 66 = .ok (.sipush 400, 3) := by decide +kernel
theorem nd_Ref_plain_69 : decode prog_7_method_28_code 69 = .ok (.if_icmp .ge (269), 3) := by decide +kernel
theorem nd_Ref_plain_72 : decode prog_7_method_28_code 72 = .ok (.iconst 1, 1) := by decide +kernel
theorem nd_Ref_plain_73 : decode prog_7_method_28_code 73 = .ok (.istore 5, 2) := by decide +kernel
theorem nd_Ref_plain_75 : decode prog_7_method_28_code 75 = .ok (.iload 5, 2) := by decide +kernel
theorem nd_Ref_plain_77 : decode prog_7_method_28_code 77 = .ok (.aload_n 0, 1) := by decide +kernel
theorem nd_Ref_plain_78 : decode prog_7_method_28_code 78 = .ok (.getfield 63, 3) := by decide +kernel
theorem nd_Ref_plain_81 : decode prog_7_method_28_code 81 = .ok (.if_icmp .gt (50), 3) := by decide +kernel
theorem nd_Ref_plain_84 : decode prog_7_method_28_code 84 = .ok (.lload_n 1, 1) := by decide +kernel
theorem nd_Ref_plain_85 : decode prog_7_method_28_code 85 = .ok (.iconst 3, 1) := by decide +kernel
theorem nd_Ref_plain_86 : decode prog_7_method_28_code 86 = .ok (.iload 5, 2) := by decide +kernel
theorem nd_Ref_plain_88 : decode prog_7_method_28_code 88 = .ok (.iconst 1, 1) := by decide +kernel
theorem nd_Ref_plain_89 : decode prog_7_method_28_code 89 = .ok (.isub, 1) := by decide +kernel
theorem nd_Ref_plain_90 : decode prog_7_method_28_code 90 = .ok (.imul, 1) := by decide +kernel
theorem nd_Ref_plain_91 : decode prog_7_method_28_code 91 = .ok (.lshr, 1) := by decide +kernel
theorem nd_Ref_plain_92 : decode prog_7_method_28_code 92 = .ok (.ldc2_w 133, 3) := by decide +kernel
theorem nd_Ref_plain_95 : decode prog_7_method_28_code 95 = .ok (.land, 1) := by decide +kernel
theorem nd_Ref_plain_96 : decode prog_7_method_28_code 96 = .ok (.iload 4, 2) := by decide +kernel
theorem nd_Ref_plain_98 : decode prog_7_method_28_code 98 = .ok (.i2l, 1) := by decide +kernel
theorem nd_Ref_plain_99 : decode prog_7_method_28_code 99 = .ok (.lcmp, 1) := by decide +kernel
theorem nd_Ref_plain_100 : decode prog_7_method_28_code 100 = .ok (.ifCond .eq (6), 3) := by decide +kernel
theorem nd_Ref_plain_103 : decode prog_7_method_28_code 103 = .ok (.goto (22), 3) := by decide +kernel
theorem nd_Ref_plain_106 : decode prog_7_method_28_code 106 = .ok (.aload_n 0, 1) := by decide +kernel
theorem nd_Ref_plain_107 : decode prog_7_method_28_code 107 = .ok (.getfield 48, 3) := by decide +kernel
theorem nd_Ref_plain_110 : decode prog_7_method_28_code 110 = .ok (.iload 5, 2) := by decide +kernel
theorem nd_Ref_plain_112 : decode prog_7_method_28_code 112 = .ok (.iconst 1, 1) := by decide +kernel
theorem nd_Ref_plain_113 : decode prog_7_method_28_code 113 = .ok (.iastore, 1) := by decide +kernel
theorem nd_Ref_plain_114 : decode prog_7_method_28_code 114 = .ok (.iinc 3 1, 3) := by decide +kernel
theorem nd_Ref_plain_117 : decode prog_7_method_28_code 117 = .ok (.aload_n 0, 1) := by decide +kernel
theorem nd_Ref_plain_118 : decode prog_7_method_28_code 118 = .ok (.getfield 51, 3) := by decide +kernel
theorem nd_Ref_plain_121 : decode prog_7_method_28_code 121 = .ok (.iload 5, 2) := by decide +kernel
theorem nd_Ref_plain_123 : decode prog_7_method_28_code 123 = .ok (.iload_n 3, 1) := by decide +kernel
theorem nd_Ref_plain_124 : decode prog_7_method_28_code 124 = .ok (.iastore, 1) := by decide +kernel
theorem nd_Ref_plain_125 : decode prog_7_method_28_code 125 = .ok (.iinc 5 1, 3) := by decide +kernel
theorem nd_Ref_plain_128 : decode prog_7_method_28_code 128 = .ok (.goto (-53), 3) := by decide +kernel
theorem nd_Ref_plain_131 : decode prog_7_method_28_code 131 = .ok (.iconst 1, 1) := by decide +kernel
theorem nd_Ref_plain_132 : decode prog_7_method_28_code 132 = .ok (.istore 5, 2) := by decide +kernel
theorem nd_Ref_plain_134 : decode prog_7_method_28_code 134 = .ok (.iload 5, 2) := by decide +kernel
theorem nd_Ref_plain_136 : decode prog_7_method_28_code 136 = .ok (.iconst 4, 1) := by decide +kernel
theorem nd_Ref_plain_137 : decode prog_7_method_28_code 137 = .ok (.if_icmp .ge (195), 3) := by decide +kernel
theorem nd_Ref_plain_140 : decode prog_7_method_28_code 140 = .ok (.aload_n 0, 1) := by decide +kernel
theorem nd_Ref_plain_141 : decode prog_7_method_28_code 141 = .ok (.iload 5, 2) := by decide +kernel
theorem nd_Ref_plain_143 : decode prog_7_method_28_code 143 = .ok (.invokevirtual 135, 3) := by decide +kernel
theorem nd_Ref_plain_146 : decode prog_7_method_28_code 146 = .ok (.istore 6, 2) := by decide +kernel
theorem nd_Ref_plain_148 : decode prog_7_method_28_code 148 = .ok (.iload 6, 2) := by decide +kernel
theorem nd_Ref_plain_150 : decode prog_7_method_28_code 150 = .ok (.ifCond .ne (6), 3) := by decide +kernel
theorem nd_Ref_plain_153 : decode prog_7_method_28_code 153 = .ok (.goto (173), 3) := by decide +kernel
theorem nd_Ref_plain_156 : decode prog_7_method_28_code 156 = .ok (.aload_n 0, 1) := by decide +kernel
theorem nd_Ref_plain_157 : decode prog_7_method_28_code 157 = .ok (.iload 6, 2) := by decide +kernel
theorem nd_Ref_plain_159 : decode prog_7_method_28_code 159 = .ok (.aload_n 0, 1) := by decide +kernel
theorem nd_Ref_plain_160 : decode prog_7_method_28_code 160 = .ok (.getfield 54, 3) := by decide +kernel
theorem nd_Ref_plain_163 : decode prog_7_method_28_code 163 = .ok (.iload 6, 2) := by decide +kernel
theorem nd_Ref_plain_165 : decode prog_7_method_28_code 165 = .ok (.iaload, 1) := by decide +kernel
theorem nd_Ref_plain_166 : decode prog_7_method_28_code 166 = .ok (.invokevirtual 138, 3) := by decide +kernel
theorem nd_Ref_plain_169 : decode prog_7_method_28_code 169 = .ok (.istore 7, 2) := by decide +kernel
theorem nd_Ref_plain_171 : decode prog_7_method_28_code 171 = .ok (.aload_n 0, 1) := by decide +kernel
theorem nd_Ref_plain_172 : decode prog_7_method_28_code 172 = .ok (.getfield 57, 3) := by decide +kernel
theorem nd_Ref_plain_175 : decode prog_7_method_28_code 175 = .ok (.iload 6, 2) := by decide +kernel
theorem nd_Ref_plain_177 : decode prog_7_method_28_code 177 = .ok (.iload 7, 2) := by decide +kernel
theorem nd_Ref_plain_179 : decode prog_7_method_28_code 179 = .ok (.iastore, 1) := by decide +kernel
theorem nd_Ref_plain_180 : decode prog_7_method_28_code 180 = .ok (.iconst 1, 1) := by decide +kernel
theorem nd_Ref_plain_181 : decode prog_7_method_28_code 181 = .ok (.istore 8, 2) := by decide +kernel
theorem nd_Ref_plain_183 : decode prog_7_method_28_code 183 = .ok (.iload 8, 2) := by decide +kernel
theorem nd_Ref_plain_185 : decode prog_7_method_28_code 185 = .ok (.aload_n 0, 1) := by decide +kernel
theorem nd_Ref_plain_186 : decode prog_7_method_28_code 186 = .ok (.getfield 63, 3) := by decide +kernel
theorem nd_Ref_plain_189 : decode prog_7_method_28_code 189 = .ok (.if_icmp .gt (74), 3) := by decide +kernel
theorem nd_Ref_plain_192 : decode prog_7_method_28_code 192 = .ok (.iload 7, 2) := by decide +kernel
theorem nd_Ref_plain_194 : decode prog_7_method_28_code 194 = .ok (.ifCond .le (69), 3) := by decide +kernel
theorem nd_Ref_plain_197 : decode prog_7_method_28_code 197 = .ok (.aload_n 0, 1) := by decide +kernel
theorem nd_Ref_plain_198 : decode prog_7_method_28_code 198 = .ok (.getfield 13, 3) := by decide +kernel
theorem nd_Ref_plain_201 : decode prog_7_method_28_code 201 = .ok (.iload 8, 2) := by decide +kernel
theorem nd_Ref_plain_203 : decode prog_7_method_28_code 203 = .ok (.iaload, 1) := by decide +kernel
theorem nd_Ref_plain_204 : decode prog_7_method_28_code 204 = .ok (.iload 5, 2) := by decide +kernel
theorem nd_Ref_plain_206 : decode prog_7_method_28_code 206 = .ok (.if_icmp .ne (51), 3) := by decide +kernel
theorem nd_Ref_plain_209 : decode prog_7_method_28_code 209 = .ok (.aload_n 0, 1) := by decide +kernel
theorem nd_Ref_plain_210 : decode prog_7_method_28_code 210 = .ok (.getfield 7, 3) := by decide +kernel
theorem nd_Ref_plain_213 : decode prog_7_method_28_code 213 = .ok (.iload 6, 2) := by decide +kernel
theorem nd_Ref_plain_215 : decode prog_7_method_28_code 215 = .ok (.iaload, 1) := by decide +kernel
theorem nd_Ref_plain_216 : decode prog_7_method_28_code 216 = .ok (.aload_n 0, 1) := by decide +kernel
theorem nd_Ref_plain_217 : decode prog_7_method_28_code 217 = .ok (.getfield 7, 3) := by decide +kernel
theorem nd_Ref_plain_220 : decode prog_7_method_28_code 220 = .ok (.iload 8, 2) := by decide +kernel
theorem nd_Ref_plain_222 : decode prog_7_method_28_code 222 = .ok (.iaload, 1) := by decide +kernel
theorem nd_Ref_plain_223 : decode prog_7_method_28_code 223 = .ok (.if_icmp .ge (34), 3) := by decide +kernel
theorem nd_Ref_plain_226 : decode prog_7_method_28_code 226 = .ok (.aload_n 0, 1) := by decide +kernel
theorem nd_Ref_plain_227 : decode prog_7_method_28_code 227 = .ok (.getfield 48, 3) := by decide +kernel
theorem nd_Ref_plain_230 : decode prog_7_method_28_code 230 = .ok (.iload 8, 2) := by decide +kernel
theorem nd_Ref_plain_232 : decode prog_7_method_28_code 232 = .ok (.iaload, 1) := by decide +kernel
theorem nd_Ref_plain_233 : decode prog_7_method_28_code 233 = .ok (.iconst 1, 1) := by decide +kernel
theorem nd_Ref_plain_234 : decode prog_7_method_28_code 234 = .ok (.if_icmp .ne (23), 3) := by decide +kernel
theorem nd_Ref_plain_237 : decode prog_7_method_28_code 237 = .ok (.aload_n 0, 1) := by decide +kernel
theorem nd_Ref_plain_238 : decode prog_7_method_28_code 238 = .ok (.getfield 60, 3) := by decide +kernel
theorem nd_Ref_plain_241 : decode prog_7_method_28_code 241 = .ok (.bipush 99, 2) := by decide +kernel
theorem nd_Ref_plain_243 : decode prog_7_method_28_code 243 = .ok (.iload 8, 2) := by decide +kernel
theorem nd_Ref_plain_245 : decode prog_7_method_28_code 245 = .ok (.imul, 1) := by decide +kernel
theorem nd_Ref_plain_246 : decode prog_7_method_28_code 246 = .ok (.bipush 9, 2) := by decide +kernel
theorem nd_Ref_plain_248 : decode prog_7_method_28_code 248 = .ok (.iload 6, 2) := by decide +kernel
theorem nd_Ref_plain_250 : decode prog_7_method_28_code 250 = .ok (.imul, 1) := by decide +kernel
theorem nd_Ref_plain_251 : decode prog_7_method_28_code 251 = .ok (.iadd, 1) := by decide +kernel
theorem nd_Ref_plain_252 : decode prog_7_method_28_code 252 = .ok (.iload 7, 2) := by decide +kernel
theorem nd_Ref_plain_254 : decode prog_7_method_28_code 254 = .ok (.iadd, 1) := by decide +kernel
theorem nd_Ref_plain_255 : decode prog_7_method_28_code 255 = .ok (.iconst 1, 1) := by decide +kernel
theorem nd_Ref_plain_256 : decode prog_7_method_28_code 256 = .ok (.bastore, 1) := by decide +kernel
theorem nd_Ref_plain_257 : decode prog_7_method_28_code 257 = .ok (.iinc 8 1, 3) := by decide +kernel
theorem nd_Ref_plain_260 : decode prog_7_method_28_code 260 = .ok (.goto (-77), 3) := by decide +kernel
theorem nd_Ref_plain_263 : decode prog_7_method_28_code 263 = .ok (.aload_n 0, 1) := by decide +kernel
theorem nd_Ref_plain_264 : decode prog_7_method_28_code 264 = .ok (.getfield 54, 3) := by decide +kernel
theorem nd_Ref_plain_267 : decode prog_7_method_28_code 267 = .ok (.iload 6, 2) := by decide +kernel
theorem nd_Ref_plain_269 : decode prog_7_method_28_code 269 = .ok (.dup2, 1) := by decide +kernel
theorem nd_Ref_plain_270 : decode prog_7_method_28_code 270 = .ok (.iaload, 1) := by decide +kernel
theorem nd_Ref_plain_271 : decode prog_7_method_28_code 271 = .ok (.iconst 1, 1) := by decide +kernel
theorem nd_Ref_plain_272 : decode prog_7_method_28_code 272 = .ok (.iadd, 1) := by decide +kernel
theorem nd_Ref_plain_273 : decode prog_7_method_28_code 273 = .ok (.iastore, 1) := by decide +kernel
theorem nd_Ref_plain_274 : decode prog_7_method_28_code 274 = .ok (.aload_n 0, 1) := by decide +kernel
theorem nd_Ref_plain_275 : decode prog_7_method_28_code 275 = .ok (.iload 6, 2) := by decide +kernel
theorem nd_Ref_plain_277 : decode prog_7_method_28_code 277 = .ok (.aload_n 0, 1) := by decide +kernel
theorem nd_Ref_plain_278 : decode prog_7_method_28_code 278 = .ok (.getfield 54, 3) := by decide +kernel
theorem nd_Ref_plain_281 : decode prog_7_method_28_code 281 = .ok (.iload 6, 2) := by decide +kernel
theorem nd_Ref_plain_283 : decode prog_7_method_28_code 283 = .ok (.iaload, 1) := by decide +kernel
theorem nd_Ref_plain_284 : decode prog_7_method_28_code 284 = .ok (.invokevirtual 138, 3) := by decide +kernel
theorem nd_Ref_plain_287 : decode prog_7_method_28_code 287 = .ok (.istore 8, 2) := by decide +kernel
theorem nd_Ref_plain_289 : decode prog_7_method_28_code 289 = .ok (.aload_n 0, 1) := by decide +kernel
theorem nd_Ref_plain_290 : decode prog_7_method_28_code 290 = .ok (.getfield 57, 3) := by decide +kernel
theorem nd_Ref_plain_293 : decode prog_7_method_28_code 293 = .ok (.iload 6, 2) := by decide +kernel
theorem nd_Ref_plain_295 : decode prog_7_method_28_code 295 = .ok (.iload 8, 2) := by decide +kernel
theorem nd_Ref_plain_297 : decode prog_7_method_28_code 297 = .ok (.iload 7, 2) := by decide +kernel
theorem nd_Ref_plain_299 : decode prog_7_method_28_code 299 = .ok (.if_icmp .ne (8), 3) := by decide +kernel
theorem nd_Ref_plain_302 : decode prog_7_method_28_code 302 = .ok (.iload 7, 2) := by decide +kernel
theorem nd_Ref_plain_304 : decode prog_7_method_28_code 304 = .ok (.goto (4), 3) := by decide +kernel
theorem nd_Ref_plain_307 : decode prog_7_method_28_code 307 = .ok (.iconst 0, 1) := by decide +kernel
theorem nd_Ref_plain_308 : decode prog_7_method_28_code 308 = .ok (.iastore, 1) := by decide +kernel
theorem nd_Ref_plain_309 : decode prog_7_method_28_code 309 = .ok (.aload_n 0, 1) := by decide +kernel
theorem nd_Ref_plain_310 : decode prog_7_method_28_code 310 = .ok (.getfield 48, 3) := by decide +kernel
theorem nd_Ref_plain_313 : decode prog_7_method_28_code 313 = .ok (.iload 6, 2) := by decide +kernel
theorem nd_Ref_plain_315 : decode prog_7_method_28_code 315 = .ok (.iload 8, 2) := by decide +kernel
theorem nd_Ref_plain_317 : decode prog_7_method_28_code 317 = .ok (.ifCond .ge (7), 3) := by decide +kernel
theorem nd_Ref_plain_320 : decode prog_7_method_28_code 320 = .ok (.iconst 2, 1) := by decide +kernel
theorem nd_Ref_plain_321 : decode prog_7_method_28_code 321 = .ok (.goto (4), 3) := by decide +kernel
theorem nd_Ref_plain_324 : decode prog_7_method_28_code 324 = .ok (.iconst 1, 1) := by decide +kernel
theorem nd_Ref_plain_325 : decode prog_7_method_28_code 325 = .ok (.iastore, 1) := by decide +kernel
theorem nd_Ref_plain_326 : decode prog_7_method_28_code 326 = .ok (.iinc 5 1, 3) := by decide +kernel
theorem nd_Ref_plain_329 : decode prog_7_method_28_code 329 = .ok (.goto (-195), 3) := by decide +kernel
theorem nd_Ref_plain_332 : decode prog_7_method_28_code 332 = .ok (.iinc 4 1, 3) := by decide +kernel
theorem nd_Ref_plain_335 : decode prog_7_method_28_code 335 = .ok (.goto (-271), 3) := by decide +kernel
theorem nd_Ref_plain_338 : decode prog_7_method_28_code 338 = .ok (.iconst 0, 1) := by decide +kernel
theorem nd_Ref_plain_339 : decode prog_7_method_28_code 339 = .ok (.istore 4, 2) := by decide +kernel
theorem nd_Ref_plain_341 : decode prog_7_method_28_code 341 = .ok (.iconst 1, 1) := by decide +kernel
theorem nd_Ref_plain_342 : decode prog_7_method_28_code 342 = .ok (.istore 5, 2) := by decide +kernel
theorem nd_Ref_plain_344 : decode prog_7_method_28_code 344 = .ok (.iload 5, 2) := by decide +kernel
theorem nd_Ref_plain_346 : decode prog_7_method_28_code 346 = .ok (.aload_n 0, 1) := by decide +kernel
theorem nd_Ref_plain_347 : decode prog_7_method_28_code 347 = .ok (.getfield 63, 3) := by decide +kernel
theorem nd_Ref_plain_350 : decode prog_7_method_28_code 350 = .ok (.if_icmp .gt (71), 3) := by decide +kernel
theorem nd_Ref_plain_353 : decode prog_7_method_28_code 353 = .ok (.iconst 0, 1) := by decide +kernel
theorem nd_Ref_plain_354 : decode prog_7_method_28_code 354 = .ok (.istore 6, 2) := by decide +kernel
theorem nd_Ref_plain_356 : decode prog_7_method_28_code 356 = .ok (.iconst 0, 1) := by decide +kernel
theorem nd_Ref_plain_357 : decode prog_7_method_28_code 357 = .ok (.istore 7, 2) := by decide +kernel
theorem nd_Ref_plain_359 : decode prog_7_method_28_code 359 = .ok (.iload 7, 2) := by decide +kernel
theorem nd_Ref_plain_361 : decode prog_7_method_28_code 361 = .ok (.bipush 99, 2) := by decide +kernel
theorem nd_Ref_plain_363 : decode prog_7_method_28_code 363 = .ok (.if_icmp .ge (36), 3) := by decide +kernel
theorem nd_Ref_plain_366 : decode prog_7_method_28_code 366 = .ok (.aload_n 0, 1) := by decide +kernel
theorem nd_Ref_plain_367 : decode prog_7_method_28_code 367 = .ok (.getfield 60, 3) := by decide +kernel
theorem nd_Ref_plain_370 : decode prog_7_method_28_code 370 = .ok (.bipush 99, 2) := by decide +kernel
theorem nd_Ref_plain_372 : decode prog_7_method_28_code 372 = .ok (.iload 5, 2) := by decide +kernel
theorem nd_Ref_plain_374 : decode prog_7_method_28_code 374 = .ok (.imul, 1) := by decide +kernel
theorem nd_Ref_plain_375 : decode prog_7_method_28_code 375 = .ok (.iload 7, 2) := by decide +kernel
theorem nd_Ref_plain_377 : decode prog_7_method_28_code 377 = .ok (.iadd, 1) := by decide +kernel
theorem nd_Ref_plain_378 : decode prog_7_method_28_code 378 = .ok (.baload, 1) := by decide +kernel
theorem nd_Ref_plain_379 : decode prog_7_method_28_code 379 = .ok (.ifCond .eq (10), 3) := by decide +kernel
theorem nd_Ref_plain_382 : decode prog_7_method_28_code 382 = .ok (.iload 6, 2) := by decide +kernel
theorem nd_Ref_plain_384 : decode prog_7_method_28_code 384 = .ok (.iconst 1, 1) := by decide +kernel
theorem nd_Ref_plain_385 : decode prog_7_method_28_code 385 = .ok (.iadd, 1) := by decide +kernel
theorem nd_Ref_plain_386 : decode prog_7_method_28_code 386 = .ok (.goto (5), 3) := by decide +kernel
theorem nd_Ref_plain_389 : decode prog_7_method_28_code 389 = .ok (.iload 6, 2) := by decide +kernel
theorem nd_Ref_plain_391 : decode prog_7_method_28_code 391 = .ok (.istore 6, 2) := by decide +kernel
theorem nd_Ref_plain_393 : decode prog_7_method_28_code 393 = .ok (.iinc 7 1, 3) := by decide +kernel
theorem nd_Ref_plain_396 : decode prog_7_method_28_code 396 = .ok (.goto (-37), 3) := by decide +kernel
theorem nd_Ref_plain_399 : decode prog_7_method_28_code 399 = .ok (.iload 6, 2) := by decide +kernel
theorem nd_Ref_plain_401 : decode prog_7_method_28_code 401 = .ok (.iload 4, 2) := by decide +kernel
theorem nd_Ref_plain_403 : decode prog_7_method_28_code 403 = .ok (.if_icmp .le (8), 3) := by decide +kernel
theorem nd_Ref_plain_406 : decode prog_7_method_28_code 406 = .ok (.iload 6, 2) := by decide +kernel
theorem nd_Ref_plain_408 : decode prog_7_method_28_code 408 = .ok (.goto (5), 3) := by decide +kernel
theorem nd_Ref_plain_411 : decode prog_7_method_28_code 411 = .ok (.iload 4, 2) := by decide +kernel
theorem nd_Ref_plain_413 : decode prog_7_method_28_code 413 = .ok (.istore 4, 2) := by decide +kernel
theorem nd_Ref_plain_415 : decode prog_7_method_28_code 415 = .ok (.iinc 5 1, 3) := by decide +kernel
theorem nd_Ref_plain_418 : decode prog_7_method_28_code 418 = .ok (.goto (-74), 3) := by decide +kernel
theorem nd_Ref_plain_421 : decode prog_7_method_28_code 421 = .ok (.iload 4, 2) := by decide +kernel
theorem nd_Ref_plain_423 : decode prog_7_method_28_code 423 = .ok (.ireturn, 1) := by decide +kernel
abbrev pq_Ref_plain (dC : Nat → ClassId) (dI : Nat → Nat → Nat) (cI cZ cJ : ClassId) (arf : Nat → Nat) (rf : cr_S) (lat : Int64) (ln : (Nat → Int64)) (x1 : Int64) (A : Nat → Prop) : Array Value → State → Outcome → State → Prop :=
  va_Qi (fun (r : Int32) (rf' : cr_S) => r = (md_Ref_plain rf lat ln x1).1 ∧ rf' = (md_Ref_plain rf lat ln x1).2 ∧ cr_RRef rf') (fun (rf' : cr_S) t => va_P (dC, dI) vwCl (cw_Ref cI cZ cJ arf rf' lat ln) t.heap ∧ va_K (dC, dI) vwCl [(cI, .int), (cZ, .boolean), (cJ, .long)] t ∧ va_D A (cw_Ref cI cZ cJ arf rf' lat ln)) A
set_option maxHeartbeats 4000000 in
set_option maxRecDepth 100000 in
theorem ct_Ref_plain (l : Launch) (dC : Nat → ClassId) (dI : Nat → Nat → Nat) (cI cZ cJ : ClassId) (arf : Nat → Nat) (sz : Nat) (rf : cr_S) (lat : Int64) (ln : (Nat → Int64)) (x1 : Int64) (hR_rf : cr_RRef rf) : Met l ny_Ref_plain nw_Ref_plain ({ frames := 3, cells := 0, slots := 0, locals := 68 } : Room) (va_Pc [.ref (arf 0), .long x1] (fun U => U.heap.size = sz ∧ va_P (dC, dI) vwCl (cw_Ref cI cZ cJ arf rf lat ln) U.heap ∧ va_K (dC, dI) vwCl [(cI, .int), (cZ, .boolean), (cJ, .long)] U ∧ va_D (fun _ => True) (cw_Ref cI cZ cJ arf rf lat ln))) (pq_Ref_plain dC dI cI cZ cJ arf rf lat ln x1 (va_A (cw_Ref cI cZ cJ arf rf lat ln) sz)) 0 0 (va_A (cw_Ref cI cZ cJ arf rf lat ln) sz) := by
  refine Met.ofW (cc := prog_7_method_28_code) (maxL := 9) (ret := (some .int)) (by decide) rfl ?_
  intro p e s m args below meth c s₁ B hml hv
  obtain ⟨rfl, hsz, hP, hK, hD0⟩ := hv
  have hx := B.exec
  have hb := B.bytes
  have hr := B.returns
  have hts0 := atoms_spec (ws := nw_Ref_plain) B.pre
  have hts : ∀ w ∈ ng_tbl, w.before ([.ref (arf 0), .long x1] : List Value).toArray s = true := fun w h => hts0 w (List.mem_cons_of_mem _ h)
  have hown : s.vm.findClass "CeilingRowsModel" = some m.cls := findClass_of_methodNamed B.named
  have hlocks := B.notSynchronized
  subst hsz
  have hD := hD0.self (sz := s.heap.size)
  generalize hAe : va_A (cw_Ref cI cZ cJ arf rf lat ln) s.heap.size = A at hD ⊢
  have hA : ∀ q : Nat, s.heap.size ≤ q → A q := fun q h => by rw [← hAe]; exact Or.inr h
  have hS : va_S A s.heap s.heap [] := va_S.rf
  have hP : va_P (dC, dI) vwCl (cw_Ref cI cZ cJ arf rf lat ln) s.heap := hP
  have hl := lv_entry ([.ref (arf 0), .long x1]) (n := 9) (Nat.le_of_ble_eq_true rfl)
  rw [lg_entry_eq]
  generalize (lg_sl ([.ref (arf 0), .long x1]) ++ List.replicate (9 - (lg_sl ([.ref (arf 0), .long x1])).length) Slot.unset).toArray = ls at hl ⊢
  have hl : lv_has ls 9 [(0, .ref (arf 0)), (1, .long x1)] := hl
  have f0_rf_0 := cr_rfo hR_rf.1
  have f0_rf_1 := cr_rfo hR_rf.2.1
  have k_0 : (0 : Int32).toInt = 0 := by decide
  have k_1 : (1 : Int32).toInt = 1 := by decide
  have k_2 : (2 : Int32).toInt = 2 := by decide
  have k_3 : (3 : Int32).toInt = 3 := by decide
  have k_4 : (4 : Int32).toInt = 4 := by decide
  have k_9 : (9 : Int32).toInt = 9 := by decide
  have k_99 : (99 : Int32).toInt = 99 := by decide
  have k_400 : (400 : Int32).toInt = 400 := by decide
  have k_1089 : (1089 : Int32).toInt = 1089 := by decide
  obtain ⟨tgt, hT⟩ : ∃ z, md_Ref_plain rf lat ln x1 = z := ⟨_, rfl⟩
  have hM := hT
  unfold md_Ref_plain at hM
  refine lv_iconst (v := 0) hx hb nd_Ref_plain_0 (by decide) ?_
  refine lv_istore_n (lv' := [(3, .int (0 : Int32)), (0, .ref (arf 0)), (1, .long x1)]) hx hb nd_Ref_plain_1 rfl hl (by decide) rfl (fun ls hl => ?_)
  have hl := lv_sub hl [1, 2, 0] rfl
  have lp_2 : ∀ (n_2 : Nat) (rf_2 : cr_S) (v3_2 : Int32), (cr_RRef rf_2) → (0 ≤ v3_2.toInt ∧ v3_2.toInt ≤ 1089) → (1089 < v3_2.toInt + (n_2 : Int)) → lo_Ref_plain_2 lat ln x1 n_2 rf_2 v3_2 = tgt → ∀ (H : Heap) (locs : List Loc), va_P (dC, dI) vwCl (cw_Ref cI cZ cJ arf rf_2 lat ln) H → va_D A (cw_Ref cI cZ cJ arf rf_2 lat ln) → va_S A s.heap H locs → ∀ ls : Array Slot, lv_has ls 9 [(0, .ref (arf 0)), (1, .long x1), (3, .int v3_2)] → W p l e (headSpec nw_Ref_plain ({ frames := 3, cells := 0, slots := 0, locals := 68 } : Room)).room s m ([.ref (arf 0), .long x1] : List Value).toArray below meth c H locs 0 0 (MQ below (pq_Ref_plain dC dI cI cZ cJ arf rf lat ln x1 A) ([.ref (arf 0), .long x1] : List Value).toArray s 0 0 A) (F0 m 2 ls []) := by
    intro n_2
    induction n_2 with
    | zero =>
      intro rf_2 v3_2 hR_rf_2 hv3_2 hn_2
      exfalso; omega
    | succ n_2 ih_2 =>
      intro rf_2 v3_2 hR_rf_2 hv3_2 hn_2 hM H locs hP hD hS ls hl
      have hn_2 : 1089 < v3_2.toInt + ((n_2 : Int) + 1) := by omega
      rw [lo_Ref_plain_2] at hM
      refine lv_iload_n hx hb nd_Ref_plain_2 rfl (lv_at hl 2 rfl) ?_
      refine lv_sipush (v := 1089) hx hb nd_Ref_plain_3 (by decide) ?_
      refine lv_icmp_ge (tgt := 22) hx hb nd_Ref_plain_6 (by decide) (fun c_1 => ?_) (fun c_1 => ?_)
      · have c_1t := cr_le c_1
        rw [if_pos c_1] at hM
        refine lv_iconst (v := 1) hx hb nd_Ref_plain_22 (by decide) ?_
        refine lv_istore_n (lv' := [(3, .int (1 : Int32)), (0, .ref (arf 0)), (1, .long x1)]) hx hb nd_Ref_plain_23 rfl hl (by decide) rfl (fun ls hl => ?_)
        have hl := lv_sub hl [1, 2, 0] rfl
        have lp_24 : ∀ (n_24 : Nat) (rf_24 : cr_S) (v3_24 : Int32), (cr_RRef rf_24) → (1 ≤ v3_24.toInt ∧ v3_24.toInt ≤ 11) → (11 < v3_24.toInt + (n_24 : Int)) → lo_Ref_plain_24 lat ln x1 n_24 rf_24 v3_24 = tgt → ∀ (H : Heap) (locs : List Loc), va_P (dC, dI) vwCl (cw_Ref cI cZ cJ arf rf_24 lat ln) H → va_D A (cw_Ref cI cZ cJ arf rf_24 lat ln) → va_S A s.heap H locs → ∀ ls : Array Slot, lv_has ls 9 [(0, .ref (arf 0)), (1, .long x1), (3, .int v3_24)] → W p l e (headSpec nw_Ref_plain ({ frames := 3, cells := 0, slots := 0, locals := 68 } : Room)).room s m ([.ref (arf 0), .long x1] : List Value).toArray below meth c H locs 0 0 (MQ below (pq_Ref_plain dC dI cI cZ cJ arf rf lat ln x1 A) ([.ref (arf 0), .long x1] : List Value).toArray s 0 0 A) (F0 m 24 ls []) := by
          intro n_24
          induction n_24 with
          | zero =>
            intro rf_24 v3_24 hR_rf_24 hv3_24 hn_24
            exfalso; omega
          | succ n_24 ih_24 =>
            intro rf_24 v3_24 hR_rf_24 hv3_24 hn_24 hM H locs hP hD hS ls hl
            have hn_24 : 11 < v3_24.toInt + ((n_24 : Int) + 1) := by omega
            rw [lo_Ref_plain_24] at hM
            refine lv_iload_n hx hb nd_Ref_plain_24 rfl (lv_at hl 2 rfl) ?_
            refine lv_aload_n hx hb nd_Ref_plain_25 rfl (lv_at hl 0 rfl) ?_
            refine va_get (D := (dC, dI)) (ci := 5) (v := .int (rf_24 0 0)) (C := "CeilingRowsModel") (T := nf_Ref) (N := 22) hx hb hts nin_Ref hown hK hP 0 rfl rfl 0 (by decide) (hts _ tw_413) (fun _ h9 => h9) rfl nd_Ref_plain_26 ?_
            have f_2 := cr_rfo hR_rf_24.1
            refine lv_icmp_gt (tgt := 59) hx hb nd_Ref_plain_29 (by decide) (fun c_3 => ?_) (fun c_3 => ?_)
            · have c_3t := cr_lt c_3
              rw [if_pos c_3] at hM
              refine lv_iconst (v := 0) hx hb nd_Ref_plain_59 (by decide) ?_
              refine lv_istore_n (lv' := [(3, .int (0 : Int32)), (0, .ref (arf 0)), (1, .long x1)]) hx hb nd_Ref_plain_60 rfl hl (by decide) rfl (fun ls hl => ?_)
              refine lv_iconst (v := 0) hx hb nd_Ref_plain_61 (by decide) ?_
              refine lv_istore (lv' := [(4, .int (0 : Int32)), (3, .int (0 : Int32)), (0, .ref (arf 0)), (1, .long x1)]) hx hb nd_Ref_plain_62 hl (by decide) rfl (fun ls hl => ?_)
              have hl := lv_sub hl [2, 3, 1, 0] rfl
              have lp_64 : ∀ (n_64 : Nat) (rf_64 : cr_S) (v3_64 : Int32) (v4_64 : Int32), (cr_RRef rf_64) → (0 ≤ v4_64.toInt ∧ v4_64.toInt ≤ 400) → (400 < v4_64.toInt + (n_64 : Int)) → lo_Ref_plain_64 lat ln x1 n_64 rf_64 v3_64 v4_64 = tgt → ∀ (H : Heap) (locs : List Loc), va_P (dC, dI) vwCl (cw_Ref cI cZ cJ arf rf_64 lat ln) H → va_D A (cw_Ref cI cZ cJ arf rf_64 lat ln) → va_S A s.heap H locs → ∀ ls : Array Slot, lv_has ls 9 [(0, .ref (arf 0)), (1, .long x1), (3, .int v3_64), (4, .int v4_64)] → W p l e (headSpec nw_Ref_plain ({ frames := 3, cells := 0, slots := 0, locals := 68 } : Room)).room s m ([.ref (arf 0), .long x1] : List Value).toArray below meth c H locs 0 0 (MQ below (pq_Ref_plain dC dI cI cZ cJ arf rf lat ln x1 A) ([.ref (arf 0), .long x1] : List Value).toArray s 0 0 A) (F0 m 64 ls []) := by
                intro n_64
                induction n_64 with
                | zero =>
                  intro rf_64 v3_64 v4_64 hR_rf_64 hv4_64 hn_64
                  exfalso; omega
                | succ n_64 ih_64 =>
                  intro rf_64 v3_64 v4_64 hR_rf_64 hv4_64 hn_64 hM H locs hP hD hS ls hl
                  have hn_64 : 400 < v4_64.toInt + ((n_64 : Int) + 1) := by omega
                  rw [lo_Ref_plain_64] at hM
                  refine lv_iload hx hb nd_Ref_plain_64 (lv_at hl 3 rfl) ?_
                  refine lv_sipush (v := 400) hx hb nd_Ref_plain_66 (by decide) ?_
                  refine lv_icmp_ge (tgt := 338) hx hb nd_Ref_plain_69 (by decide) (fun c_4 => ?_) (fun c_4 => ?_)
                  · have c_4t := cr_le c_4
                    rw [if_pos c_4] at hM
                    refine lv_iconst (v := 0) hx hb nd_Ref_plain_338 (by decide) ?_
                    refine lv_istore (lv' := [(4, .int (0 : Int32)), (0, .ref (arf 0)), (1, .long x1), (3, .int v3_64)]) hx hb nd_Ref_plain_339 hl (by decide) rfl (fun ls hl => ?_)
                    refine lv_iconst (v := 1) hx hb nd_Ref_plain_341 (by decide) ?_
                    refine lv_istore (lv' := [(5, .int (1 : Int32)), (4, .int (0 : Int32)), (0, .ref (arf 0)), (1, .long x1), (3, .int v3_64)]) hx hb nd_Ref_plain_342 hl (by decide) rfl (fun ls hl => ?_)
                    have hl := lv_sub hl [2, 1, 0] rfl
                    have lp_344 : ∀ (n_344 : Nat) (v4_344 : Int32) (v5_344 : Int32), (1 ≤ v5_344.toInt ∧ v5_344.toInt ≤ 11) → (11 < v5_344.toInt + (n_344 : Int)) → lo_Ref_plain_344 rf_64 lat ln x1 n_344 v4_344 v5_344 = tgt → ∀ (H : Heap) (locs : List Loc), va_P (dC, dI) vwCl (cw_Ref cI cZ cJ arf rf_64 lat ln) H → va_D A (cw_Ref cI cZ cJ arf rf_64 lat ln) → va_S A s.heap H locs → ∀ ls : Array Slot, lv_has ls 9 [(0, .ref (arf 0)), (4, .int v4_344), (5, .int v5_344)] → W p l e (headSpec nw_Ref_plain ({ frames := 3, cells := 0, slots := 0, locals := 68 } : Room)).room s m ([.ref (arf 0), .long x1] : List Value).toArray below meth c H locs 0 0 (MQ below (pq_Ref_plain dC dI cI cZ cJ arf rf lat ln x1 A) ([.ref (arf 0), .long x1] : List Value).toArray s 0 0 A) (F0 m 344 ls []) := by
                      intro n_344
                      induction n_344 with
                      | zero =>
                        intro v4_344 v5_344 hv5_344 hn_344
                        exfalso; omega
                      | succ n_344 ih_344 =>
                        intro v4_344 v5_344 hv5_344 hn_344 hM H locs hP hD hS ls hl
                        have hn_344 : 11 < v5_344.toInt + ((n_344 : Int) + 1) := by omega
                        rw [lo_Ref_plain_344] at hM
                        refine lv_iload hx hb nd_Ref_plain_344 (lv_at hl 2 rfl) ?_
                        refine lv_aload_n hx hb nd_Ref_plain_346 rfl (lv_at hl 0 rfl) ?_
                        refine va_get (D := (dC, dI)) (ci := 5) (v := .int (rf_64 0 0)) (C := "CeilingRowsModel") (T := nf_Ref) (N := 22) hx hb hts nin_Ref hown hK hP 0 rfl rfl 0 (by decide) (hts _ tw_413) (fun _ h9 => h9) rfl nd_Ref_plain_347 ?_
                        have f_5 := cr_rfo hR_rf_64.1
                        refine lv_icmp_gt (tgt := 421) hx hb nd_Ref_plain_350 (by decide) (fun c_6 => ?_) (fun c_6 => ?_)
                        · have c_6t := cr_lt c_6
                          rw [if_pos c_6] at hM
                          refine lv_iload hx hb nd_Ref_plain_421 (lv_at hl 1 rfl) ?_
                          exact W.iret (v := v4_344) hx hb hr (fun t ht hW => ⟨⟨v4_344, rf_64, rfl, ⟨by rw [hT, ← hM], by rw [hT, ← hM], hR_rf_64⟩, by rw [ht]; exact hP, va_K.moved hW.alike hK, hD⟩, hS.F ht⟩) hS.2.2 nd_Ref_plain_423
                        · have c_6t := cr_nlt c_6
                          rw [if_neg c_6] at hM
                          refine lv_iconst (v := 0) hx hb nd_Ref_plain_353 (by decide) ?_
                          refine lv_istore (lv' := [(6, .int (0 : Int32)), (0, .ref (arf 0)), (4, .int v4_344), (5, .int v5_344)]) hx hb nd_Ref_plain_354 hl (by decide) rfl (fun ls hl => ?_)
                          refine lv_iconst (v := 0) hx hb nd_Ref_plain_356 (by decide) ?_
                          refine lv_istore (lv' := [(7, .int (0 : Int32)), (6, .int (0 : Int32)), (0, .ref (arf 0)), (4, .int v4_344), (5, .int v5_344)]) hx hb nd_Ref_plain_357 hl (by decide) rfl (fun ls hl => ?_)
                          have hl := lv_sub hl [2, 3, 4, 1, 0] rfl
                          obtain ⟨ti_359, hti_359⟩ : ∃ z, lo_Ref_plain_359 rf_64 lat ln x1 v4_344 v5_344 100 (0 : Int32) (0 : Int32) = z := ⟨_, rfl⟩
                          try rw [hti_359] at hM
                          have hex_359 : ∀ (H : Heap) (locs : List Loc), va_P (dC, dI) vwCl (cw_Ref cI cZ cJ arf rf_64 lat ln) H → va_D A (cw_Ref cI cZ cJ arf rf_64 lat ln) → va_S A s.heap H locs → ∀ ls : Array Slot, lv_has ls 9 [(0, .ref (arf 0)), (4, .int v4_344), (5, .int v5_344), (6, .int ti_359)] → W p l e (headSpec nw_Ref_plain ({ frames := 3, cells := 0, slots := 0, locals := 68 } : Room)).room s m ([.ref (arf 0), .long x1] : List Value).toArray below meth c H locs 0 0 (MQ below (pq_Ref_plain dC dI cI cZ cJ arf rf lat ln x1 A) ([.ref (arf 0), .long x1] : List Value).toArray s 0 0 A) (F0 m 399 ls []) := by
                            intro  H locs hP hD hS ls hl
                            refine lv_iload hx hb nd_Ref_plain_399 (lv_at hl 3 rfl) ?_
                            refine lv_iload hx hb nd_Ref_plain_401 (lv_at hl 1 rfl) ?_
                            refine lv_icmp_le (tgt := 411) hx hb nd_Ref_plain_403 (by decide) (fun c_7 => ?_) (fun c_7 => ?_)
                            · have c_7t := cr_le c_7
                              rw [if_pos c_7] at hM
                              refine lv_iload hx hb nd_Ref_plain_411 (lv_at hl 1 rfl) ?_
                              refine lv_istore (lv' := [(4, .int v4_344), (0, .ref (arf 0)), (5, .int v5_344), (6, .int ti_359)]) hx hb nd_Ref_plain_413 hl (by decide) rfl (fun ls hl => ?_)
                              have e_8 : (v5_344 + (1 : Int32)).toInt = v5_344.toInt + (1 : Int32).toInt := cr_add (by omega)
                              refine lv_iinc (v := (v5_344 + (1 : Int32))) (lv' := [(5, .int (v5_344 + (1 : Int32))), (4, .int v4_344), (0, .ref (arf 0)), (6, .int ti_359)]) hx hb nd_Ref_plain_415 hl (k := 2) rfl (by rfl) (by decide) rfl (fun ls hl => ?_)
                              refine lv_goto (tgt := 344) hx hb nd_Ref_plain_418 (by decide) ?_
                              exact ih_344 v4_344 (v5_344 + (1 : Int32)) (by omega) (by omega) hM _ _ hP hD hS _ (lv_sub hl [2, 1, 0] rfl)
                            · have c_7t := cr_nle c_7
                              rw [if_neg c_7] at hM
                              refine lv_iload hx hb nd_Ref_plain_406 (lv_at hl 3 rfl) ?_
                              refine lv_goto (tgt := 413) hx hb nd_Ref_plain_408 (by decide) ?_
                              refine lv_istore (lv' := [(4, .int ti_359), (0, .ref (arf 0)), (5, .int v5_344), (6, .int ti_359)]) hx hb nd_Ref_plain_413 hl (by decide) rfl (fun ls hl => ?_)
                              have e_9 : (v5_344 + (1 : Int32)).toInt = v5_344.toInt + (1 : Int32).toInt := cr_add (by omega)
                              refine lv_iinc (v := (v5_344 + (1 : Int32))) (lv' := [(5, .int (v5_344 + (1 : Int32))), (4, .int ti_359), (0, .ref (arf 0)), (6, .int ti_359)]) hx hb nd_Ref_plain_415 hl (k := 2) rfl (by rfl) (by decide) rfl (fun ls hl => ?_)
                              refine lv_goto (tgt := 344) hx hb nd_Ref_plain_418 (by decide) ?_
                              exact ih_344 ti_359 (v5_344 + (1 : Int32)) (by omega) (by omega) hM _ _ hP hD hS _ (lv_sub hl [2, 1, 0] rfl)
                          have lp_359 : ∀ (n_359 : Nat) (v6_359 : Int32) (v7_359 : Int32), (0 ≤ v7_359.toInt ∧ v7_359.toInt ≤ 99) → (99 < v7_359.toInt + (n_359 : Int)) → lo_Ref_plain_359 rf_64 lat ln x1 v4_344 v5_344 n_359 v6_359 v7_359 = ti_359 → ∀ (H : Heap) (locs : List Loc), va_P (dC, dI) vwCl (cw_Ref cI cZ cJ arf rf_64 lat ln) H → va_D A (cw_Ref cI cZ cJ arf rf_64 lat ln) → va_S A s.heap H locs → ∀ ls : Array Slot, lv_has ls 9 [(0, .ref (arf 0)), (4, .int v4_344), (5, .int v5_344), (6, .int v6_359), (7, .int v7_359)] → W p l e (headSpec nw_Ref_plain ({ frames := 3, cells := 0, slots := 0, locals := 68 } : Room)).room s m ([.ref (arf 0), .long x1] : List Value).toArray below meth c H locs 0 0 (MQ below (pq_Ref_plain dC dI cI cZ cJ arf rf lat ln x1 A) ([.ref (arf 0), .long x1] : List Value).toArray s 0 0 A) (F0 m 359 ls []) := by
                            try clear hM
                            intro n_359
                            induction n_359 with
                            | zero =>
                              intro v6_359 v7_359 hv7_359 hn_359
                              exfalso; omega
                            | succ n_359 ih_359 =>
                              intro v6_359 v7_359 hv7_359 hn_359 hM H locs hP hD hS ls hl
                              have hn_359 : 99 < v7_359.toInt + ((n_359 : Int) + 1) := by omega
                              rw [lo_Ref_plain_359] at hM
                              refine lv_iload hx hb nd_Ref_plain_359 (lv_at hl 4 rfl) ?_
                              refine lv_bipush (v := 99) hx hb nd_Ref_plain_361 (by decide) ?_
                              refine lv_icmp_ge (tgt := 399) hx hb nd_Ref_plain_363 (by decide) (fun c_10 => ?_) (fun c_10 => ?_)
                              · have c_10t := cr_le c_10
                                rw [if_pos c_10] at hM
                                subst hM
                                exact hex_359  _ _ hP hD hS _ (lv_sub hl [0, 1, 2, 3] rfl)
                              · have c_10t := cr_nle c_10
                                rw [if_neg c_10] at hM
                                refine lv_aload_n hx hb nd_Ref_plain_366 rfl (lv_at hl 0 rfl) ?_
                                refine va_get (D := (dC, dI)) (ci := 5) (v := .ref (arf 17)) (C := "CeilingRowsModel") (T := nf_Ref) (N := 22) hx hb hts nin_Ref hown hK hP 0 rfl rfl 21 (by decide) (hts _ tw_434) (fun _ h9 => h9) rfl nd_Ref_plain_367 ?_
                                refine lv_bipush (v := 99) hx hb nd_Ref_plain_370 (by decide) ?_
                                refine lv_iload hx hb nd_Ref_plain_372 (lv_at hl 2 rfl) ?_
                                refine lv_imul hx hb nd_Ref_plain_374 ?_
                                have e_11 : ((99 : Int32) * v5_344).toInt = 99 * v5_344.toInt := cr_mulL 99 k_99 (by omega)
                                refine lv_iload hx hb nd_Ref_plain_375 (lv_at hl 4 rfl) ?_
                                refine lv_iadd hx hb nd_Ref_plain_377 ?_
                                have e_12 : (((99 : Int32) * v5_344) + v7_359).toInt = ((99 : Int32) * v5_344).toInt + v7_359.toInt := cr_add (by omega)
                                have b_13 : vp_in (((99 : Int32) * v5_344) + v7_359) 1089 := vp_in_iff.mpr (by omega)
                                refine va_zald hx hb hK hP 17 1 rfl rfl b_13 nd_Ref_plain_378 ?_
                                refine lv_if_eq (tgt := 389) hx hb nd_Ref_plain_379 (by decide) (fun c_14 => ?_) (fun c_14 => ?_)
                                · have c_14t := cr_eq c_14
                                  rw [if_pos c_14] at hM
                                  refine lv_iload hx hb nd_Ref_plain_389 (lv_at hl 3 rfl) ?_
                                  refine lv_istore (lv' := [(6, .int v6_359), (0, .ref (arf 0)), (4, .int v4_344), (5, .int v5_344), (7, .int v7_359)]) hx hb nd_Ref_plain_391 hl (by decide) rfl (fun ls hl => ?_)
                                  have e_15 : (v7_359 + (1 : Int32)).toInt = v7_359.toInt + (1 : Int32).toInt := cr_add (by omega)
                                  refine lv_iinc (v := (v7_359 + (1 : Int32))) (lv' := [(7, .int (v7_359 + (1 : Int32))), (6, .int v6_359), (0, .ref (arf 0)), (4, .int v4_344), (5, .int v5_344)]) hx hb nd_Ref_plain_393 hl (k := 4) rfl (by rfl) (by decide) rfl (fun ls hl => ?_)
                                  refine lv_goto (tgt := 359) hx hb nd_Ref_plain_396 (by decide) ?_
                                  exact ih_359 v6_359 (v7_359 + (1 : Int32)) (by omega) (by omega) hM _ _ hP hD hS _ (lv_sub hl [2, 3, 4, 1, 0] rfl)
                                · have c_14t := cr_ne c_14
                                  rw [if_neg c_14] at hM
                                  refine lv_iload hx hb nd_Ref_plain_382 (lv_at hl 3 rfl) ?_
                                  refine lv_iconst (v := 1) hx hb nd_Ref_plain_384 (by decide) ?_
                                  refine lv_iadd hx hb nd_Ref_plain_385 ?_
                                  refine lv_goto (tgt := 391) hx hb nd_Ref_plain_386 (by decide) ?_
                                  refine lv_istore (lv' := [(6, .int (v6_359 + (1 : Int32))), (0, .ref (arf 0)), (4, .int v4_344), (5, .int v5_344), (7, .int v7_359)]) hx hb nd_Ref_plain_391 hl (by decide) rfl (fun ls hl => ?_)
                                  have e_16 : (v7_359 + (1 : Int32)).toInt = v7_359.toInt + (1 : Int32).toInt := cr_add (by omega)
                                  refine lv_iinc (v := (v7_359 + (1 : Int32))) (lv' := [(7, .int (v7_359 + (1 : Int32))), (6, .int (v6_359 + (1 : Int32))), (0, .ref (arf 0)), (4, .int v4_344), (5, .int v5_344)]) hx hb nd_Ref_plain_393 hl (k := 4) rfl (by rfl) (by decide) rfl (fun ls hl => ?_)
                                  refine lv_goto (tgt := 359) hx hb nd_Ref_plain_396 (by decide) ?_
                                  exact ih_359 (v6_359 + (1 : Int32)) (v7_359 + (1 : Int32)) (by omega) (by omega) hM _ _ hP hD hS _ (lv_sub hl [2, 3, 4, 1, 0] rfl)
                          exact lp_359 100 (0 : Int32) (0 : Int32) (by omega) (by omega) hti_359 _ _ hP hD hS _ hl
                    exact lp_344 11 (0 : Int32) (1 : Int32) (by omega) (by omega) hM _ _ hP hD hS _ hl
                  · have c_4t := cr_nle c_4
                    rw [if_neg c_4] at hM
                    refine lv_iconst (v := 1) hx hb nd_Ref_plain_72 (by decide) ?_
                    refine lv_istore (lv' := [(5, .int (1 : Int32)), (0, .ref (arf 0)), (1, .long x1), (3, .int v3_64), (4, .int v4_64)]) hx hb nd_Ref_plain_73 hl (by decide) rfl (fun ls hl => ?_)
                    have hl := lv_sub hl [1, 2, 3, 4, 0] rfl
                    obtain ⟨ti_75, hti_75⟩ : ∃ z, lo_Ref_plain_75 lat ln x1 v4_64 11 rf_64 v3_64 (1 : Int32) = z := ⟨_, rfl⟩
                    try rw [hti_75] at hM
                    have hex_75 : (cr_RRef ti_75.1) → ∀ (H : Heap) (locs : List Loc), va_P (dC, dI) vwCl (cw_Ref cI cZ cJ arf ti_75.1 lat ln) H → va_D A (cw_Ref cI cZ cJ arf ti_75.1 lat ln) → va_S A s.heap H locs → ∀ ls : Array Slot, lv_has ls 9 [(0, .ref (arf 0)), (1, .long x1), (3, .int ti_75.2), (4, .int v4_64)] → W p l e (headSpec nw_Ref_plain ({ frames := 3, cells := 0, slots := 0, locals := 68 } : Room)).room s m ([.ref (arf 0), .long x1] : List Value).toArray below meth c H locs 0 0 (MQ below (pq_Ref_plain dC dI cI cZ cJ arf rf lat ln x1 A) ([.ref (arf 0), .long x1] : List Value).toArray s 0 0 A) (F0 m 131 ls []) := by
                      intro hRx_rf_75 H locs hP hD hS ls hl
                      refine lv_iconst (v := 1) hx hb nd_Ref_plain_131 (by decide) ?_
                      refine lv_istore (lv' := [(5, .int (1 : Int32)), (0, .ref (arf 0)), (1, .long x1), (3, .int ti_75.2), (4, .int v4_64)]) hx hb nd_Ref_plain_132 hl (by decide) rfl (fun ls hl => ?_)
                      have hl := lv_sub hl [1, 2, 3, 4, 0] rfl
                      obtain ⟨ti_134, hti_134⟩ : ∃ z, lo_Ref_plain_134 lat ln x1 ti_75.2 v4_64 4 ti_75.1 (1 : Int32) = z := ⟨_, rfl⟩
                      try rw [hti_134] at hM
                      have hex_134 : (cr_RRef ti_134) → ∀ (H : Heap) (locs : List Loc), va_P (dC, dI) vwCl (cw_Ref cI cZ cJ arf ti_134 lat ln) H → va_D A (cw_Ref cI cZ cJ arf ti_134 lat ln) → va_S A s.heap H locs → ∀ ls : Array Slot, lv_has ls 9 [(0, .ref (arf 0)), (1, .long x1), (3, .int ti_75.2), (4, .int v4_64)] → W p l e (headSpec nw_Ref_plain ({ frames := 3, cells := 0, slots := 0, locals := 68 } : Room)).room s m ([.ref (arf 0), .long x1] : List Value).toArray below meth c H locs 0 0 (MQ below (pq_Ref_plain dC dI cI cZ cJ arf rf lat ln x1 A) ([.ref (arf 0), .long x1] : List Value).toArray s 0 0 A) (F0 m 332 ls []) := by
                        intro hRx_rf_134 H locs hP hD hS ls hl
                        have e_17 : (v4_64 + (1 : Int32)).toInt = v4_64.toInt + (1 : Int32).toInt := cr_add (by omega)
                        refine lv_iinc (v := (v4_64 + (1 : Int32))) (lv' := [(4, .int (v4_64 + (1 : Int32))), (0, .ref (arf 0)), (1, .long x1), (3, .int ti_75.2)]) hx hb nd_Ref_plain_332 hl (k := 3) rfl (by rfl) (by decide) rfl (fun ls hl => ?_)
                        refine lv_goto (tgt := 64) hx hb nd_Ref_plain_335 (by decide) ?_
                        exact ih_64 ti_134 ti_75.2 (v4_64 + (1 : Int32)) hRx_rf_134 (by omega) (by omega) hM _ _ hP hD hS _ (lv_sub hl [1, 2, 3, 0] rfl)
                      have lp_134 : ∀ (n_134 : Nat) (rf_134 : cr_S) (v5_134 : Int32), (cr_RRef rf_134) → (1 ≤ v5_134.toInt ∧ v5_134.toInt ≤ 4) → (4 < v5_134.toInt + (n_134 : Int)) → lo_Ref_plain_134 lat ln x1 ti_75.2 v4_64 n_134 rf_134 v5_134 = ti_134 → ∀ (H : Heap) (locs : List Loc), va_P (dC, dI) vwCl (cw_Ref cI cZ cJ arf rf_134 lat ln) H → va_D A (cw_Ref cI cZ cJ arf rf_134 lat ln) → va_S A s.heap H locs → ∀ ls : Array Slot, lv_has ls 9 [(0, .ref (arf 0)), (1, .long x1), (3, .int ti_75.2), (4, .int v4_64), (5, .int v5_134)] → W p l e (headSpec nw_Ref_plain ({ frames := 3, cells := 0, slots := 0, locals := 68 } : Room)).room s m ([.ref (arf 0), .long x1] : List Value).toArray below meth c H locs 0 0 (MQ below (pq_Ref_plain dC dI cI cZ cJ arf rf lat ln x1 A) ([.ref (arf 0), .long x1] : List Value).toArray s 0 0 A) (F0 m 134 ls []) := by
                        try clear hM
                        intro n_134
                        induction n_134 with
                        | zero =>
                          intro rf_134 v5_134 hR_rf_134 hv5_134 hn_134
                          exfalso; omega
                        | succ n_134 ih_134 =>
                          intro rf_134 v5_134 hR_rf_134 hv5_134 hn_134 hM H locs hP hD hS ls hl
                          have hn_134 : 4 < v5_134.toInt + ((n_134 : Int) + 1) := by omega
                          rw [lo_Ref_plain_134] at hM
                          refine lv_iload hx hb nd_Ref_plain_134 (lv_at hl 4 rfl) ?_
                          refine lv_iconst (v := 4) hx hb nd_Ref_plain_136 (by decide) ?_
                          refine lv_icmp_ge (tgt := 332) hx hb nd_Ref_plain_137 (by decide) (fun c_18 => ?_) (fun c_18 => ?_)
                          · have c_18t := cr_le c_18
                            rw [if_pos c_18] at hM
                            subst hM
                            exact hex_134 hR_rf_134 _ _ hP hD hS _ (lv_sub hl [0, 1, 2, 3] rfl)
                          · have c_18t := cr_nle c_18
                            rw [if_neg c_18] at hM
                            refine lv_aload_n hx hb nd_Ref_plain_140 rfl (lv_at hl 0 rfl) ?_
                            refine lv_iload hx hb nd_Ref_plain_141 (lv_at hl 4 rfl) ?_
                            have hPc := hP
                            have hDc := hD
                            have hFc := va_free (wc := cw_Ref cI cZ cJ arf rf_134 lat ln) hD hS hA [0, 1, 2, 3, 4, 5, 6, 7, 8, 9, 10, 11, 12, 13, 14, 15, 16, 17] rfl
                            refine va_calli (va_runV (As := [.int v5_134]) (rest := []) ⟨hx, hb, hml, hown, hts⟩ (ct_Ref_trialRuns l dC dI cI cZ cJ arf H.size rf_134 lat ln v5_134 hR_rf_134) (cwV 1 hts (ng_V tw_581 tw_583 tp_30 tw_6 tw_584) rfl rfl rfl (by decide +kernel) ⟨Nat.le_of_ble_eq_true rfl, Nat.le_of_ble_eq_true rfl⟩) ⟨fun a U g mk q => by obtain ⟨q0, q1, qP, qK, qD⟩ := q; exact ⟨q0, q1, qP, va_K.moved (u := U) (U := U.calling g mk a) (Vm.Alike.refl U.vm) qK, qD⟩, va_recv hK hPc (ci := 5) (q0 := 0) rfl rfl, fun U hU hW => ⟨rfl, by rw [hU], by rw [hU]; exact hPc, va_K.moved hW.alike hK, hDc.weaken (fun _ _ _ _ => trivial)⟩⟩ rfl rfl hl.1 rfl (lv_room (Nat.le_of_ble_eq_true rfl)) nd_Ref_plain_143 ⟨Nat.zero_le _, Nat.zero_le _⟩) hS (fun q _ h => hFc q h) hFc (fun r_19 u t H1 locs ht hvm hw hB hz1 hk1 hS => ?_)
                            obtain ⟨hP1, hK1, hD1⟩ := hB
                            rw [ht] at hP1
                            obtain ⟨w_20, f_21⟩ := hw
                            try rw [← w_20] at hM
                            have hP := hP1
                            have hD := cr_Dw hD1 hFc
                            generalize H1 = H at hP hS ⊢
                            refine lv_istore (lv' := [(6, .int r_19), (0, .ref (arf 0)), (1, .long x1), (3, .int ti_75.2), (4, .int v4_64), (5, .int v5_134)]) hx hb nd_Ref_plain_146 hl (by decide) rfl (fun ls hl => ?_)
                            refine lv_iload hx hb nd_Ref_plain_148 (lv_at hl 0 rfl) ?_
                            refine lv_if_ne (tgt := 156) hx hb nd_Ref_plain_150 (by decide) (fun c_22 => ?_) (fun c_22 => ?_)
                            · have c_22t := cr_ne c_22
                              rw [if_neg c_22] at hM
                              refine lv_aload_n hx hb nd_Ref_plain_156 rfl (lv_at hl 1 rfl) ?_
                              refine lv_iload hx hb nd_Ref_plain_157 (lv_at hl 0 rfl) ?_
                              refine lv_aload_n hx hb nd_Ref_plain_159 rfl (lv_at hl 1 rfl) ?_
                              refine va_get (D := (dC, dI)) (ci := 5) (v := .ref (arf 15)) (C := "CeilingRowsModel") (T := nf_Ref) (N := 22) hx hb hts nin_Ref hown hK hP 0 rfl rfl 19 (by decide) (hts _ tw_432) (fun _ h9 => h9) rfl nd_Ref_plain_160 ?_
                              refine lv_iload hx hb nd_Ref_plain_163 (lv_at hl 0 rfl) ?_
                              have b_23 : vp_in r_19 11 := vp_in_iff.mpr (by omega)
                              refine va_iald hx hb hK hP 15 0 rfl rfl b_23 nd_Ref_plain_165 ?_
                              have hPc := hP
                              have hDc := hD
                              have hFc := va_free (wc := cw_Ref cI cZ cJ arf rf_134 lat ln) hD hS hA [0, 1, 2, 3, 4, 5, 6, 7, 8, 9, 10, 11, 12, 13, 14, 15, 16, 17] rfl
                              refine va_calli (va_runV (As := [.int r_19, .int (rf_134 15 r_19.toNatClampNeg)]) (rest := []) ⟨hx, hb, hml, hown, hts⟩ (ct_Ref_tickOf l dC dI cI cZ cJ arf H.size rf_134 lat ln r_19 (rf_134 15 r_19.toNatClampNeg) hR_rf_134 (by omega)) (cwV 2 hts (ng_V tw_589 tw_591 tp_32 tw_6 tw_592) rfl rfl rfl (by decide +kernel) ⟨Nat.le_of_ble_eq_true rfl, Nat.le_of_ble_eq_true rfl⟩) ⟨fun a U g mk q => by obtain ⟨q0, q1, qP, qK, qD⟩ := q; exact ⟨q0, q1, qP, va_K.moved (u := U) (U := U.calling g mk a) (Vm.Alike.refl U.vm) qK, qD⟩, va_recv hK hPc (ci := 5) (q0 := 0) rfl rfl, fun U hU hW => ⟨rfl, by rw [hU], by rw [hU]; exact hPc, va_K.moved hW.alike hK, hDc.weaken (fun _ _ _ _ => trivial)⟩⟩ rfl rfl hl.1 rfl (lv_room (Nat.le_of_ble_eq_true rfl)) nd_Ref_plain_166 ⟨Nat.zero_le _, Nat.zero_le _⟩) hS (fun q _ h => hFc q h) hFc (fun r_24 u t H1 locs ht hvm hw hB hz1 hk1 hS => ?_)
                              obtain ⟨hP1, hK1, hD1⟩ := hB
                              rw [ht] at hP1
                              obtain ⟨w_25, f_26⟩ := hw
                              try rw [← w_25] at hM
                              have hP := hP1
                              have hD := cr_Dw hD1 hFc
                              generalize H1 = H at hP hS ⊢
                              refine lv_istore (lv' := [(7, .int r_24), (6, .int r_19), (0, .ref (arf 0)), (1, .long x1), (3, .int ti_75.2), (4, .int v4_64), (5, .int v5_134)]) hx hb nd_Ref_plain_169 hl (by decide) rfl (fun ls hl => ?_)
                              refine lv_aload_n hx hb nd_Ref_plain_171 rfl (lv_at hl 2 rfl) ?_
                              refine va_get (D := (dC, dI)) (ci := 5) (v := .ref (arf 16)) (C := "CeilingRowsModel") (T := nf_Ref) (N := 22) hx hb hts nin_Ref hown hK hP 0 rfl rfl 20 (by decide) (hts _ tw_433) (fun _ h9 => h9) rfl nd_Ref_plain_172 ?_
                              refine lv_iload hx hb nd_Ref_plain_175 (lv_at hl 1 rfl) ?_
                              refine lv_iload hx hb nd_Ref_plain_177 (lv_at hl 0 rfl) ?_
                              have b_27 : vp_in r_19 11 := vp_in_iff.mpr (by omega)
                              refine va_iast hx hb hK hP hD hS 16 0 rfl rfl b_27 nd_Ref_plain_179 (fun H locs hP hD hS => ?_)
                              have hP : va_P (dC, dI) vwCl (cw_Ref cI cZ cJ arf (cr_up rf_134 16 r_19.toNatClampNeg r_24) lat ln) H := hP
                              have hD : va_D A (cw_Ref cI cZ cJ arf (cr_up rf_134 16 r_19.toNatClampNeg r_24) lat ln) := hD
                              have hR_28 : cr_RRef (cr_up rf_134 16 r_19.toNatClampNeg r_24) := ⟨cr_rf_up hR_rf_134.1 (fun e _ => absurd e (by decide)), cr_rf_up hR_rf_134.2.1 (fun e _ => absurd e (by decide)), cr_rg_up hR_rf_134.2.2.1 (fun e => absurd e (by decide)), cr_rg_up hR_rf_134.2.2.2.1 (fun e => absurd e (by decide)), cr_rg_up hR_rf_134.2.2.2.2.1 (fun e => absurd e (by decide)), cr_rh_up hR_rf_134.2.2.2.2.2 (fun _ => by omega)⟩
                              obtain ⟨rfq_29, hrfq_29⟩ : ∃ z, (cr_up rf_134 16 r_19.toNatClampNeg r_24) = z := ⟨_, rfl⟩
                              rw [hrfq_29] at hP hD hR_28
                              try rw [hrfq_29] at hM
                              refine lv_iconst (v := 1) hx hb nd_Ref_plain_180 (by decide) ?_
                              refine lv_istore (lv' := [(8, .int (1 : Int32)), (7, .int r_24), (6, .int r_19), (0, .ref (arf 0)), (1, .long x1), (3, .int ti_75.2), (4, .int v4_64), (5, .int v5_134)]) hx hb nd_Ref_plain_181 hl (by decide) rfl (fun ls hl => ?_)
                              have hl := lv_sub hl [3, 4, 5, 6, 7, 2, 1, 0] rfl
                              obtain ⟨ti_183, hti_183⟩ : ∃ z, lo_Ref_plain_183 lat ln x1 ti_75.2 v4_64 v5_134 r_19 r_24 11 rfq_29 (1 : Int32) = z := ⟨_, rfl⟩
                              try rw [hti_183] at hM
                              have hex_183 : (cr_RRef ti_183) → ∀ (H : Heap) (locs : List Loc), va_P (dC, dI) vwCl (cw_Ref cI cZ cJ arf ti_183 lat ln) H → va_D A (cw_Ref cI cZ cJ arf ti_183 lat ln) → va_S A s.heap H locs → ∀ ls : Array Slot, lv_has ls 9 [(0, .ref (arf 0)), (1, .long x1), (3, .int ti_75.2), (4, .int v4_64), (5, .int v5_134), (6, .int r_19), (7, .int r_24)] → W p l e (headSpec nw_Ref_plain ({ frames := 3, cells := 0, slots := 0, locals := 68 } : Room)).room s m ([.ref (arf 0), .long x1] : List Value).toArray below meth c H locs 0 0 (MQ below (pq_Ref_plain dC dI cI cZ cJ arf rf lat ln x1 A) ([.ref (arf 0), .long x1] : List Value).toArray s 0 0 A) (F0 m 263 ls []) := by
                                intro hRx_rf_183 H locs hP hD hS ls hl
                                refine lv_aload_n hx hb nd_Ref_plain_263 rfl (lv_at hl 0 rfl) ?_
                                refine va_get (D := (dC, dI)) (ci := 5) (v := .ref (arf 15)) (C := "CeilingRowsModel") (T := nf_Ref) (N := 22) hx hb hts nin_Ref hown hK hP 0 rfl rfl 19 (by decide) (hts _ tw_432) (fun _ h9 => h9) rfl nd_Ref_plain_264 ?_
                                refine lv_iload hx hb nd_Ref_plain_267 (lv_at hl 5 rfl) ?_
                                refine lv_dup2_11 hx hb nd_Ref_plain_269 rfl rfl ?_
                                have b_30 : vp_in r_19 11 := vp_in_iff.mpr (by omega)
                                refine va_iald hx hb hK hP 15 0 rfl rfl b_30 nd_Ref_plain_270 ?_
                                refine lv_iconst (v := 1) hx hb nd_Ref_plain_271 (by decide) ?_
                                refine lv_iadd hx hb nd_Ref_plain_272 ?_
                                have b_31 : vp_in r_19 11 := vp_in_iff.mpr (by omega)
                                refine va_iast hx hb hK hP hD hS 15 0 rfl rfl b_31 nd_Ref_plain_273 (fun H locs hP hD hS => ?_)
                                have hP : va_P (dC, dI) vwCl (cw_Ref cI cZ cJ arf (cr_up ti_183 15 r_19.toNatClampNeg ((ti_183 15 r_19.toNatClampNeg) + (1 : Int32))) lat ln) H := hP
                                have hD : va_D A (cw_Ref cI cZ cJ arf (cr_up ti_183 15 r_19.toNatClampNeg ((ti_183 15 r_19.toNatClampNeg) + (1 : Int32))) lat ln) := hD
                                have hR_32 : cr_RRef (cr_up ti_183 15 r_19.toNatClampNeg ((ti_183 15 r_19.toNatClampNeg) + (1 : Int32))) := ⟨cr_rf_up hRx_rf_183.1 (fun e _ => absurd e (by decide)), cr_rf_up hRx_rf_183.2.1 (fun e _ => absurd e (by decide)), cr_rg_up hRx_rf_183.2.2.1 (fun e => absurd e (by decide)), cr_rg_up hRx_rf_183.2.2.2.1 (fun e => absurd e (by decide)), cr_rg_up hRx_rf_183.2.2.2.2.1 (fun e => absurd e (by decide)), cr_rh_up hRx_rf_183.2.2.2.2.2 (fun e => absurd e (by decide))⟩
                                obtain ⟨rfq_33, hrfq_33⟩ : ∃ z, (cr_up ti_183 15 r_19.toNatClampNeg ((ti_183 15 r_19.toNatClampNeg) + (1 : Int32))) = z := ⟨_, rfl⟩
                                rw [hrfq_33] at hP hD hR_32
                                try rw [hrfq_33] at hM
                                refine lv_aload_n hx hb nd_Ref_plain_274 rfl (lv_at hl 0 rfl) ?_
                                refine lv_iload hx hb nd_Ref_plain_275 (lv_at hl 5 rfl) ?_
                                refine lv_aload_n hx hb nd_Ref_plain_277 rfl (lv_at hl 0 rfl) ?_
                                refine va_get (D := (dC, dI)) (ci := 5) (v := .ref (arf 15)) (C := "CeilingRowsModel") (T := nf_Ref) (N := 22) hx hb hts nin_Ref hown hK hP 0 rfl rfl 19 (by decide) (hts _ tw_432) (fun _ h9 => h9) rfl nd_Ref_plain_278 ?_
                                refine lv_iload hx hb nd_Ref_plain_281 (lv_at hl 5 rfl) ?_
                                have b_34 : vp_in r_19 11 := vp_in_iff.mpr (by omega)
                                refine va_iald hx hb hK hP 15 0 rfl rfl b_34 nd_Ref_plain_283 ?_
                                have hPc := hP
                                have hDc := hD
                                have hFc := va_free (wc := cw_Ref cI cZ cJ arf rfq_33 lat ln) hD hS hA [0, 1, 2, 3, 4, 5, 6, 7, 8, 9, 10, 11, 12, 13, 14, 15, 16, 17] rfl
                                refine va_calli (va_runV (As := [.int r_19, .int (rfq_33 15 r_19.toNatClampNeg)]) (rest := []) ⟨hx, hb, hml, hown, hts⟩ (ct_Ref_tickOf l dC dI cI cZ cJ arf H.size rfq_33 lat ln r_19 (rfq_33 15 r_19.toNatClampNeg) hR_32 (by omega)) (cwV 2 hts (ng_V tw_589 tw_591 tp_32 tw_6 tw_592) rfl rfl rfl (by decide +kernel) ⟨Nat.le_of_ble_eq_true rfl, Nat.le_of_ble_eq_true rfl⟩) ⟨fun a U g mk q => by obtain ⟨q0, q1, qP, qK, qD⟩ := q; exact ⟨q0, q1, qP, va_K.moved (u := U) (U := U.calling g mk a) (Vm.Alike.refl U.vm) qK, qD⟩, va_recv hK hPc (ci := 5) (q0 := 0) rfl rfl, fun U hU hW => ⟨rfl, by rw [hU], by rw [hU]; exact hPc, va_K.moved hW.alike hK, hDc.weaken (fun _ _ _ _ => trivial)⟩⟩ rfl rfl hl.1 rfl (lv_room (Nat.le_of_ble_eq_true rfl)) nd_Ref_plain_284 ⟨Nat.zero_le _, Nat.zero_le _⟩) hS (fun q _ h => hFc q h) hFc (fun r_35 u t H1 locs ht hvm hw hB hz1 hk1 hS => ?_)
                                obtain ⟨hP1, hK1, hD1⟩ := hB
                                rw [ht] at hP1
                                obtain ⟨w_36, f_37⟩ := hw
                                try rw [← w_36] at hM
                                have hP := hP1
                                have hD := cr_Dw hD1 hFc
                                generalize H1 = H at hP hS ⊢
                                refine lv_istore (lv' := [(8, .int r_35), (0, .ref (arf 0)), (1, .long x1), (3, .int ti_75.2), (4, .int v4_64), (5, .int v5_134), (6, .int r_19), (7, .int r_24)]) hx hb nd_Ref_plain_287 hl (by decide) rfl (fun ls hl => ?_)
                                refine lv_aload_n hx hb nd_Ref_plain_289 rfl (lv_at hl 1 rfl) ?_
                                refine va_get (D := (dC, dI)) (ci := 5) (v := .ref (arf 16)) (C := "CeilingRowsModel") (T := nf_Ref) (N := 22) hx hb hts nin_Ref hown hK hP 0 rfl rfl 20 (by decide) (hts _ tw_433) (fun _ h9 => h9) rfl nd_Ref_plain_290 ?_
                                refine lv_iload hx hb nd_Ref_plain_293 (lv_at hl 6 rfl) ?_
                                refine lv_iload hx hb nd_Ref_plain_295 (lv_at hl 0 rfl) ?_
                                refine lv_iload hx hb nd_Ref_plain_297 (lv_at hl 7 rfl) ?_
                                refine lv_icmp_ne (tgt := 307) hx hb nd_Ref_plain_299 (by decide) (fun c_38 => ?_) (fun c_38 => ?_)
                                · have c_38t := cr_ne c_38
                                  rw [if_neg c_38] at hM
                                  refine lv_iconst (v := 0) hx hb nd_Ref_plain_307 (by decide) ?_
                                  have b_39 : vp_in r_19 11 := vp_in_iff.mpr (by omega)
                                  refine va_iast hx hb hK hP hD hS 16 0 rfl rfl b_39 nd_Ref_plain_308 (fun H locs hP hD hS => ?_)
                                  have hP : va_P (dC, dI) vwCl (cw_Ref cI cZ cJ arf (cr_up rfq_33 16 r_19.toNatClampNeg (0 : Int32)) lat ln) H := hP
                                  have hD : va_D A (cw_Ref cI cZ cJ arf (cr_up rfq_33 16 r_19.toNatClampNeg (0 : Int32)) lat ln) := hD
                                  have hR_40 : cr_RRef (cr_up rfq_33 16 r_19.toNatClampNeg (0 : Int32)) := ⟨cr_rf_up hR_32.1 (fun e _ => absurd e (by decide)), cr_rf_up hR_32.2.1 (fun e _ => absurd e (by decide)), cr_rg_up hR_32.2.2.1 (fun e => absurd e (by decide)), cr_rg_up hR_32.2.2.2.1 (fun e => absurd e (by decide)), cr_rg_up hR_32.2.2.2.2.1 (fun e => absurd e (by decide)), cr_rh_up hR_32.2.2.2.2.2 (fun _ => by omega)⟩
                                  obtain ⟨rfq_41, hrfq_41⟩ : ∃ z, (cr_up rfq_33 16 r_19.toNatClampNeg (0 : Int32)) = z := ⟨_, rfl⟩
                                  rw [hrfq_41] at hP hD hR_40
                                  try rw [hrfq_41] at hM
                                  refine lv_aload_n hx hb nd_Ref_plain_309 rfl (lv_at hl 1 rfl) ?_
                                  refine va_get (D := (dC, dI)) (ci := 5) (v := .ref (arf 13)) (C := "CeilingRowsModel") (T := nf_Ref) (N := 22) hx hb hts nin_Ref hown hK hP 0 rfl rfl 17 (by decide) (hts _ tw_430) (fun _ h9 => h9) rfl nd_Ref_plain_310 ?_
                                  refine lv_iload hx hb nd_Ref_plain_313 (lv_at hl 6 rfl) ?_
                                  refine lv_iload hx hb nd_Ref_plain_315 (lv_at hl 0 rfl) ?_
                                  refine lv_if_ge (tgt := 324) hx hb nd_Ref_plain_317 (by decide) (fun c_42 => ?_) (fun c_42 => ?_)
                                  · have c_42t := cr_le c_42
                                    rw [if_pos c_42] at hM
                                    refine lv_iconst (v := 1) hx hb nd_Ref_plain_324 (by decide) ?_
                                    have b_43 : vp_in r_19 11 := vp_in_iff.mpr (by omega)
                                    refine va_iast hx hb hK hP hD hS 13 0 rfl rfl b_43 nd_Ref_plain_325 (fun H locs hP hD hS => ?_)
                                    have hP : va_P (dC, dI) vwCl (cw_Ref cI cZ cJ arf (cr_up rfq_41 13 r_19.toNatClampNeg (1 : Int32)) lat ln) H := hP
                                    have hD : va_D A (cw_Ref cI cZ cJ arf (cr_up rfq_41 13 r_19.toNatClampNeg (1 : Int32)) lat ln) := hD
                                    have hR_44 : cr_RRef (cr_up rfq_41 13 r_19.toNatClampNeg (1 : Int32)) := ⟨cr_rf_up hR_40.1 (fun e _ => absurd e (by decide)), cr_rf_up hR_40.2.1 (fun e _ => absurd e (by decide)), cr_rg_up hR_40.2.2.1 (fun e => absurd e (by decide)), cr_rg_up hR_40.2.2.2.1 (fun e => absurd e (by decide)), cr_rg_up hR_40.2.2.2.2.1 (fun e => absurd e (by decide)), cr_rh_up hR_40.2.2.2.2.2 (fun e => absurd e (by decide))⟩
                                    obtain ⟨rfq_45, hrfq_45⟩ : ∃ z, (cr_up rfq_41 13 r_19.toNatClampNeg (1 : Int32)) = z := ⟨_, rfl⟩
                                    rw [hrfq_45] at hP hD hR_44
                                    try rw [hrfq_45] at hM
                                    have e_46 : (v5_134 + (1 : Int32)).toInt = v5_134.toInt + (1 : Int32).toInt := cr_add (by omega)
                                    refine lv_iinc (v := (v5_134 + (1 : Int32))) (lv' := [(5, .int (v5_134 + (1 : Int32))), (8, .int r_35), (0, .ref (arf 0)), (1, .long x1), (3, .int ti_75.2), (4, .int v4_64), (6, .int r_19), (7, .int r_24)]) hx hb nd_Ref_plain_326 hl (k := 5) rfl (by rfl) (by decide) rfl (fun ls hl => ?_)
                                    refine lv_goto (tgt := 134) hx hb nd_Ref_plain_329 (by decide) ?_
                                    exact ih_134 rfq_45 (v5_134 + (1 : Int32)) hR_44 (by omega) (by omega) hM _ _ hP hD hS _ (lv_sub hl [2, 3, 4, 5, 0] rfl)
                                  · have c_42t := cr_nle c_42
                                    rw [if_neg c_42] at hM
                                    refine lv_iconst (v := 2) hx hb nd_Ref_plain_320 (by decide) ?_
                                    refine lv_goto (tgt := 325) hx hb nd_Ref_plain_321 (by decide) ?_
                                    have b_47 : vp_in r_19 11 := vp_in_iff.mpr (by omega)
                                    refine va_iast hx hb hK hP hD hS 13 0 rfl rfl b_47 nd_Ref_plain_325 (fun H locs hP hD hS => ?_)
                                    have hP : va_P (dC, dI) vwCl (cw_Ref cI cZ cJ arf (cr_up rfq_41 13 r_19.toNatClampNeg (2 : Int32)) lat ln) H := hP
                                    have hD : va_D A (cw_Ref cI cZ cJ arf (cr_up rfq_41 13 r_19.toNatClampNeg (2 : Int32)) lat ln) := hD
                                    have hR_48 : cr_RRef (cr_up rfq_41 13 r_19.toNatClampNeg (2 : Int32)) := ⟨cr_rf_up hR_40.1 (fun e _ => absurd e (by decide)), cr_rf_up hR_40.2.1 (fun e _ => absurd e (by decide)), cr_rg_up hR_40.2.2.1 (fun e => absurd e (by decide)), cr_rg_up hR_40.2.2.2.1 (fun e => absurd e (by decide)), cr_rg_up hR_40.2.2.2.2.1 (fun e => absurd e (by decide)), cr_rh_up hR_40.2.2.2.2.2 (fun e => absurd e (by decide))⟩
                                    obtain ⟨rfq_49, hrfq_49⟩ : ∃ z, (cr_up rfq_41 13 r_19.toNatClampNeg (2 : Int32)) = z := ⟨_, rfl⟩
                                    rw [hrfq_49] at hP hD hR_48
                                    try rw [hrfq_49] at hM
                                    have e_50 : (v5_134 + (1 : Int32)).toInt = v5_134.toInt + (1 : Int32).toInt := cr_add (by omega)
                                    refine lv_iinc (v := (v5_134 + (1 : Int32))) (lv' := [(5, .int (v5_134 + (1 : Int32))), (8, .int r_35), (0, .ref (arf 0)), (1, .long x1), (3, .int ti_75.2), (4, .int v4_64), (6, .int r_19), (7, .int r_24)]) hx hb nd_Ref_plain_326 hl (k := 5) rfl (by rfl) (by decide) rfl (fun ls hl => ?_)
                                    refine lv_goto (tgt := 134) hx hb nd_Ref_plain_329 (by decide) ?_
                                    exact ih_134 rfq_49 (v5_134 + (1 : Int32)) hR_48 (by omega) (by omega) hM _ _ hP hD hS _ (lv_sub hl [2, 3, 4, 5, 0] rfl)
                                · have c_38t := cr_eq c_38
                                  rw [if_pos c_38] at hM
                                  refine lv_iload hx hb nd_Ref_plain_302 (lv_at hl 7 rfl) ?_
                                  refine lv_goto (tgt := 308) hx hb nd_Ref_plain_304 (by decide) ?_
                                  have b_51 : vp_in r_19 11 := vp_in_iff.mpr (by omega)
                                  refine va_iast hx hb hK hP hD hS 16 0 rfl rfl b_51 nd_Ref_plain_308 (fun H locs hP hD hS => ?_)
                                  have hP : va_P (dC, dI) vwCl (cw_Ref cI cZ cJ arf (cr_up rfq_33 16 r_19.toNatClampNeg r_24) lat ln) H := hP
                                  have hD : va_D A (cw_Ref cI cZ cJ arf (cr_up rfq_33 16 r_19.toNatClampNeg r_24) lat ln) := hD
                                  have hR_52 : cr_RRef (cr_up rfq_33 16 r_19.toNatClampNeg r_24) := ⟨cr_rf_up hR_32.1 (fun e _ => absurd e (by decide)), cr_rf_up hR_32.2.1 (fun e _ => absurd e (by decide)), cr_rg_up hR_32.2.2.1 (fun e => absurd e (by decide)), cr_rg_up hR_32.2.2.2.1 (fun e => absurd e (by decide)), cr_rg_up hR_32.2.2.2.2.1 (fun e => absurd e (by decide)), cr_rh_up hR_32.2.2.2.2.2 (fun _ => by omega)⟩
                                  obtain ⟨rfq_53, hrfq_53⟩ : ∃ z, (cr_up rfq_33 16 r_19.toNatClampNeg r_24) = z := ⟨_, rfl⟩
                                  rw [hrfq_53] at hP hD hR_52
                                  try rw [hrfq_53] at hM
                                  refine lv_aload_n hx hb nd_Ref_plain_309 rfl (lv_at hl 1 rfl) ?_
                                  refine va_get (D := (dC, dI)) (ci := 5) (v := .ref (arf 13)) (C := "CeilingRowsModel") (T := nf_Ref) (N := 22) hx hb hts nin_Ref hown hK hP 0 rfl rfl 17 (by decide) (hts _ tw_430) (fun _ h9 => h9) rfl nd_Ref_plain_310 ?_
                                  refine lv_iload hx hb nd_Ref_plain_313 (lv_at hl 6 rfl) ?_
                                  refine lv_iload hx hb nd_Ref_plain_315 (lv_at hl 0 rfl) ?_
                                  refine lv_if_ge (tgt := 324) hx hb nd_Ref_plain_317 (by decide) (fun c_54 => ?_) (fun c_54 => ?_)
                                  · have c_54t := cr_le c_54
                                    rw [if_pos c_54] at hM
                                    refine lv_iconst (v := 1) hx hb nd_Ref_plain_324 (by decide) ?_
                                    have b_55 : vp_in r_19 11 := vp_in_iff.mpr (by omega)
                                    refine va_iast hx hb hK hP hD hS 13 0 rfl rfl b_55 nd_Ref_plain_325 (fun H locs hP hD hS => ?_)
                                    have hP : va_P (dC, dI) vwCl (cw_Ref cI cZ cJ arf (cr_up rfq_53 13 r_19.toNatClampNeg (1 : Int32)) lat ln) H := hP
                                    have hD : va_D A (cw_Ref cI cZ cJ arf (cr_up rfq_53 13 r_19.toNatClampNeg (1 : Int32)) lat ln) := hD
                                    have hR_56 : cr_RRef (cr_up rfq_53 13 r_19.toNatClampNeg (1 : Int32)) := ⟨cr_rf_up hR_52.1 (fun e _ => absurd e (by decide)), cr_rf_up hR_52.2.1 (fun e _ => absurd e (by decide)), cr_rg_up hR_52.2.2.1 (fun e => absurd e (by decide)), cr_rg_up hR_52.2.2.2.1 (fun e => absurd e (by decide)), cr_rg_up hR_52.2.2.2.2.1 (fun e => absurd e (by decide)), cr_rh_up hR_52.2.2.2.2.2 (fun e => absurd e (by decide))⟩
                                    obtain ⟨rfq_57, hrfq_57⟩ : ∃ z, (cr_up rfq_53 13 r_19.toNatClampNeg (1 : Int32)) = z := ⟨_, rfl⟩
                                    rw [hrfq_57] at hP hD hR_56
                                    try rw [hrfq_57] at hM
                                    have e_58 : (v5_134 + (1 : Int32)).toInt = v5_134.toInt + (1 : Int32).toInt := cr_add (by omega)
                                    refine lv_iinc (v := (v5_134 + (1 : Int32))) (lv' := [(5, .int (v5_134 + (1 : Int32))), (8, .int r_35), (0, .ref (arf 0)), (1, .long x1), (3, .int ti_75.2), (4, .int v4_64), (6, .int r_19), (7, .int r_24)]) hx hb nd_Ref_plain_326 hl (k := 5) rfl (by rfl) (by decide) rfl (fun ls hl => ?_)
                                    refine lv_goto (tgt := 134) hx hb nd_Ref_plain_329 (by decide) ?_
                                    exact ih_134 rfq_57 (v5_134 + (1 : Int32)) hR_56 (by omega) (by omega) hM _ _ hP hD hS _ (lv_sub hl [2, 3, 4, 5, 0] rfl)
                                  · have c_54t := cr_nle c_54
                                    rw [if_neg c_54] at hM
                                    refine lv_iconst (v := 2) hx hb nd_Ref_plain_320 (by decide) ?_
                                    refine lv_goto (tgt := 325) hx hb nd_Ref_plain_321 (by decide) ?_
                                    have b_59 : vp_in r_19 11 := vp_in_iff.mpr (by omega)
                                    refine va_iast hx hb hK hP hD hS 13 0 rfl rfl b_59 nd_Ref_plain_325 (fun H locs hP hD hS => ?_)
                                    have hP : va_P (dC, dI) vwCl (cw_Ref cI cZ cJ arf (cr_up rfq_53 13 r_19.toNatClampNeg (2 : Int32)) lat ln) H := hP
                                    have hD : va_D A (cw_Ref cI cZ cJ arf (cr_up rfq_53 13 r_19.toNatClampNeg (2 : Int32)) lat ln) := hD
                                    have hR_60 : cr_RRef (cr_up rfq_53 13 r_19.toNatClampNeg (2 : Int32)) := ⟨cr_rf_up hR_52.1 (fun e _ => absurd e (by decide)), cr_rf_up hR_52.2.1 (fun e _ => absurd e (by decide)), cr_rg_up hR_52.2.2.1 (fun e => absurd e (by decide)), cr_rg_up hR_52.2.2.2.1 (fun e => absurd e (by decide)), cr_rg_up hR_52.2.2.2.2.1 (fun e => absurd e (by decide)), cr_rh_up hR_52.2.2.2.2.2 (fun e => absurd e (by decide))⟩
                                    obtain ⟨rfq_61, hrfq_61⟩ : ∃ z, (cr_up rfq_53 13 r_19.toNatClampNeg (2 : Int32)) = z := ⟨_, rfl⟩
                                    rw [hrfq_61] at hP hD hR_60
                                    try rw [hrfq_61] at hM
                                    have e_62 : (v5_134 + (1 : Int32)).toInt = v5_134.toInt + (1 : Int32).toInt := cr_add (by omega)
                                    refine lv_iinc (v := (v5_134 + (1 : Int32))) (lv' := [(5, .int (v5_134 + (1 : Int32))), (8, .int r_35), (0, .ref (arf 0)), (1, .long x1), (3, .int ti_75.2), (4, .int v4_64), (6, .int r_19), (7, .int r_24)]) hx hb nd_Ref_plain_326 hl (k := 5) rfl (by rfl) (by decide) rfl (fun ls hl => ?_)
                                    refine lv_goto (tgt := 134) hx hb nd_Ref_plain_329 (by decide) ?_
                                    exact ih_134 rfq_61 (v5_134 + (1 : Int32)) hR_60 (by omega) (by omega) hM _ _ hP hD hS _ (lv_sub hl [2, 3, 4, 5, 0] rfl)
                              have lp_183 : ∀ (n_183 : Nat) (rf_183 : cr_S) (v8_183 : Int32), (cr_RRef rf_183) → (1 ≤ v8_183.toInt ∧ v8_183.toInt ≤ 11) → (11 < v8_183.toInt + (n_183 : Int)) → lo_Ref_plain_183 lat ln x1 ti_75.2 v4_64 v5_134 r_19 r_24 n_183 rf_183 v8_183 = ti_183 → ∀ (H : Heap) (locs : List Loc), va_P (dC, dI) vwCl (cw_Ref cI cZ cJ arf rf_183 lat ln) H → va_D A (cw_Ref cI cZ cJ arf rf_183 lat ln) → va_S A s.heap H locs → ∀ ls : Array Slot, lv_has ls 9 [(0, .ref (arf 0)), (1, .long x1), (3, .int ti_75.2), (4, .int v4_64), (5, .int v5_134), (6, .int r_19), (7, .int r_24), (8, .int v8_183)] → W p l e (headSpec nw_Ref_plain ({ frames := 3, cells := 0, slots := 0, locals := 68 } : Room)).room s m ([.ref (arf 0), .long x1] : List Value).toArray below meth c H locs 0 0 (MQ below (pq_Ref_plain dC dI cI cZ cJ arf rf lat ln x1 A) ([.ref (arf 0), .long x1] : List Value).toArray s 0 0 A) (F0 m 183 ls []) := by
                                try clear hM
                                intro n_183
                                induction n_183 with
                                | zero =>
                                  intro rf_183 v8_183 hR_rf_183 hv8_183 hn_183
                                  exfalso; omega
                                | succ n_183 ih_183 =>
                                  intro rf_183 v8_183 hR_rf_183 hv8_183 hn_183 hM H locs hP hD hS ls hl
                                  have hn_183 : 11 < v8_183.toInt + ((n_183 : Int) + 1) := by omega
                                  rw [lo_Ref_plain_183] at hM
                                  refine lv_iload hx hb nd_Ref_plain_183 (lv_at hl 7 rfl) ?_
                                  refine lv_aload_n hx hb nd_Ref_plain_185 rfl (lv_at hl 0 rfl) ?_
                                  refine va_get (D := (dC, dI)) (ci := 5) (v := .int (rf_183 0 0)) (C := "CeilingRowsModel") (T := nf_Ref) (N := 22) hx hb hts nin_Ref hown hK hP 0 rfl rfl 0 (by decide) (hts _ tw_413) (fun _ h9 => h9) rfl nd_Ref_plain_186 ?_
                                  have f_63 := cr_rfo hR_rf_183.1
                                  refine lv_icmp_gt (tgt := 263) hx hb nd_Ref_plain_189 (by decide) (fun c_64 => ?_) (fun c_64 => ?_)
                                  · have c_64t := cr_lt c_64
                                    rw [if_pos c_64] at hM
                                    subst hM
                                    exact hex_183 hR_rf_183 _ _ hP hD hS _ (lv_sub hl [0, 1, 2, 3, 4, 5, 6] rfl)
                                  · have c_64t := cr_nlt c_64
                                    rw [if_neg c_64] at hM
                                    refine lv_iload hx hb nd_Ref_plain_192 (lv_at hl 6 rfl) ?_
                                    refine lv_if_le (tgt := 263) hx hb nd_Ref_plain_194 (by decide) (fun c_65 => ?_) (fun c_65 => ?_)
                                    · have c_65t := cr_le c_65
                                      rw [if_pos c_65] at hM
                                      subst hM
                                      exact hex_183 hR_rf_183 _ _ hP hD hS _ (lv_sub hl [0, 1, 2, 3, 4, 5, 6] rfl)
                                    · have c_65t := cr_nle c_65
                                      rw [if_neg c_65] at hM
                                      refine lv_aload_n hx hb nd_Ref_plain_197 rfl (lv_at hl 0 rfl) ?_
                                      refine va_get (D := (dC, dI)) (ci := 5) (v := .ref (arf 2)) (C := "CeilingRowsModel") (T := nf_Ref) (N := 22) hx hb hts nin_Ref hown hK hP 0 rfl rfl 2 (by decide) (hts _ tw_415) (fun _ h9 => h9) rfl nd_Ref_plain_198 ?_
                                      refine lv_iload hx hb nd_Ref_plain_201 (lv_at hl 7 rfl) ?_
                                      have b_66 : vp_in v8_183 11 := vp_in_iff.mpr (by omega)
                                      refine va_iald hx hb hK hP 2 0 rfl rfl b_66 nd_Ref_plain_203 ?_
                                      have f_67 := cr_rgo hR_rf_183.2.2.1 (v8_183.toNatClampNeg)
                                      refine lv_iload hx hb nd_Ref_plain_204 (lv_at hl 4 rfl) ?_
                                      refine lv_icmp_ne (tgt := 257) hx hb nd_Ref_plain_206 (by decide) (fun c_68 => ?_) (fun c_68 => ?_)
                                      · have c_68t := cr_ne c_68
                                        rw [if_neg c_68] at hM
                                        have e_69 : (v8_183 + (1 : Int32)).toInt = v8_183.toInt + (1 : Int32).toInt := cr_add (by omega)
                                        refine lv_iinc (v := (v8_183 + (1 : Int32))) (lv' := [(8, .int (v8_183 + (1 : Int32))), (0, .ref (arf 0)), (1, .long x1), (3, .int ti_75.2), (4, .int v4_64), (5, .int v5_134), (6, .int r_19), (7, .int r_24)]) hx hb nd_Ref_plain_257 hl (k := 7) rfl (by rfl) (by decide) rfl (fun ls hl => ?_)
                                        refine lv_goto (tgt := 183) hx hb nd_Ref_plain_260 (by decide) ?_
                                        exact ih_183 rf_183 (v8_183 + (1 : Int32)) hR_rf_183 (by omega) (by omega) hM _ _ hP hD hS _ (lv_sub hl [1, 2, 3, 4, 5, 6, 7, 0] rfl)
                                      · have c_68t := cr_eq c_68
                                        rw [if_pos c_68] at hM
                                        refine lv_aload_n hx hb nd_Ref_plain_209 rfl (lv_at hl 0 rfl) ?_
                                        refine va_get (D := (dC, dI)) (ci := 5) (v := .ref (arf 1)) (C := "CeilingRowsModel") (T := nf_Ref) (N := 22) hx hb hts nin_Ref hown hK hP 0 rfl rfl 1 (by decide) (hts _ tw_414) (fun _ h9 => h9) rfl nd_Ref_plain_210 ?_
                                        refine lv_iload hx hb nd_Ref_plain_213 (lv_at hl 5 rfl) ?_
                                        have b_70 : vp_in r_19 11 := vp_in_iff.mpr (by omega)
                                        refine va_iald hx hb hK hP 1 0 rfl rfl b_70 nd_Ref_plain_215 ?_
                                        refine lv_aload_n hx hb nd_Ref_plain_216 rfl (lv_at hl 0 rfl) ?_
                                        refine va_get (D := (dC, dI)) (ci := 5) (v := .ref (arf 1)) (C := "CeilingRowsModel") (T := nf_Ref) (N := 22) hx hb hts nin_Ref hown hK hP 0 rfl rfl 1 (by decide) (hts _ tw_414) (fun _ h9 => h9) rfl nd_Ref_plain_217 ?_
                                        refine lv_iload hx hb nd_Ref_plain_220 (lv_at hl 7 rfl) ?_
                                        have b_71 : vp_in v8_183 11 := vp_in_iff.mpr (by omega)
                                        refine va_iald hx hb hK hP 1 0 rfl rfl b_71 nd_Ref_plain_222 ?_
                                        refine lv_icmp_ge (tgt := 257) hx hb nd_Ref_plain_223 (by decide) (fun c_72 => ?_) (fun c_72 => ?_)
                                        · have c_72t := cr_le c_72
                                          rw [if_pos c_72] at hM
                                          have e_73 : (v8_183 + (1 : Int32)).toInt = v8_183.toInt + (1 : Int32).toInt := cr_add (by omega)
                                          refine lv_iinc (v := (v8_183 + (1 : Int32))) (lv' := [(8, .int (v8_183 + (1 : Int32))), (0, .ref (arf 0)), (1, .long x1), (3, .int ti_75.2), (4, .int v4_64), (5, .int v5_134), (6, .int r_19), (7, .int r_24)]) hx hb nd_Ref_plain_257 hl (k := 7) rfl (by rfl) (by decide) rfl (fun ls hl => ?_)
                                          refine lv_goto (tgt := 183) hx hb nd_Ref_plain_260 (by decide) ?_
                                          exact ih_183 rf_183 (v8_183 + (1 : Int32)) hR_rf_183 (by omega) (by omega) hM _ _ hP hD hS _ (lv_sub hl [1, 2, 3, 4, 5, 6, 7, 0] rfl)
                                        · have c_72t := cr_nle c_72
                                          rw [if_neg c_72] at hM
                                          refine lv_aload_n hx hb nd_Ref_plain_226 rfl (lv_at hl 0 rfl) ?_
                                          refine va_get (D := (dC, dI)) (ci := 5) (v := .ref (arf 13)) (C := "CeilingRowsModel") (T := nf_Ref) (N := 22) hx hb hts nin_Ref hown hK hP 0 rfl rfl 17 (by decide) (hts _ tw_430) (fun _ h9 => h9) rfl nd_Ref_plain_227 ?_
                                          refine lv_iload hx hb nd_Ref_plain_230 (lv_at hl 7 rfl) ?_
                                          have b_74 : vp_in v8_183 11 := vp_in_iff.mpr (by omega)
                                          refine va_iald hx hb hK hP 13 0 rfl rfl b_74 nd_Ref_plain_232 ?_
                                          refine lv_iconst (v := 1) hx hb nd_Ref_plain_233 (by decide) ?_
                                          refine lv_icmp_ne (tgt := 257) hx hb nd_Ref_plain_234 (by decide) (fun c_75 => ?_) (fun c_75 => ?_)
                                          · have c_75t := cr_ne c_75
                                            rw [if_neg c_75] at hM
                                            have e_76 : (v8_183 + (1 : Int32)).toInt = v8_183.toInt + (1 : Int32).toInt := cr_add (by omega)
                                            refine lv_iinc (v := (v8_183 + (1 : Int32))) (lv' := [(8, .int (v8_183 + (1 : Int32))), (0, .ref (arf 0)), (1, .long x1), (3, .int ti_75.2), (4, .int v4_64), (5, .int v5_134), (6, .int r_19), (7, .int r_24)]) hx hb nd_Ref_plain_257 hl (k := 7) rfl (by rfl) (by decide) rfl (fun ls hl => ?_)
                                            refine lv_goto (tgt := 183) hx hb nd_Ref_plain_260 (by decide) ?_
                                            exact ih_183 rf_183 (v8_183 + (1 : Int32)) hR_rf_183 (by omega) (by omega) hM _ _ hP hD hS _ (lv_sub hl [1, 2, 3, 4, 5, 6, 7, 0] rfl)
                                          · have c_75t := cr_eq c_75
                                            rw [if_pos c_75] at hM
                                            refine lv_aload_n hx hb nd_Ref_plain_237 rfl (lv_at hl 0 rfl) ?_
                                            refine va_get (D := (dC, dI)) (ci := 5) (v := .ref (arf 17)) (C := "CeilingRowsModel") (T := nf_Ref) (N := 22) hx hb hts nin_Ref hown hK hP 0 rfl rfl 21 (by decide) (hts _ tw_434) (fun _ h9 => h9) rfl nd_Ref_plain_238 ?_
                                            refine lv_bipush (v := 99) hx hb nd_Ref_plain_241 (by decide) ?_
                                            refine lv_iload hx hb nd_Ref_plain_243 (lv_at hl 7 rfl) ?_
                                            refine lv_imul hx hb nd_Ref_plain_245 ?_
                                            have e_77 : ((99 : Int32) * v8_183).toInt = 99 * v8_183.toInt := cr_mulL 99 k_99 (by omega)
                                            refine lv_bipush (v := 9) hx hb nd_Ref_plain_246 (by decide) ?_
                                            refine lv_iload hx hb nd_Ref_plain_248 (lv_at hl 5 rfl) ?_
                                            refine lv_imul hx hb nd_Ref_plain_250 ?_
                                            have e_78 : ((9 : Int32) * r_19).toInt = 9 * r_19.toInt := cr_mulL 9 k_9 (by omega)
                                            refine lv_iadd hx hb nd_Ref_plain_251 ?_
                                            have e_79 : (((99 : Int32) * v8_183) + ((9 : Int32) * r_19)).toInt = ((99 : Int32) * v8_183).toInt + ((9 : Int32) * r_19).toInt := cr_add (by omega)
                                            refine lv_iload hx hb nd_Ref_plain_252 (lv_at hl 6 rfl) ?_
                                            refine lv_iadd hx hb nd_Ref_plain_254 ?_
                                            have e_80 : ((((99 : Int32) * v8_183) + ((9 : Int32) * r_19)) + r_24).toInt = (((99 : Int32) * v8_183) + ((9 : Int32) * r_19)).toInt + r_24.toInt := cr_add (by omega)
                                            refine lv_iconst (v := 1) hx hb nd_Ref_plain_255 (by decide) ?_
                                            have b_81 : vp_in ((((99 : Int32) * v8_183) + ((9 : Int32) * r_19)) + r_24) 1089 := vp_in_iff.mpr (by omega)
                                            refine va_zast hx hb hK hP hD hS 17 1 rfl rfl b_81 nd_Ref_plain_256 (fun H locs hP hD hS => ?_)
                                            rw [show vp_nar .boolean (1 : Int32) = (1 : Int32) by decide] at hP hD
                                            have hP : va_P (dC, dI) vwCl (cw_Ref cI cZ cJ arf (cr_up rf_183 17 ((((99 : Int32) * v8_183) + ((9 : Int32) * r_19)) + r_24).toNatClampNeg (1 : Int32)) lat ln) H := hP
                                            have hD : va_D A (cw_Ref cI cZ cJ arf (cr_up rf_183 17 ((((99 : Int32) * v8_183) + ((9 : Int32) * r_19)) + r_24).toNatClampNeg (1 : Int32)) lat ln) := hD
                                            have hR_82 : cr_RRef (cr_up rf_183 17 ((((99 : Int32) * v8_183) + ((9 : Int32) * r_19)) + r_24).toNatClampNeg (1 : Int32)) := ⟨cr_rf_up hR_rf_183.1 (fun e _ => absurd e (by decide)), cr_rf_up hR_rf_183.2.1 (fun e _ => absurd e (by decide)), cr_rg_up hR_rf_183.2.2.1 (fun e => absurd e (by decide)), cr_rg_up hR_rf_183.2.2.2.1 (fun e => absurd e (by decide)), cr_rg_up hR_rf_183.2.2.2.2.1 (fun e => absurd e (by decide)), cr_rh_up hR_rf_183.2.2.2.2.2 (fun e => absurd e (by decide))⟩
                                            obtain ⟨rfq_83, hrfq_83⟩ : ∃ z, (cr_up rf_183 17 ((((99 : Int32) * v8_183) + ((9 : Int32) * r_19)) + r_24).toNatClampNeg (1 : Int32)) = z := ⟨_, rfl⟩
                                            rw [hrfq_83] at hP hD hR_82
                                            try rw [hrfq_83] at hM
                                            have e_84 : (v8_183 + (1 : Int32)).toInt = v8_183.toInt + (1 : Int32).toInt := cr_add (by omega)
                                            refine lv_iinc (v := (v8_183 + (1 : Int32))) (lv' := [(8, .int (v8_183 + (1 : Int32))), (0, .ref (arf 0)), (1, .long x1), (3, .int ti_75.2), (4, .int v4_64), (5, .int v5_134), (6, .int r_19), (7, .int r_24)]) hx hb nd_Ref_plain_257 hl (k := 7) rfl (by rfl) (by decide) rfl (fun ls hl => ?_)
                                            refine lv_goto (tgt := 183) hx hb nd_Ref_plain_260 (by decide) ?_
                                            exact ih_183 rfq_83 (v8_183 + (1 : Int32)) hR_82 (by omega) (by omega) hM _ _ hP hD hS _ (lv_sub hl [1, 2, 3, 4, 5, 6, 7, 0] rfl)
                              exact lp_183 11 rfq_29 (1 : Int32) hR_28 (by omega) (by omega) hti_183 _ _ hP hD hS _ hl
                            · have c_22t := cr_eq c_22
                              rw [if_pos c_22] at hM
                              refine lv_goto (tgt := 326) hx hb nd_Ref_plain_153 (by decide) ?_
                              have e_85 : (v5_134 + (1 : Int32)).toInt = v5_134.toInt + (1 : Int32).toInt := cr_add (by omega)
                              refine lv_iinc (v := (v5_134 + (1 : Int32))) (lv' := [(5, .int (v5_134 + (1 : Int32))), (6, .int r_19), (0, .ref (arf 0)), (1, .long x1), (3, .int ti_75.2), (4, .int v4_64)]) hx hb nd_Ref_plain_326 hl (k := 5) rfl (by rfl) (by decide) rfl (fun ls hl => ?_)
                              refine lv_goto (tgt := 134) hx hb nd_Ref_plain_329 (by decide) ?_
                              exact ih_134 rf_134 (v5_134 + (1 : Int32)) hR_rf_134 (by omega) (by omega) hM _ _ hP hD hS _ (lv_sub hl [2, 3, 4, 5, 0] rfl)
                      exact lp_134 4 ti_75.1 (1 : Int32) hRx_rf_75 (by omega) (by omega) hti_134 _ _ hP hD hS _ hl
                    have lp_75 : ∀ (n_75 : Nat) (rf_75 : cr_S) (v3_75 : Int32) (v5_75 : Int32), (cr_RRef rf_75) → (1 ≤ v5_75.toInt ∧ v5_75.toInt ≤ 11) → (11 < v5_75.toInt + (n_75 : Int)) → lo_Ref_plain_75 lat ln x1 v4_64 n_75 rf_75 v3_75 v5_75 = ti_75 → ∀ (H : Heap) (locs : List Loc), va_P (dC, dI) vwCl (cw_Ref cI cZ cJ arf rf_75 lat ln) H → va_D A (cw_Ref cI cZ cJ arf rf_75 lat ln) → va_S A s.heap H locs → ∀ ls : Array Slot, lv_has ls 9 [(0, .ref (arf 0)), (1, .long x1), (3, .int v3_75), (4, .int v4_64), (5, .int v5_75)] → W p l e (headSpec nw_Ref_plain ({ frames := 3, cells := 0, slots := 0, locals := 68 } : Room)).room s m ([.ref (arf 0), .long x1] : List Value).toArray below meth c H locs 0 0 (MQ below (pq_Ref_plain dC dI cI cZ cJ arf rf lat ln x1 A) ([.ref (arf 0), .long x1] : List Value).toArray s 0 0 A) (F0 m 75 ls []) := by
                      try clear hM
                      intro n_75
                      induction n_75 with
                      | zero =>
                        intro rf_75 v3_75 v5_75 hR_rf_75 hv5_75 hn_75
                        exfalso; omega
                      | succ n_75 ih_75 =>
                        intro rf_75 v3_75 v5_75 hR_rf_75 hv5_75 hn_75 hM H locs hP hD hS ls hl
                        have hn_75 : 11 < v5_75.toInt + ((n_75 : Int) + 1) := by omega
                        rw [lo_Ref_plain_75] at hM
                        refine lv_iload hx hb nd_Ref_plain_75 (lv_at hl 4 rfl) ?_
                        refine lv_aload_n hx hb nd_Ref_plain_77 rfl (lv_at hl 0 rfl) ?_
                        refine va_get (D := (dC, dI)) (ci := 5) (v := .int (rf_75 0 0)) (C := "CeilingRowsModel") (T := nf_Ref) (N := 22) hx hb hts nin_Ref hown hK hP 0 rfl rfl 0 (by decide) (hts _ tw_413) (fun _ h9 => h9) rfl nd_Ref_plain_78 ?_
                        have f_86 := cr_rfo hR_rf_75.1
                        refine lv_icmp_gt (tgt := 131) hx hb nd_Ref_plain_81 (by decide) (fun c_87 => ?_) (fun c_87 => ?_)
                        · have c_87t := cr_lt c_87
                          rw [if_pos c_87] at hM
                          subst hM
                          exact hex_75 hR_rf_75 _ _ hP hD hS _ (lv_sub hl [0, 1, 2, 3] rfl)
                        · have c_87t := cr_nlt c_87
                          rw [if_neg c_87] at hM
                          refine lv_lload_n hx hb nd_Ref_plain_84 rfl (lv_at hl 1 rfl) ?_
                          refine lv_iconst (v := 3) hx hb nd_Ref_plain_85 (by decide) ?_
                          refine lv_iload hx hb nd_Ref_plain_86 (lv_at hl 4 rfl) ?_
                          refine lv_iconst (v := 1) hx hb nd_Ref_plain_88 (by decide) ?_
                          refine lv_isub hx hb nd_Ref_plain_89 ?_
                          have e_88 : (v5_75 - (1 : Int32)).toInt = v5_75.toInt - (1 : Int32).toInt := cr_sub (by omega)
                          refine lv_imul hx hb nd_Ref_plain_90 ?_
                          have e_89 : ((3 : Int32) * (v5_75 - (1 : Int32))).toInt = 3 * (v5_75 - (1 : Int32)).toInt := cr_mulL 3 k_3 (by omega)
                          refine lv_lshr (v := (x1 >>> (((3 : Int32) * (v5_75 - (1 : Int32))).toInt64 &&& 63))) hx hb nd_Ref_plain_91 rfl ?_
                          refine lv_ldc2 (v := 7) hx hb hown (hts _ tw_580) nd_Ref_plain_92 ?_
                          refine lv_land hx hb nd_Ref_plain_95 ?_
                          refine lv_iload hx hb nd_Ref_plain_96 (lv_at hl 3 rfl) ?_
                          refine lv_i2l (v := v4_64.toInt64) hx hb nd_Ref_plain_98 rfl ?_
                          refine W.lcmp hx hb nd_Ref_plain_99 ?_
                          refine lv_if_eq (tgt := 106) hx hb nd_Ref_plain_100 (by decide) (fun c_90 => ?_) (fun c_90 => ?_)
                          · have c_90t := cr_eq c_90
                            rw [if_pos c_90] at hM
                            refine lv_aload_n hx hb nd_Ref_plain_106 rfl (lv_at hl 0 rfl) ?_
                            refine va_get (D := (dC, dI)) (ci := 5) (v := .ref (arf 13)) (C := "CeilingRowsModel") (T := nf_Ref) (N := 22) hx hb hts nin_Ref hown hK hP 0 rfl rfl 17 (by decide) (hts _ tw_430) (fun _ h9 => h9) rfl nd_Ref_plain_107 ?_
                            refine lv_iload hx hb nd_Ref_plain_110 (lv_at hl 4 rfl) ?_
                            refine lv_iconst (v := 1) hx hb nd_Ref_plain_112 (by decide) ?_
                            have b_91 : vp_in v5_75 11 := vp_in_iff.mpr (by omega)
                            refine va_iast hx hb hK hP hD hS 13 0 rfl rfl b_91 nd_Ref_plain_113 (fun H locs hP hD hS => ?_)
                            have hP : va_P (dC, dI) vwCl (cw_Ref cI cZ cJ arf (cr_up rf_75 13 v5_75.toNatClampNeg (1 : Int32)) lat ln) H := hP
                            have hD : va_D A (cw_Ref cI cZ cJ arf (cr_up rf_75 13 v5_75.toNatClampNeg (1 : Int32)) lat ln) := hD
                            have hR_92 : cr_RRef (cr_up rf_75 13 v5_75.toNatClampNeg (1 : Int32)) := ⟨cr_rf_up hR_rf_75.1 (fun e _ => absurd e (by decide)), cr_rf_up hR_rf_75.2.1 (fun e _ => absurd e (by decide)), cr_rg_up hR_rf_75.2.2.1 (fun e => absurd e (by decide)), cr_rg_up hR_rf_75.2.2.2.1 (fun e => absurd e (by decide)), cr_rg_up hR_rf_75.2.2.2.2.1 (fun e => absurd e (by decide)), cr_rh_up hR_rf_75.2.2.2.2.2 (fun e => absurd e (by decide))⟩
                            obtain ⟨rfq_93, hrfq_93⟩ : ∃ z, (cr_up rf_75 13 v5_75.toNatClampNeg (1 : Int32)) = z := ⟨_, rfl⟩
                            rw [hrfq_93] at hP hD hR_92
                            try rw [hrfq_93] at hM
                            refine lv_iinc (v := (v3_75 + (1 : Int32))) (lv' := [(3, .int (v3_75 + (1 : Int32))), (0, .ref (arf 0)), (1, .long x1), (4, .int v4_64), (5, .int v5_75)]) hx hb nd_Ref_plain_114 hl (k := 2) rfl (by rfl) (by decide) rfl (fun ls hl => ?_)
                            refine lv_aload_n hx hb nd_Ref_plain_117 rfl (lv_at hl 1 rfl) ?_
                            refine va_get (D := (dC, dI)) (ci := 5) (v := .ref (arf 14)) (C := "CeilingRowsModel") (T := nf_Ref) (N := 22) hx hb hts nin_Ref hown hK hP 0 rfl rfl 18 (by decide) (hts _ tw_431) (fun _ h9 => h9) rfl nd_Ref_plain_118 ?_
                            refine lv_iload hx hb nd_Ref_plain_121 (lv_at hl 4 rfl) ?_
                            refine lv_iload_n hx hb nd_Ref_plain_123 rfl (lv_at hl 0 rfl) ?_
                            have b_94 : vp_in v5_75 11 := vp_in_iff.mpr (by omega)
                            refine va_iast hx hb hK hP hD hS 14 0 rfl rfl b_94 nd_Ref_plain_124 (fun H locs hP hD hS => ?_)
                            have hP : va_P (dC, dI) vwCl (cw_Ref cI cZ cJ arf (cr_up rfq_93 14 v5_75.toNatClampNeg (v3_75 + (1 : Int32))) lat ln) H := hP
                            have hD : va_D A (cw_Ref cI cZ cJ arf (cr_up rfq_93 14 v5_75.toNatClampNeg (v3_75 + (1 : Int32))) lat ln) := hD
                            have hR_95 : cr_RRef (cr_up rfq_93 14 v5_75.toNatClampNeg (v3_75 + (1 : Int32))) := ⟨cr_rf_up hR_92.1 (fun e _ => absurd e (by decide)), cr_rf_up hR_92.2.1 (fun e _ => absurd e (by decide)), cr_rg_up hR_92.2.2.1 (fun e => absurd e (by decide)), cr_rg_up hR_92.2.2.2.1 (fun e => absurd e (by decide)), cr_rg_up hR_92.2.2.2.2.1 (fun e => absurd e (by decide)), cr_rh_up hR_92.2.2.2.2.2 (fun e => absurd e (by decide))⟩
                            obtain ⟨rfq_96, hrfq_96⟩ : ∃ z, (cr_up rfq_93 14 v5_75.toNatClampNeg (v3_75 + (1 : Int32))) = z := ⟨_, rfl⟩
                            rw [hrfq_96] at hP hD hR_95
                            try rw [hrfq_96] at hM
                            have e_97 : (v5_75 + (1 : Int32)).toInt = v5_75.toInt + (1 : Int32).toInt := cr_add (by omega)
                            refine lv_iinc (v := (v5_75 + (1 : Int32))) (lv' := [(5, .int (v5_75 + (1 : Int32))), (3, .int (v3_75 + (1 : Int32))), (0, .ref (arf 0)), (1, .long x1), (4, .int v4_64)]) hx hb nd_Ref_plain_125 hl (k := 4) rfl (by rfl) (by decide) rfl (fun ls hl => ?_)
                            refine lv_goto (tgt := 75) hx hb nd_Ref_plain_128 (by decide) ?_
                            exact ih_75 rfq_96 (v3_75 + (1 : Int32)) (v5_75 + (1 : Int32)) hR_95 (by omega) (by omega) hM _ _ hP hD hS _ (lv_sub hl [2, 3, 1, 4, 0] rfl)
                          · have c_90t := cr_ne c_90
                            rw [if_neg c_90] at hM
                            refine lv_goto (tgt := 125) hx hb nd_Ref_plain_103 (by decide) ?_
                            have e_98 : (v5_75 + (1 : Int32)).toInt = v5_75.toInt + (1 : Int32).toInt := cr_add (by omega)
                            refine lv_iinc (v := (v5_75 + (1 : Int32))) (lv' := [(5, .int (v5_75 + (1 : Int32))), (0, .ref (arf 0)), (1, .long x1), (3, .int v3_75), (4, .int v4_64)]) hx hb nd_Ref_plain_125 hl (k := 4) rfl (by rfl) (by decide) rfl (fun ls hl => ?_)
                            refine lv_goto (tgt := 75) hx hb nd_Ref_plain_128 (by decide) ?_
                            exact ih_75 rf_75 v3_75 (v5_75 + (1 : Int32)) hR_rf_75 (by omega) (by omega) hM _ _ hP hD hS _ (lv_sub hl [1, 2, 3, 4, 0] rfl)
                    exact lp_75 11 rf_64 v3_64 (1 : Int32) hR_rf_64 (by omega) (by omega) hti_75 _ _ hP hD hS _ hl
              exact lp_64 401 rf_24 (0 : Int32) (0 : Int32) hR_rf_24 (by omega) (by omega) hM _ _ hP hD hS _ hl
            · have c_3t := cr_nlt c_3
              rw [if_neg c_3] at hM
              refine lv_aload_n hx hb nd_Ref_plain_32 rfl (lv_at hl 0 rfl) ?_
              refine va_get (D := (dC, dI)) (ci := 5) (v := .ref (arf 13)) (C := "CeilingRowsModel") (T := nf_Ref) (N := 22) hx hb hts nin_Ref hown hK hP 0 rfl rfl 17 (by decide) (hts _ tw_430) (fun _ h9 => h9) rfl nd_Ref_plain_33 ?_
              refine lv_iload_n hx hb nd_Ref_plain_36 rfl (lv_at hl 2 rfl) ?_
              refine lv_iconst (v := 0) hx hb nd_Ref_plain_37 (by decide) ?_
              have b_99 : vp_in v3_24 11 := vp_in_iff.mpr (by omega)
              refine va_iast hx hb hK hP hD hS 13 0 rfl rfl b_99 nd_Ref_plain_38 (fun H locs hP hD hS => ?_)
              have hP : va_P (dC, dI) vwCl (cw_Ref cI cZ cJ arf (cr_up rf_24 13 v3_24.toNatClampNeg (0 : Int32)) lat ln) H := hP
              have hD : va_D A (cw_Ref cI cZ cJ arf (cr_up rf_24 13 v3_24.toNatClampNeg (0 : Int32)) lat ln) := hD
              have hR_100 : cr_RRef (cr_up rf_24 13 v3_24.toNatClampNeg (0 : Int32)) := ⟨cr_rf_up hR_rf_24.1 (fun e _ => absurd e (by decide)), cr_rf_up hR_rf_24.2.1 (fun e _ => absurd e (by decide)), cr_rg_up hR_rf_24.2.2.1 (fun e => absurd e (by decide)), cr_rg_up hR_rf_24.2.2.2.1 (fun e => absurd e (by decide)), cr_rg_up hR_rf_24.2.2.2.2.1 (fun e => absurd e (by decide)), cr_rh_up hR_rf_24.2.2.2.2.2 (fun e => absurd e (by decide))⟩
              obtain ⟨rfq_101, hrfq_101⟩ : ∃ z, (cr_up rf_24 13 v3_24.toNatClampNeg (0 : Int32)) = z := ⟨_, rfl⟩
              rw [hrfq_101] at hP hD hR_100
              try rw [hrfq_101] at hM
              refine lv_aload_n hx hb nd_Ref_plain_39 rfl (lv_at hl 0 rfl) ?_
              refine va_get (D := (dC, dI)) (ci := 5) (v := .ref (arf 15)) (C := "CeilingRowsModel") (T := nf_Ref) (N := 22) hx hb hts nin_Ref hown hK hP 0 rfl rfl 19 (by decide) (hts _ tw_432) (fun _ h9 => h9) rfl nd_Ref_plain_40 ?_
              refine lv_iload_n hx hb nd_Ref_plain_43 rfl (lv_at hl 2 rfl) ?_
              refine lv_iconst (v := 0) hx hb nd_Ref_plain_44 (by decide) ?_
              have b_102 : vp_in v3_24 11 := vp_in_iff.mpr (by omega)
              refine va_iast hx hb hK hP hD hS 15 0 rfl rfl b_102 nd_Ref_plain_45 (fun H locs hP hD hS => ?_)
              have hP : va_P (dC, dI) vwCl (cw_Ref cI cZ cJ arf (cr_up rfq_101 15 v3_24.toNatClampNeg (0 : Int32)) lat ln) H := hP
              have hD : va_D A (cw_Ref cI cZ cJ arf (cr_up rfq_101 15 v3_24.toNatClampNeg (0 : Int32)) lat ln) := hD
              have hR_103 : cr_RRef (cr_up rfq_101 15 v3_24.toNatClampNeg (0 : Int32)) := ⟨cr_rf_up hR_100.1 (fun e _ => absurd e (by decide)), cr_rf_up hR_100.2.1 (fun e _ => absurd e (by decide)), cr_rg_up hR_100.2.2.1 (fun e => absurd e (by decide)), cr_rg_up hR_100.2.2.2.1 (fun e => absurd e (by decide)), cr_rg_up hR_100.2.2.2.2.1 (fun e => absurd e (by decide)), cr_rh_up hR_100.2.2.2.2.2 (fun e => absurd e (by decide))⟩
              obtain ⟨rfq_104, hrfq_104⟩ : ∃ z, (cr_up rfq_101 15 v3_24.toNatClampNeg (0 : Int32)) = z := ⟨_, rfl⟩
              rw [hrfq_104] at hP hD hR_103
              try rw [hrfq_104] at hM
              refine lv_aload_n hx hb nd_Ref_plain_46 rfl (lv_at hl 0 rfl) ?_
              refine va_get (D := (dC, dI)) (ci := 5) (v := .ref (arf 16)) (C := "CeilingRowsModel") (T := nf_Ref) (N := 22) hx hb hts nin_Ref hown hK hP 0 rfl rfl 20 (by decide) (hts _ tw_433) (fun _ h9 => h9) rfl nd_Ref_plain_47 ?_
              refine lv_iload_n hx hb nd_Ref_plain_50 rfl (lv_at hl 2 rfl) ?_
              refine lv_iconst (v := 0) hx hb nd_Ref_plain_51 (by decide) ?_
              have b_105 : vp_in v3_24 11 := vp_in_iff.mpr (by omega)
              refine va_iast hx hb hK hP hD hS 16 0 rfl rfl b_105 nd_Ref_plain_52 (fun H locs hP hD hS => ?_)
              have hP : va_P (dC, dI) vwCl (cw_Ref cI cZ cJ arf (cr_up rfq_104 16 v3_24.toNatClampNeg (0 : Int32)) lat ln) H := hP
              have hD : va_D A (cw_Ref cI cZ cJ arf (cr_up rfq_104 16 v3_24.toNatClampNeg (0 : Int32)) lat ln) := hD
              have hR_106 : cr_RRef (cr_up rfq_104 16 v3_24.toNatClampNeg (0 : Int32)) := ⟨cr_rf_up hR_103.1 (fun e _ => absurd e (by decide)), cr_rf_up hR_103.2.1 (fun e _ => absurd e (by decide)), cr_rg_up hR_103.2.2.1 (fun e => absurd e (by decide)), cr_rg_up hR_103.2.2.2.1 (fun e => absurd e (by decide)), cr_rg_up hR_103.2.2.2.2.1 (fun e => absurd e (by decide)), cr_rh_up hR_103.2.2.2.2.2 (fun _ => by omega)⟩
              obtain ⟨rfq_107, hrfq_107⟩ : ∃ z, (cr_up rfq_104 16 v3_24.toNatClampNeg (0 : Int32)) = z := ⟨_, rfl⟩
              rw [hrfq_107] at hP hD hR_106
              try rw [hrfq_107] at hM
              have e_108 : (v3_24 + (1 : Int32)).toInt = v3_24.toInt + (1 : Int32).toInt := cr_add (by omega)
              refine lv_iinc (v := (v3_24 + (1 : Int32))) (lv' := [(3, .int (v3_24 + (1 : Int32))), (0, .ref (arf 0)), (1, .long x1)]) hx hb nd_Ref_plain_53 hl (k := 2) rfl (by rfl) (by decide) rfl (fun ls hl => ?_)
              refine lv_goto (tgt := 24) hx hb nd_Ref_plain_56 (by decide) ?_
              exact ih_24 rfq_107 (v3_24 + (1 : Int32)) hR_106 (by omega) (by omega) hM _ _ hP hD hS _ (lv_sub hl [1, 2, 0] rfl)
        exact lp_24 11 rf_2 (1 : Int32) hR_rf_2 (by omega) (by omega) hM _ _ hP hD hS _ hl
      · have c_1t := cr_nle c_1
        rw [if_neg c_1] at hM
        refine lv_aload_n hx hb nd_Ref_plain_9 rfl (lv_at hl 0 rfl) ?_
        refine va_get (D := (dC, dI)) (ci := 5) (v := .ref (arf 17)) (C := "CeilingRowsModel") (T := nf_Ref) (N := 22) hx hb hts nin_Ref hown hK hP 0 rfl rfl 21 (by decide) (hts _ tw_434) (fun _ h9 => h9) rfl nd_Ref_plain_10 ?_
        refine lv_iload_n hx hb nd_Ref_plain_13 rfl (lv_at hl 2 rfl) ?_
        refine lv_iconst (v := 0) hx hb nd_Ref_plain_14 (by decide) ?_
        have b_109 : vp_in v3_2 1089 := vp_in_iff.mpr (by omega)
        refine va_zast hx hb hK hP hD hS 17 1 rfl rfl b_109 nd_Ref_plain_15 (fun H locs hP hD hS => ?_)
        rw [show vp_nar .boolean (0 : Int32) = (0 : Int32) by decide] at hP hD
        have hP : va_P (dC, dI) vwCl (cw_Ref cI cZ cJ arf (cr_up rf_2 17 v3_2.toNatClampNeg (0 : Int32)) lat ln) H := hP
        have hD : va_D A (cw_Ref cI cZ cJ arf (cr_up rf_2 17 v3_2.toNatClampNeg (0 : Int32)) lat ln) := hD
        have hR_110 : cr_RRef (cr_up rf_2 17 v3_2.toNatClampNeg (0 : Int32)) := ⟨cr_rf_up hR_rf_2.1 (fun e _ => absurd e (by decide)), cr_rf_up hR_rf_2.2.1 (fun e _ => absurd e (by decide)), cr_rg_up hR_rf_2.2.2.1 (fun e => absurd e (by decide)), cr_rg_up hR_rf_2.2.2.2.1 (fun e => absurd e (by decide)), cr_rg_up hR_rf_2.2.2.2.2.1 (fun e => absurd e (by decide)), cr_rh_up hR_rf_2.2.2.2.2.2 (fun e => absurd e (by decide))⟩
        obtain ⟨rfq_111, hrfq_111⟩ : ∃ z, (cr_up rf_2 17 v3_2.toNatClampNeg (0 : Int32)) = z := ⟨_, rfl⟩
        rw [hrfq_111] at hP hD hR_110
        try rw [hrfq_111] at hM
        have e_112 : (v3_2 + (1 : Int32)).toInt = v3_2.toInt + (1 : Int32).toInt := cr_add (by omega)
        refine lv_iinc (v := (v3_2 + (1 : Int32))) (lv' := [(3, .int (v3_2 + (1 : Int32))), (0, .ref (arf 0)), (1, .long x1)]) hx hb nd_Ref_plain_16 hl (k := 2) rfl (by rfl) (by decide) rfl (fun ls hl => ?_)
        refine lv_goto (tgt := 2) hx hb nd_Ref_plain_19 (by decide) ?_
        exact ih_2 rfq_111 (v3_2 + (1 : Int32)) hR_110 (by omega) (by omega) hM _ _ hP hD hS _ (lv_sub hl [1, 2, 0] rfl)
  exact lp_2 1090 rf (0 : Int32) hR_rf (by omega) (by omega) hM _ _ hP hD hS _ hl
