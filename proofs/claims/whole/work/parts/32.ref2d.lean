theorem nd_Ref_lock_0 : decode prog_7_method_23_code 0 = .ok (.iload_n 1, 1) := by decide +kernel
theorem nd_Ref_lock_1 : decode prog_7_method_23_code 1 = .ok (.iconst 1, 1) := by decide +kernel
theorem nd_Ref_lock_2 : decode prog_7_method_23_code 2 = .ok (.if_icmp .lt (8), 3) := by decide +kernel
theorem nd_Ref_lock_5 : decode prog_7_method_23_code 5 = .ok (.iload_n 1, 1) := by decide +kernel
theorem nd_Ref_lock_6 : decode prog_7_method_23_code 6 = .ok (.iconst 3, 1) := by decide +kernel
theorem nd_Ref_lock_7 : decode prog_7_method_23_code 7 = .ok (.if_icmp .le (5), 3) := by decide +kernel
theorem nd_Ref_lock_10 : decode prog_7_method_23_code 10 = .ok (.iconst (-1), 1) := by decide +kernel
theorem nd_Ref_lock_11 : decode prog_7_method_23_code 11 = .ok (.ireturn, 1) := by decide +kernel
theorem nd_Ref_lock_12 : decode prog_7_method_23_code 12 = .ok (.iload_n 2, 1) := by decide +kernel
theorem nd_Ref_lock_13 : decode prog_7_method_23_code 13 = .ok (.bipush (-8), 2) := by decide +kernel
theorem nd_Ref_lock_15 : decode prog_7_method_23_code 15 = .ok (.if_icmp .lt (13), 3) := by decide +kernel
theorem nd_Ref_lock_18 : decode prog_7_method_23_code 18 = .ok (.iload_n 2, 1) := by decide +kernel
theorem nd_Ref_lock_19 : decode prog_7_method_23_code 19 = .ok (.bipush 8, 2) := by decide +kernel
theorem nd_Ref_lock_21 : decode prog_7_method_23_code 21 = .ok (.if_icmp .gt (7), 3) := by decide +kernel
theorem nd_Ref_lock_24 : decode prog_7_method_23_code 24 = .ok (.iload_n 2, 1) := by decide +kernel
theorem nd_Ref_lock_25 : decode prog_7_method_23_code 25 = .ok (.ifCond .ne (6), 3) := by decide +kernel
theorem nd_Ref_lock_28 : decode prog_7_method_23_code 28 = .ok (.bipush (-2), 2) := by decide +kernel
theorem nd_Ref_lock_30 : decode prog_7_method_23_code 30 = .ok (.ireturn, 1) := by decide +kernel
theorem nd_Ref_lock_31 : decode prog_7_method_23_code 31 = .ok (.aload_n 0, 1) := by decide +kernel
theorem nd_Ref_lock_32 : decode prog_7_method_23_code 32 = .ok (.getfield 42, 3) := by decide +kernel
theorem nd_Ref_lock_35 : decode prog_7_method_23_code 35 = .ok (.iload_n 1, 1) := by decide +kernel
theorem nd_Ref_lock_36 : decode prog_7_method_23_code 36 = .ok (.iaload, 1) := by decide +kernel
theorem nd_Ref_lock_37 : decode prog_7_method_23_code 37 = .ok (.ifCond .le (6), 3) := by decide +kernel
theorem nd_Ref_lock_40 : decode prog_7_method_23_code 40 = .ok (.bipush (-3), 2) := by decide +kernel
theorem nd_Ref_lock_42 : decode prog_7_method_23_code 42 = .ok (.ireturn, 1) := by decide +kernel
theorem nd_Ref_lock_43 : decode prog_7_method_23_code 43 = .ok (.iload_n 2, 1) := by decide +kernel
theorem nd_Ref_lock_44 : decode prog_7_method_23_code 44 = .ok (.ifCond .le (76), 3) := by decide +kernel
theorem nd_Ref_lock_47 : decode prog_7_method_23_code 47 = .ok (.iload_n 2, 1) := by decide +kernel
theorem nd_Ref_lock_48 : decode prog_7_method_23_code 48 = .ok (.istore_n 3, 1) := by decide +kernel
theorem nd_Ref_lock_49 : decode prog_7_method_23_code 49 = .ok (.iload_n 3, 1) := by decide +kernel
theorem nd_Ref_lock_50 : decode prog_7_method_23_code 50 = .ok (.bipush 9, 2) := by decide +kernel
theorem nd_Ref_lock_52 : decode prog_7_method_23_code 52 = .ok (.if_icmp .ge (22), 3) := by decide +kernel
theorem nd_Ref_lock_55 : decode prog_7_method_23_code 55 = .ok (.aload_n 0, 1) := by decide +kernel
theorem nd_Ref_lock_56 : decode prog_7_method_23_code 56 = .ok (.getfield 36, 3) := by decide +kernel
theorem nd_Ref_lock_59 : decode prog_7_method_23_code 59 = .ok (.iload_n 3, 1) := by decide +kernel
theorem nd_Ref_lock_60 : decode prog_7_method_23_code 60 = .ok (.iaload, 1) := by decide +kernel
theorem nd_Ref_lock_61 : decode prog_7_method_23_code 61 = .ok (.iload_n 1, 1) := by decide +kernel
theorem nd_Ref_lock_62 : decode prog_7_method_23_code 62 = .ok (.if_icmp .ne (6), 3) := by decide +kernel
theorem nd_Ref_lock_65 : decode prog_7_method_23_code 65 = .ok (.bipush (-16), 2) := by decide +kernel
theorem nd_Ref_lock_67 : decode prog_7_method_23_code 67 = .ok (.ireturn, 1) := by decide +kernel
theorem nd_Ref_lock_68 : decode prog_7_method_23_code 68 = .ok (.iinc 3 1, 3) := by decide +kernel
theorem nd_Ref_lock_71 : decode prog_7_method_23_code 71 = .ok (.goto (-22), 3) := by decide +kernel
theorem nd_Ref_lock_74 : decode prog_7_method_23_code 74 = .ok (.aload_n 0, 1) := by decide +kernel
theorem nd_Ref_lock_75 : decode prog_7_method_23_code 75 = .ok (.getfield 36, 3) := by decide +kernel
theorem nd_Ref_lock_78 : decode prog_7_method_23_code 78 = .ok (.iload_n 2, 1) := by decide +kernel
theorem nd_Ref_lock_79 : decode prog_7_method_23_code 79 = .ok (.iaload, 1) := by decide +kernel
theorem nd_Ref_lock_80 : decode prog_7_method_23_code 80 = .ok (.ifCond .le (32), 3) := by decide +kernel
theorem nd_Ref_lock_83 : decode prog_7_method_23_code 83 = .ok (.aload_n 0, 1) := by decide +kernel
theorem nd_Ref_lock_84 : decode prog_7_method_23_code 84 = .ok (.dup, 1) := by decide +kernel
theorem nd_Ref_lock_85 : decode prog_7_method_23_code 85 = .ok (.getfield 118, 3) := by decide +kernel
theorem nd_Ref_lock_88 : decode prog_7_method_23_code 88 = .ok (.iconst 1, 1) := by decide +kernel
theorem nd_Ref_lock_89 : decode prog_7_method_23_code 89 = .ok (.iadd, 1) := by decide +kernel
theorem nd_Ref_lock_90 : decode prog_7_method_23_code 90 = .ok (.putfield 118, 3) := by decide +kernel
theorem nd_Ref_lock_93 : decode prog_7_method_23_code 93 = .ok (.aload_n 0, 1) := by decide +kernel
theorem nd_Ref_lock_94 : decode prog_7_method_23_code 94 = .ok (.getfield 42, 3) := by decide +kernel
theorem nd_Ref_lock_97 : decode prog_7_method_23_code 97 = .ok (.iload_n 1, 1) := by decide +kernel
theorem nd_Ref_lock_98 : decode prog_7_method_23_code 98 = .ok (.iload_n 2, 1) := by decide +kernel
theorem nd_Ref_lock_99 : decode prog_7_method_23_code 99 = .ok (.iastore, 1) := by decide +kernel
theorem nd_Ref_lock_100 : decode prog_7_method_23_code 100 = .ok (.aload_n 0, 1) := by decide +kernel
theorem nd_Ref_lock_101 : decode prog_7_method_23_code 101 = .ok (.getfield 45, 3) := by decide +kernel
theorem nd_Ref_lock_104 : decode prog_7_method_23_code 104 = .ok (.iload_n 1, 1) := by decide +kernel
theorem nd_Ref_lock_105 : decode prog_7_method_23_code 105 = .ok (.aload_n 0, 1) := by decide +kernel
theorem nd_Ref_lock_106 : decode prog_7_method_23_code 106 = .ok (.getfield 118, 3) := by decide +kernel
theorem nd_Ref_lock_109 : decode prog_7_method_23_code 109 = .ok (.iastore, 1) := by decide +kernel
theorem nd_Ref_lock_110 : decode prog_7_method_23_code 110 = .ok (.iconst 0, 1) := by decide +kernel
theorem nd_Ref_lock_111 : decode prog_7_method_23_code 111 = .ok (.ireturn, 1) := by decide +kernel
theorem nd_Ref_lock_112 : decode prog_7_method_23_code 112 = .ok (.aload_n 0, 1) := by decide +kernel
theorem nd_Ref_lock_113 : decode prog_7_method_23_code 113 = .ok (.iload_n 1, 1) := by decide +kernel
theorem nd_Ref_lock_114 : decode prog_7_method_23_code 114 = .ok (.iload_n 2, 1) := by decide +kernel
theorem nd_Ref_lock_115 : decode prog_7_method_23_code 115 = .ok (.invokevirtual 121, 3) := by decide +kernel
theorem nd_Ref_lock_118 : decode prog_7_method_23_code 118 = .ok (.iconst 1, 1) := by decide +kernel
theorem nd_Ref_lock_119 : decode prog_7_method_23_code 119 = .ok (.ireturn, 1) := by decide +kernel
theorem nd_Ref_lock_120 : decode prog_7_method_23_code 120 = .ok (.aload_n 0, 1) := by decide +kernel
theorem nd_Ref_lock_121 : decode prog_7_method_23_code 121 = .ok (.iload_n 1, 1) := by decide +kernel
theorem nd_Ref_lock_122 : decode prog_7_method_23_code 122 = .ok (.invokevirtual 125, 3) := by decide +kernel
theorem nd_Ref_lock_125 : decode prog_7_method_23_code 125 = .ok (.iload_n 2, 1) := by decide +kernel
theorem nd_Ref_lock_126 : decode prog_7_method_23_code 126 = .ok (.ineg, 1) := by decide +kernel
theorem nd_Ref_lock_127 : decode prog_7_method_23_code 127 = .ok (.if_icmp .eq (6), 3) := by decide +kernel
theorem nd_Ref_lock_130 : decode prog_7_method_23_code 130 = .ok (.bipush (-17), 2) := by decide +kernel
theorem nd_Ref_lock_132 : decode prog_7_method_23_code 132 = .ok (.ireturn, 1) := by decide +kernel
theorem nd_Ref_lock_133 : decode prog_7_method_23_code 133 = .ok (.aload_n 0, 1) := by decide +kernel
theorem nd_Ref_lock_134 : decode prog_7_method_23_code 134 = .ok (.getfield 36, 3) := by decide +kernel
theorem nd_Ref_lock_137 : decode prog_7_method_23_code 137 = .ok (.iload_n 2, 1) := by decide +kernel
theorem nd_Ref_lock_138 : decode prog_7_method_23_code 138 = .ok (.ineg, 1) := by decide +kernel
theorem nd_Ref_lock_139 : decode prog_7_method_23_code 139 = .ok (.iconst 0, 1) := by decide +kernel
theorem nd_Ref_lock_140 : decode prog_7_method_23_code 140 = .ok (.iastore, 1) := by decide +kernel
theorem nd_Ref_lock_141 : decode prog_7_method_23_code 141 = .ok (.iconst 0, 1) := by decide +kernel
theorem nd_Ref_lock_142 : decode prog_7_method_23_code 142 = .ok (.istore_n 3, 1) := by decide +kernel
theorem nd_Ref_lock_143 : decode prog_7_method_23_code 143 = .ok (.iconst 1, 1) := by decide +kernel
theorem nd_Ref_lock_144 : decode prog_7_method_23_code 144 = .ok (.istore 4, 2) := by decide +kernel
theorem nd_Ref_lock_146 : decode prog_7_method_23_code 146 = .ok (.iload 4, 2) := by decide +kernel
theorem nd_Ref_lock_148 : decode prog_7_method_23_code 148 = .ok (.iconst 4, 1) := by decide +kernel
theorem nd_Ref_lock_149 : decode prog_7_method_23_code 149 = .ok (.if_icmp .ge (44), 3) := by decide +kernel
theorem nd_Ref_lock_152 : decode prog_7_method_23_code 152 = .ok (.aload_n 0, 1) := by decide +kernel
theorem nd_Ref_lock_153 : decode prog_7_method_23_code 153 = .ok (.getfield 42, 3) := by decide +kernel
theorem nd_Ref_lock_156 : decode prog_7_method_23_code 156 = .ok (.iload 4, 2) := by decide +kernel
theorem nd_Ref_lock_158 : decode prog_7_method_23_code 158 = .ok (.iaload, 1) := by decide +kernel
theorem nd_Ref_lock_159 : decode prog_7_method_23_code 159 = .ok (.iload_n 2, 1) := by decide +kernel
theorem nd_Ref_lock_160 : decode prog_7_method_23_code 160 = .ok (.ineg, 1) := by decide +kernel
theorem nd_Ref_lock_161 : decode prog_7_method_23_code 161 = .ok (.if_icmp .ne (26), 3) := by decide +kernel
theorem nd_Ref_lock_164 : decode prog_7_method_23_code 164 = .ok (.iload_n 3, 1) := by decide +kernel
theorem nd_Ref_lock_165 : decode prog_7_method_23_code 165 = .ok (.ifCond .eq (19), 3) := by decide +kernel
theorem nd_Ref_lock_168 : decode prog_7_method_23_code 168 = .ok (.aload_n 0, 1) := by decide +kernel
theorem nd_Ref_lock_169 : decode prog_7_method_23_code 169 = .ok (.getfield 45, 3) := by decide +kernel
theorem nd_Ref_lock_172 : decode prog_7_method_23_code 172 = .ok (.iload 4, 2) := by decide +kernel
theorem nd_Ref_lock_174 : decode prog_7_method_23_code 174 = .ok (.iaload, 1) := by decide +kernel
theorem nd_Ref_lock_175 : decode prog_7_method_23_code 175 = .ok (.aload_n 0, 1) := by decide +kernel
theorem nd_Ref_lock_176 : decode prog_7_method_23_code 176 = .ok (.getfield 45, 3) := by decide +kernel
theorem nd_Ref_lock_179 : decode prog_7_method_23_code 179 = .ok (.iload_n 3, 1) := by decide +kernel
theorem nd_Ref_lock_180 : decode prog_7_method_23_code 180 = .ok (.iaload, 1) := by decide +kernel
theorem nd_Ref_lock_181 : decode prog_7_method_23_code 181 = .ok (.if_icmp .ge (6), 3) := by decide +kernel
theorem nd_Ref_lock_184 : decode prog_7_method_23_code 184 = .ok (.iload 4, 2) := by decide +kernel
theorem nd_Ref_lock_186 : decode prog_7_method_23_code 186 = .ok (.istore_n 3, 1) := by decide +kernel
theorem nd_Ref_lock_187 : decode prog_7_method_23_code 187 = .ok (.iinc 4 1, 3) := by decide +kernel
theorem nd_Ref_lock_190 : decode prog_7_method_23_code 190 = .ok (.goto (-44), 3) := by decide +kernel
theorem nd_Ref_lock_193 : decode prog_7_method_23_code 193 = .ok (.iload_n 3, 1) := by decide +kernel
theorem nd_Ref_lock_194 : decode prog_7_method_23_code 194 = .ok (.ifCond .le (17), 3) := by decide +kernel
theorem nd_Ref_lock_197 : decode prog_7_method_23_code 197 = .ok (.aload_n 0, 1) := by decide +kernel
theorem nd_Ref_lock_198 : decode prog_7_method_23_code 198 = .ok (.getfield 42, 3) := by decide +kernel
theorem nd_Ref_lock_201 : decode prog_7_method_23_code 201 = .ok (.iload_n 3, 1) := by decide +kernel
theorem nd_Ref_lock_202 : decode prog_7_method_23_code 202 = .ok (.iconst 0, 1) := by decide +kernel
theorem nd_Ref_lock_203 : decode prog_7_method_23_code 203 = .ok (.iastore, 1) := by decide +kernel
theorem nd_Ref_lock_204 : decode prog_7_method_23_code 204 = .ok (.aload_n 0, 1) := by decide +kernel
theorem nd_Ref_lock_205 : decode prog_7_method_23_code 205 = .ok (.iload_n 3, 1) := by decide +kernel
theorem nd_Ref_lock_206 : decode prog_7_method_23_code 206 = .ok (.iload_n 2, 1) := by decide +kernel
theorem nd_Ref_lock_207 : decode prog_7_method_23_code 207 = .ok (.ineg, 1) := by decide +kernel
theorem nd_Ref_lock_208 : decode prog_7_method_23_code 208 = .ok (.invokevirtual 121, 3) := by decide +kernel
theorem nd_Ref_lock_211 : decode prog_7_method_23_code 211 = .ok (.iconst 1, 1) := by decide +kernel
theorem nd_Ref_lock_212 : decode prog_7_method_23_code 212 = .ok (.ireturn, 1) := by decide +kernel
abbrev pq_Ref_lock (dC : Nat → ClassId) (dI : Nat → Nat → Nat) (cI cZ cJ : ClassId) (arf : Nat → Nat) (rf : cr_S) (lat : Int64) (ln : (Nat → Int64)) (x1 : Int32) (x2 : Int32) (A : Nat → Prop) : Array Value → State → Outcome → State → Prop :=
  va_Qi (fun (r : Int32) (rf' : cr_S) => r = (md_Ref_lock rf lat ln x1 x2).1 ∧ rf' = (md_Ref_lock rf lat ln x1 x2).2 ∧ cr_RRef rf') (fun (rf' : cr_S) t => va_P (dC, dI) vwCl (cw_Ref cI cZ cJ arf rf' lat ln) t.heap ∧ va_K (dC, dI) vwCl [(cI, .int), (cZ, .boolean), (cJ, .long)] t ∧ va_D A (cw_Ref cI cZ cJ arf rf' lat ln)) A
set_option maxHeartbeats 4000000 in
set_option maxRecDepth 100000 in
theorem ct_Ref_lock (l : Launch) (dC : Nat → ClassId) (dI : Nat → Nat → Nat) (cI cZ cJ : ClassId) (arf : Nat → Nat) (sz : Nat) (rf : cr_S) (lat : Int64) (ln : (Nat → Int64)) (x1 : Int32) (x2 : Int32) (hR_rf : cr_RRef rf) : Met l ny_Ref_lock nw_Ref_lock ({ frames := 1, cells := 0, slots := 0, locals := 23 } : Room) (va_Pc [.ref (arf 0), .int x1, .int x2] (fun U => U.heap.size = sz ∧ va_P (dC, dI) vwCl (cw_Ref cI cZ cJ arf rf lat ln) U.heap ∧ va_K (dC, dI) vwCl [(cI, .int), (cZ, .boolean), (cJ, .long)] U ∧ va_D (fun _ => True) (cw_Ref cI cZ cJ arf rf lat ln))) (pq_Ref_lock dC dI cI cZ cJ arf rf lat ln x1 x2 (va_A (cw_Ref cI cZ cJ arf rf lat ln) sz)) 0 0 (va_A (cw_Ref cI cZ cJ arf rf lat ln) sz) := by
  refine Met.ofW (cc := prog_7_method_23_code) (maxL := 5) (ret := (some .int)) (by decide) rfl ?_
  intro p e s m args below meth c s₁ B hml hv
  obtain ⟨rfl, hsz, hP, hK, hD0⟩ := hv
  have hx := B.exec
  have hb := B.bytes
  have hr := B.returns
  have hts0 := atoms_spec (ws := nw_Ref_lock) B.pre
  have hts : ∀ w ∈ ng_tbl, w.before ([.ref (arf 0), .int x1, .int x2] : List Value).toArray s = true := fun w h => hts0 w (List.mem_cons_of_mem _ h)
  have hown : s.vm.findClass "CeilingRowsModel" = some m.cls := findClass_of_methodNamed B.named
  have hlocks := B.notSynchronized
  subst hsz
  have hD := hD0.self (sz := s.heap.size)
  generalize hAe : va_A (cw_Ref cI cZ cJ arf rf lat ln) s.heap.size = A at hD ⊢
  have hA : ∀ q : Nat, s.heap.size ≤ q → A q := fun q h => by rw [← hAe]; exact Or.inr h
  have hS : va_S A s.heap s.heap [] := va_S.rf
  have hP : va_P (dC, dI) vwCl (cw_Ref cI cZ cJ arf rf lat ln) s.heap := hP
  have hl := lv_entry ([.ref (arf 0), .int x1, .int x2]) (n := 5) (Nat.le_of_ble_eq_true rfl)
  rw [lg_entry_eq]
  generalize (lg_sl ([.ref (arf 0), .int x1, .int x2]) ++ List.replicate (5 - (lg_sl ([.ref (arf 0), .int x1, .int x2])).length) Slot.unset).toArray = ls at hl ⊢
  have hl : lv_has ls 5 [(0, .ref (arf 0)), (1, .int x1), (2, .int x2)] := hl
  have f0_rf_0 := cr_rfo hR_rf.1
  have f0_rf_1 := cr_rfo hR_rf.2.1
  have k_m17 : (-17 : Int32).toInt = -17 := by decide
  have k_m16 : (-16 : Int32).toInt = -16 := by decide
  have k_m8 : (-8 : Int32).toInt = -8 := by decide
  have k_m3 : (-3 : Int32).toInt = -3 := by decide
  have k_m2 : (-2 : Int32).toInt = -2 := by decide
  have k_m1 : (-1 : Int32).toInt = -1 := by decide
  have k_0 : (0 : Int32).toInt = 0 := by decide
  have k_1 : (1 : Int32).toInt = 1 := by decide
  have k_3 : (3 : Int32).toInt = 3 := by decide
  have k_4 : (4 : Int32).toInt = 4 := by decide
  have k_8 : (8 : Int32).toInt = 8 := by decide
  have k_9 : (9 : Int32).toInt = 9 := by decide
  obtain ⟨tgt, hT⟩ : ∃ z, md_Ref_lock rf lat ln x1 x2 = z := ⟨_, rfl⟩
  have hM := hT
  unfold md_Ref_lock at hM
  refine lv_iload_n hx hb nd_Ref_lock_0 rfl (lv_at hl 1 rfl) ?_
  refine lv_iconst (v := 1) hx hb nd_Ref_lock_1 (by decide) ?_
  refine lv_icmp_lt (tgt := 10) hx hb nd_Ref_lock_2 (by decide) (fun c_1 => ?_) (fun c_1 => ?_)
  · have c_1t := cr_lt c_1
    rw [if_pos c_1] at hM
    refine lv_iconst (v := -1) hx hb nd_Ref_lock_10 (by decide) ?_
    exact W.iret (v := (-1 : Int32)) hx hb hr (fun t ht hW => ⟨⟨(-1 : Int32), rf, rfl, ⟨by rw [hT, ← hM], by rw [hT, ← hM], hR_rf⟩, by rw [ht]; exact hP, va_K.moved hW.alike hK, hD⟩, hS.F ht⟩) hS.2.2 nd_Ref_lock_11
  · have c_1t := cr_nlt c_1
    rw [if_neg c_1] at hM
    refine lv_iload_n hx hb nd_Ref_lock_5 rfl (lv_at hl 1 rfl) ?_
    refine lv_iconst (v := 3) hx hb nd_Ref_lock_6 (by decide) ?_
    refine lv_icmp_le (tgt := 12) hx hb nd_Ref_lock_7 (by decide) (fun c_2 => ?_) (fun c_2 => ?_)
    · have c_2t := cr_le c_2
      rw [if_pos c_2] at hM
      refine lv_iload_n hx hb nd_Ref_lock_12 rfl (lv_at hl 2 rfl) ?_
      refine lv_bipush (v := -8) hx hb nd_Ref_lock_13 (by decide) ?_
      refine lv_icmp_lt (tgt := 28) hx hb nd_Ref_lock_15 (by decide) (fun c_3 => ?_) (fun c_3 => ?_)
      · have c_3t := cr_lt c_3
        rw [if_pos c_3] at hM
        refine lv_bipush (v := -2) hx hb nd_Ref_lock_28 (by decide) ?_
        exact W.iret (v := (-2 : Int32)) hx hb hr (fun t ht hW => ⟨⟨(-2 : Int32), rf, rfl, ⟨by rw [hT, ← hM], by rw [hT, ← hM], hR_rf⟩, by rw [ht]; exact hP, va_K.moved hW.alike hK, hD⟩, hS.F ht⟩) hS.2.2 nd_Ref_lock_30
      · have c_3t := cr_nlt c_3
        rw [if_neg c_3] at hM
        refine lv_iload_n hx hb nd_Ref_lock_18 rfl (lv_at hl 2 rfl) ?_
        refine lv_bipush (v := 8) hx hb nd_Ref_lock_19 (by decide) ?_
        refine lv_icmp_gt (tgt := 28) hx hb nd_Ref_lock_21 (by decide) (fun c_4 => ?_) (fun c_4 => ?_)
        · have c_4t := cr_lt c_4
          rw [if_pos c_4] at hM
          refine lv_bipush (v := -2) hx hb nd_Ref_lock_28 (by decide) ?_
          exact W.iret (v := (-2 : Int32)) hx hb hr (fun t ht hW => ⟨⟨(-2 : Int32), rf, rfl, ⟨by rw [hT, ← hM], by rw [hT, ← hM], hR_rf⟩, by rw [ht]; exact hP, va_K.moved hW.alike hK, hD⟩, hS.F ht⟩) hS.2.2 nd_Ref_lock_30
        · have c_4t := cr_nlt c_4
          rw [if_neg c_4] at hM
          refine lv_iload_n hx hb nd_Ref_lock_24 rfl (lv_at hl 2 rfl) ?_
          refine lv_if_ne (tgt := 31) hx hb nd_Ref_lock_25 (by decide) (fun c_5 => ?_) (fun c_5 => ?_)
          · have c_5t := cr_ne c_5
            rw [if_neg c_5] at hM
            refine lv_aload_n hx hb nd_Ref_lock_31 rfl (lv_at hl 0 rfl) ?_
            refine va_get (D := (dC, dI)) (ci := 5) (v := .ref (arf 11)) (C := "CeilingRowsModel") (T := nf_Ref) (N := 22) hx hb hts nin_Ref hown hK hP 0 rfl rfl 14 (by decide) (hts _ tw_427) (fun _ h9 => h9) rfl nd_Ref_lock_32 ?_
            refine lv_iload_n hx hb nd_Ref_lock_35 rfl (lv_at hl 1 rfl) ?_
            have b_6 : vp_in x1 4 := vp_in_iff.mpr (by omega)
            refine va_iald hx hb hK hP 11 0 rfl rfl b_6 nd_Ref_lock_36 ?_
            have f_7 := cr_rgo hR_rf.2.2.2.2.1 (x1.toNatClampNeg)
            refine lv_if_le (tgt := 43) hx hb nd_Ref_lock_37 (by decide) (fun c_8 => ?_) (fun c_8 => ?_)
            · have c_8t := cr_le c_8
              rw [if_pos c_8] at hM
              refine lv_iload_n hx hb nd_Ref_lock_43 rfl (lv_at hl 2 rfl) ?_
              refine lv_if_le (tgt := 120) hx hb nd_Ref_lock_44 (by decide) (fun c_9 => ?_) (fun c_9 => ?_)
              · have c_9t := cr_le c_9
                rw [if_pos c_9] at hM
                refine lv_aload_n hx hb nd_Ref_lock_120 rfl (lv_at hl 0 rfl) ?_
                refine lv_iload_n hx hb nd_Ref_lock_121 rfl (lv_at hl 1 rfl) ?_
                have hPc := hP
                have hDc := hD
                have hFc := va_free (wc := cw_Ref cI cZ cJ arf rf lat ln) hD hS hA [0, 1, 2, 3, 4, 5, 6, 7, 8, 9, 10, 11, 12, 13, 14, 15, 16, 17] rfl
                refine va_calli (va_runV (As := [.int x1]) (rest := []) ⟨hx, hb, hml, hown, hts⟩ (ct_Ref_lastLock l dC dI cI cZ cJ arf s.heap.size rf lat ln x1 hR_rf) (cwV 1 hts (ng_V tw_568 tw_570 tp_29 tw_6 tw_571) rfl rfl rfl (by decide +kernel) ⟨Nat.le_of_ble_eq_true rfl, Nat.le_of_ble_eq_true rfl⟩) ⟨fun a U g mk q => by obtain ⟨q0, q1, qP, qK, qD⟩ := q; exact ⟨q0, q1, qP, va_K.moved (u := U) (U := U.calling g mk a) (Vm.Alike.refl U.vm) qK, qD⟩, va_recv hK hPc (ci := 5) (q0 := 0) rfl rfl, fun U hU hW => ⟨rfl, by rw [hU], by rw [hU]; exact hPc, va_K.moved hW.alike hK, hDc.weaken (fun _ _ _ _ => trivial)⟩⟩ rfl rfl hl.1 rfl (lv_room (Nat.le_of_ble_eq_true rfl)) nd_Ref_lock_122 ⟨Nat.zero_le _, Nat.zero_le _⟩) hS (fun q _ h => hFc q h) hFc (fun r_10 u t H1 locs ht hvm hw hB hz1 hk1 hS => ?_)
                obtain ⟨hP1, hK1, hD1⟩ := hB
                rw [ht] at hP1
                obtain ⟨w_11, f_12⟩ := hw
                try rw [← w_11] at hM
                have hP := hP1
                have hD := cr_Dw hD1 hFc
                generalize H1 = H at hP hS ⊢
                refine lv_iload_n hx hb nd_Ref_lock_125 rfl (lv_at hl 2 rfl) ?_
                refine lv_ineg hx hb nd_Ref_lock_126 ?_
                have e_13 : (-x2).toInt = -(x2.toInt) := cr_neg (by omega)
                refine lv_icmp_eq (tgt := 133) hx hb nd_Ref_lock_127 (by decide) (fun c_14 => ?_) (fun c_14 => ?_)
                · have c_14t := cr_eq c_14
                  rw [if_pos c_14] at hM
                  refine lv_aload_n hx hb nd_Ref_lock_133 rfl (lv_at hl 0 rfl) ?_
                  refine va_get (D := (dC, dI)) (ci := 5) (v := .ref (arf 9)) (C := "CeilingRowsModel") (T := nf_Ref) (N := 22) hx hb hts nin_Ref hown hK hP 0 rfl rfl 12 (by decide) (hts _ tw_425) (fun _ h9 => h9) rfl nd_Ref_lock_134 ?_
                  refine lv_iload_n hx hb nd_Ref_lock_137 rfl (lv_at hl 2 rfl) ?_
                  refine lv_ineg hx hb nd_Ref_lock_138 ?_
                  have e_15 : (-x2).toInt = -(x2.toInt) := cr_neg (by omega)
                  refine lv_iconst (v := 0) hx hb nd_Ref_lock_139 (by decide) ?_
                  have b_16 : vp_in (-x2) 9 := vp_in_iff.mpr (by omega)
                  refine va_iast hx hb hK hP hD hS 9 0 rfl rfl b_16 nd_Ref_lock_140 (fun H locs hP hD hS => ?_)
                  have hP : va_P (dC, dI) vwCl (cw_Ref cI cZ cJ arf (cr_up rf 9 (-x2).toNatClampNeg (0 : Int32)) lat ln) H := hP
                  have hD : va_D A (cw_Ref cI cZ cJ arf (cr_up rf 9 (-x2).toNatClampNeg (0 : Int32)) lat ln) := hD
                  have hR_17 : cr_RRef (cr_up rf 9 (-x2).toNatClampNeg (0 : Int32)) := ⟨cr_rf_up hR_rf.1 (fun e _ => absurd e (by decide)), cr_rf_up hR_rf.2.1 (fun e _ => absurd e (by decide)), cr_rg_up hR_rf.2.2.1 (fun e => absurd e (by decide)), cr_rg_up hR_rf.2.2.2.1 (fun _ => by omega), cr_rg_up hR_rf.2.2.2.2.1 (fun e => absurd e (by decide)), cr_rh_up hR_rf.2.2.2.2.2 (fun e => absurd e (by decide))⟩
                  obtain ⟨rfq_18, hrfq_18⟩ : ∃ z, (cr_up rf 9 (-x2).toNatClampNeg (0 : Int32)) = z := ⟨_, rfl⟩
                  rw [hrfq_18] at hP hD hR_17
                  try rw [hrfq_18] at hM
                  refine lv_iconst (v := 0) hx hb nd_Ref_lock_141 (by decide) ?_
                  refine lv_istore_n (lv' := [(3, .int (0 : Int32)), (0, .ref (arf 0)), (1, .int x1), (2, .int x2)]) hx hb nd_Ref_lock_142 rfl hl (by decide) rfl (fun ls hl => ?_)
                  refine lv_iconst (v := 1) hx hb nd_Ref_lock_143 (by decide) ?_
                  refine lv_istore (lv' := [(4, .int (1 : Int32)), (3, .int (0 : Int32)), (0, .ref (arf 0)), (1, .int x1), (2, .int x2)]) hx hb nd_Ref_lock_144 hl (by decide) rfl (fun ls hl => ?_)
                  have hl := lv_sub hl [2, 4, 1, 0] rfl
                  have lp_146 : ∀ (n_146 : Nat) (v3_146 : Int32) (v4_146 : Int32), (1 ≤ v4_146.toInt ∧ v4_146.toInt ≤ 4) → (0 ≤ v3_146.toInt ∧ v3_146.toInt ≤ 3) → (4 < v4_146.toInt + (n_146 : Int)) → lo_Ref_lock_146 rfq_18 lat ln x1 x2 n_146 v3_146 v4_146 = tgt → ∀ (H : Heap) (locs : List Loc), va_P (dC, dI) vwCl (cw_Ref cI cZ cJ arf rfq_18 lat ln) H → va_D A (cw_Ref cI cZ cJ arf rfq_18 lat ln) → va_S A s.heap H locs → ∀ ls : Array Slot, lv_has ls 5 [(0, .ref (arf 0)), (2, .int x2), (3, .int v3_146), (4, .int v4_146)] → W p l e (headSpec nw_Ref_lock ({ frames := 1, cells := 0, slots := 0, locals := 23 } : Room)).room s m ([.ref (arf 0), .int x1, .int x2] : List Value).toArray below meth c H locs 0 0 (MQ below (pq_Ref_lock dC dI cI cZ cJ arf rf lat ln x1 x2 A) ([.ref (arf 0), .int x1, .int x2] : List Value).toArray s 0 0 A) (F0 m 146 ls []) := by
                    intro n_146
                    induction n_146 with
                    | zero =>
                      intro v3_146 v4_146 hv4_146 hv3_146 hn_146
                      exfalso; omega
                    | succ n_146 ih_146 =>
                      intro v3_146 v4_146 hv4_146 hv3_146 hn_146 hM H locs hP hD hS ls hl
                      have hn_146 : 4 < v4_146.toInt + ((n_146 : Int) + 1) := by omega
                      rw [lo_Ref_lock_146] at hM
                      refine lv_iload hx hb nd_Ref_lock_146 (lv_at hl 3 rfl) ?_
                      refine lv_iconst (v := 4) hx hb nd_Ref_lock_148 (by decide) ?_
                      refine lv_icmp_ge (tgt := 193) hx hb nd_Ref_lock_149 (by decide) (fun c_19 => ?_) (fun c_19 => ?_)
                      · have c_19t := cr_le c_19
                        rw [if_pos c_19] at hM
                        refine lv_iload_n hx hb nd_Ref_lock_193 rfl (lv_at hl 2 rfl) ?_
                        refine lv_if_le (tgt := 211) hx hb nd_Ref_lock_194 (by decide) (fun c_20 => ?_) (fun c_20 => ?_)
                        · have c_20t := cr_le c_20
                          rw [if_pos c_20] at hM
                          refine lv_iconst (v := 1) hx hb nd_Ref_lock_211 (by decide) ?_
                          exact W.iret (v := (1 : Int32)) hx hb hr (fun t ht hW => ⟨⟨(1 : Int32), rfq_18, rfl, ⟨by rw [hT, ← hM], by rw [hT, ← hM], hR_17⟩, by rw [ht]; exact hP, va_K.moved hW.alike hK, hD⟩, hS.F ht⟩) hS.2.2 nd_Ref_lock_212
                        · have c_20t := cr_nle c_20
                          rw [if_neg c_20] at hM
                          refine lv_aload_n hx hb nd_Ref_lock_197 rfl (lv_at hl 0 rfl) ?_
                          refine va_get (D := (dC, dI)) (ci := 5) (v := .ref (arf 11)) (C := "CeilingRowsModel") (T := nf_Ref) (N := 22) hx hb hts nin_Ref hown hK hP 0 rfl rfl 14 (by decide) (hts _ tw_427) (fun _ h9 => h9) rfl nd_Ref_lock_198 ?_
                          refine lv_iload_n hx hb nd_Ref_lock_201 rfl (lv_at hl 2 rfl) ?_
                          refine lv_iconst (v := 0) hx hb nd_Ref_lock_202 (by decide) ?_
                          have b_21 : vp_in v3_146 4 := vp_in_iff.mpr (by omega)
                          refine va_iast hx hb hK hP hD hS 11 0 rfl rfl b_21 nd_Ref_lock_203 (fun H locs hP hD hS => ?_)
                          have hP : va_P (dC, dI) vwCl (cw_Ref cI cZ cJ arf (cr_up rfq_18 11 v3_146.toNatClampNeg (0 : Int32)) lat ln) H := hP
                          have hD : va_D A (cw_Ref cI cZ cJ arf (cr_up rfq_18 11 v3_146.toNatClampNeg (0 : Int32)) lat ln) := hD
                          have hR_22 : cr_RRef (cr_up rfq_18 11 v3_146.toNatClampNeg (0 : Int32)) := ⟨cr_rf_up hR_17.1 (fun e _ => absurd e (by decide)), cr_rf_up hR_17.2.1 (fun e _ => absurd e (by decide)), cr_rg_up hR_17.2.2.1 (fun e => absurd e (by decide)), cr_rg_up hR_17.2.2.2.1 (fun e => absurd e (by decide)), cr_rg_up hR_17.2.2.2.2.1 (fun _ => by omega), cr_rh_up hR_17.2.2.2.2.2 (fun e => absurd e (by decide))⟩
                          obtain ⟨rfq_23, hrfq_23⟩ : ∃ z, (cr_up rfq_18 11 v3_146.toNatClampNeg (0 : Int32)) = z := ⟨_, rfl⟩
                          rw [hrfq_23] at hP hD hR_22
                          try rw [hrfq_23] at hM
                          refine lv_aload_n hx hb nd_Ref_lock_204 rfl (lv_at hl 0 rfl) ?_
                          refine lv_iload_n hx hb nd_Ref_lock_205 rfl (lv_at hl 2 rfl) ?_
                          refine lv_iload_n hx hb nd_Ref_lock_206 rfl (lv_at hl 1 rfl) ?_
                          refine lv_ineg hx hb nd_Ref_lock_207 ?_
                          have e_24 : (-x2).toInt = -(x2.toInt) := cr_neg (by omega)
                          have hPc := hP
                          have hDc := hD
                          have hFc := va_free (wc := cw_Ref cI cZ cJ arf rfq_23 lat ln) hD hS hA [0, 1, 2, 3, 4, 5, 6, 7, 8, 9, 10, 11, 12, 13, 14, 15, 16, 17] rfl
                          refine va_callv (va_runV (As := [.int v3_146, .int (-x2)]) (rest := []) ⟨hx, hb, hml, hown, hts⟩ (ct_Ref_have l dC dI cI cZ cJ arf H.size rfq_23 lat ln v3_146 (-x2) hR_22 (by omega) (by omega)) (cwV 2 hts (ng_V tw_564 tw_566 tp_28 tw_6 tw_567) rfl rfl rfl (by decide +kernel) ⟨Nat.le_of_ble_eq_true rfl, Nat.le_of_ble_eq_true rfl⟩) ⟨fun a U g mk q => by obtain ⟨q0, q1, qP, qK, qD⟩ := q; exact ⟨q0, q1, qP, va_K.moved (u := U) (U := U.calling g mk a) (Vm.Alike.refl U.vm) qK, qD⟩, va_recv hK hPc (ci := 5) (q0 := 0) rfl rfl, fun U hU hW => ⟨rfl, by rw [hU], by rw [hU]; exact hPc, va_K.moved hW.alike hK, hDc.weaken (fun _ _ _ _ => trivial)⟩⟩ rfl rfl hl.1 rfl (lv_room (Nat.le_of_ble_eq_true rfl)) nd_Ref_lock_208 ⟨Nat.zero_le _, Nat.zero_le _⟩) hS (fun q _ h => hFc q h) hFc (fun u t H1 locs ht hvm hw hB hz1 hk1 hS => ?_)
                          obtain ⟨hP1, hK1, hD1⟩ := hB
                          rw [ht] at hP1
                          obtain ⟨rfq_26, rfl⟩ : ∃ z, z = u := ⟨_, rfl⟩
                          obtain ⟨w_27, hR_28⟩ := hw
                          try rw [← w_27] at hM
                          have hP := hP1
                          have hD := cr_Dw hD1 hFc
                          generalize H1 = H at hP hS ⊢
                          refine lv_iconst (v := 1) hx hb nd_Ref_lock_211 (by decide) ?_
                          exact W.iret (v := (1 : Int32)) hx hb hr (fun t ht hW => ⟨⟨(1 : Int32), rfq_26, rfl, ⟨by rw [hT, ← hM], by rw [hT, ← hM], hR_28⟩, by rw [ht]; exact hP, va_K.moved hW.alike hK, hD⟩, hS.F ht⟩) hS.2.2 nd_Ref_lock_212
                      · have c_19t := cr_nle c_19
                        rw [if_neg c_19] at hM
                        refine lv_aload_n hx hb nd_Ref_lock_152 rfl (lv_at hl 0 rfl) ?_
                        refine va_get (D := (dC, dI)) (ci := 5) (v := .ref (arf 11)) (C := "CeilingRowsModel") (T := nf_Ref) (N := 22) hx hb hts nin_Ref hown hK hP 0 rfl rfl 14 (by decide) (hts _ tw_427) (fun _ h9 => h9) rfl nd_Ref_lock_153 ?_
                        refine lv_iload hx hb nd_Ref_lock_156 (lv_at hl 3 rfl) ?_
                        have b_29 : vp_in v4_146 4 := vp_in_iff.mpr (by omega)
                        refine va_iald hx hb hK hP 11 0 rfl rfl b_29 nd_Ref_lock_158 ?_
                        have f_30 := cr_rgo hR_17.2.2.2.2.1 (v4_146.toNatClampNeg)
                        refine lv_iload_n hx hb nd_Ref_lock_159 rfl (lv_at hl 1 rfl) ?_
                        refine lv_ineg hx hb nd_Ref_lock_160 ?_
                        have e_31 : (-x2).toInt = -(x2.toInt) := cr_neg (by omega)
                        refine lv_icmp_ne (tgt := 187) hx hb nd_Ref_lock_161 (by decide) (fun c_32 => ?_) (fun c_32 => ?_)
                        · have c_32t := cr_ne c_32
                          rw [if_neg c_32] at hM
                          have e_33 : (v4_146 + (1 : Int32)).toInt = v4_146.toInt + (1 : Int32).toInt := cr_add (by omega)
                          refine lv_iinc (v := (v4_146 + (1 : Int32))) (lv' := [(4, .int (v4_146 + (1 : Int32))), (0, .ref (arf 0)), (2, .int x2), (3, .int v3_146)]) hx hb nd_Ref_lock_187 hl (k := 3) rfl (by rfl) (by decide) rfl (fun ls hl => ?_)
                          refine lv_goto (tgt := 146) hx hb nd_Ref_lock_190 (by decide) ?_
                          exact ih_146 v3_146 (v4_146 + (1 : Int32)) (by omega) (by omega) (by omega) hM _ _ hP hD hS _ (lv_sub hl [1, 2, 3, 0] rfl)
                        · have c_32t := cr_eq c_32
                          rw [if_pos c_32] at hM
                          refine lv_iload_n hx hb nd_Ref_lock_164 rfl (lv_at hl 2 rfl) ?_
                          refine lv_if_eq (tgt := 184) hx hb nd_Ref_lock_165 (by decide) (fun c_34 => ?_) (fun c_34 => ?_)
                          · have c_34t := cr_eq c_34
                            rw [if_pos c_34] at hM
                            refine lv_iload hx hb nd_Ref_lock_184 (lv_at hl 3 rfl) ?_
                            refine lv_istore_n (lv' := [(3, .int v4_146), (0, .ref (arf 0)), (2, .int x2), (4, .int v4_146)]) hx hb nd_Ref_lock_186 rfl hl (by decide) rfl (fun ls hl => ?_)
                            have e_35 : (v4_146 + (1 : Int32)).toInt = v4_146.toInt + (1 : Int32).toInt := cr_add (by omega)
                            refine lv_iinc (v := (v4_146 + (1 : Int32))) (lv' := [(4, .int (v4_146 + (1 : Int32))), (3, .int v4_146), (0, .ref (arf 0)), (2, .int x2)]) hx hb nd_Ref_lock_187 hl (k := 3) rfl (by rfl) (by decide) rfl (fun ls hl => ?_)
                            refine lv_goto (tgt := 146) hx hb nd_Ref_lock_190 (by decide) ?_
                            exact ih_146 v4_146 (v4_146 + (1 : Int32)) (by omega) (by omega) (by omega) hM _ _ hP hD hS _ (lv_sub hl [2, 3, 1, 0] rfl)
                          · have c_34t := cr_ne c_34
                            rw [if_neg c_34] at hM
                            refine lv_aload_n hx hb nd_Ref_lock_168 rfl (lv_at hl 0 rfl) ?_
                            refine va_get (D := (dC, dI)) (ci := 5) (v := .ref (arf 12)) (C := "CeilingRowsModel") (T := nf_Ref) (N := 22) hx hb hts nin_Ref hown hK hP 0 rfl rfl 15 (by decide) (hts _ tw_428) (fun _ h9 => h9) rfl nd_Ref_lock_169 ?_
                            refine lv_iload hx hb nd_Ref_lock_172 (lv_at hl 3 rfl) ?_
                            have b_36 : vp_in v4_146 4 := vp_in_iff.mpr (by omega)
                            refine va_iald hx hb hK hP 12 0 rfl rfl b_36 nd_Ref_lock_174 ?_
                            refine lv_aload_n hx hb nd_Ref_lock_175 rfl (lv_at hl 0 rfl) ?_
                            refine va_get (D := (dC, dI)) (ci := 5) (v := .ref (arf 12)) (C := "CeilingRowsModel") (T := nf_Ref) (N := 22) hx hb hts nin_Ref hown hK hP 0 rfl rfl 15 (by decide) (hts _ tw_428) (fun _ h9 => h9) rfl nd_Ref_lock_176 ?_
                            refine lv_iload_n hx hb nd_Ref_lock_179 rfl (lv_at hl 2 rfl) ?_
                            have b_37 : vp_in v3_146 4 := vp_in_iff.mpr (by omega)
                            refine va_iald hx hb hK hP 12 0 rfl rfl b_37 nd_Ref_lock_180 ?_
                            refine lv_icmp_ge (tgt := 187) hx hb nd_Ref_lock_181 (by decide) (fun c_38 => ?_) (fun c_38 => ?_)
                            · have c_38t := cr_le c_38
                              rw [if_pos c_38] at hM
                              have e_39 : (v4_146 + (1 : Int32)).toInt = v4_146.toInt + (1 : Int32).toInt := cr_add (by omega)
                              refine lv_iinc (v := (v4_146 + (1 : Int32))) (lv' := [(4, .int (v4_146 + (1 : Int32))), (0, .ref (arf 0)), (2, .int x2), (3, .int v3_146)]) hx hb nd_Ref_lock_187 hl (k := 3) rfl (by rfl) (by decide) rfl (fun ls hl => ?_)
                              refine lv_goto (tgt := 146) hx hb nd_Ref_lock_190 (by decide) ?_
                              exact ih_146 v3_146 (v4_146 + (1 : Int32)) (by omega) (by omega) (by omega) hM _ _ hP hD hS _ (lv_sub hl [1, 2, 3, 0] rfl)
                            · have c_38t := cr_nle c_38
                              rw [if_neg c_38] at hM
                              refine lv_iload hx hb nd_Ref_lock_184 (lv_at hl 3 rfl) ?_
                              refine lv_istore_n (lv' := [(3, .int v4_146), (0, .ref (arf 0)), (2, .int x2), (4, .int v4_146)]) hx hb nd_Ref_lock_186 rfl hl (by decide) rfl (fun ls hl => ?_)
                              have e_40 : (v4_146 + (1 : Int32)).toInt = v4_146.toInt + (1 : Int32).toInt := cr_add (by omega)
                              refine lv_iinc (v := (v4_146 + (1 : Int32))) (lv' := [(4, .int (v4_146 + (1 : Int32))), (3, .int v4_146), (0, .ref (arf 0)), (2, .int x2)]) hx hb nd_Ref_lock_187 hl (k := 3) rfl (by rfl) (by decide) rfl (fun ls hl => ?_)
                              refine lv_goto (tgt := 146) hx hb nd_Ref_lock_190 (by decide) ?_
                              exact ih_146 v4_146 (v4_146 + (1 : Int32)) (by omega) (by omega) (by omega) hM _ _ hP hD hS _ (lv_sub hl [2, 3, 1, 0] rfl)
                  exact lp_146 4 (0 : Int32) (1 : Int32) (by omega) (by omega) (by omega) hM _ _ hP hD hS _ hl
                · have c_14t := cr_ne c_14
                  rw [if_neg c_14] at hM
                  refine lv_bipush (v := -17) hx hb nd_Ref_lock_130 (by decide) ?_
                  exact W.iret (v := (-17 : Int32)) hx hb hr (fun t ht hW => ⟨⟨(-17 : Int32), rf, rfl, ⟨by rw [hT, ← hM], by rw [hT, ← hM], hR_rf⟩, by rw [ht]; exact hP, va_K.moved hW.alike hK, hD⟩, hS.F ht⟩) hS.2.2 nd_Ref_lock_132
              · have c_9t := cr_nle c_9
                rw [if_neg c_9] at hM
                refine lv_iload_n hx hb nd_Ref_lock_47 rfl (lv_at hl 2 rfl) ?_
                refine lv_istore_n (lv' := [(3, .int x2), (0, .ref (arf 0)), (1, .int x1), (2, .int x2)]) hx hb nd_Ref_lock_48 rfl hl (by decide) rfl (fun ls hl => ?_)
                have hl := lv_sub hl [1, 2, 3, 0] rfl
                have lp_49 : ∀ (n_49 : Nat) (v3_49 : Int32), (1 ≤ v3_49.toInt ∧ v3_49.toInt ≤ 9) → (9 < v3_49.toInt + (n_49 : Int)) → lo_Ref_lock_49 rf lat ln x1 x2 n_49 v3_49 = tgt → ∀ (H : Heap) (locs : List Loc), va_P (dC, dI) vwCl (cw_Ref cI cZ cJ arf rf lat ln) H → va_D A (cw_Ref cI cZ cJ arf rf lat ln) → va_S A s.heap H locs → ∀ ls : Array Slot, lv_has ls 5 [(0, .ref (arf 0)), (1, .int x1), (2, .int x2), (3, .int v3_49)] → W p l e (headSpec nw_Ref_lock ({ frames := 1, cells := 0, slots := 0, locals := 23 } : Room)).room s m ([.ref (arf 0), .int x1, .int x2] : List Value).toArray below meth c H locs 0 0 (MQ below (pq_Ref_lock dC dI cI cZ cJ arf rf lat ln x1 x2 A) ([.ref (arf 0), .int x1, .int x2] : List Value).toArray s 0 0 A) (F0 m 49 ls []) := by
                  intro n_49
                  induction n_49 with
                  | zero =>
                    intro v3_49 hv3_49 hn_49
                    exfalso; omega
                  | succ n_49 ih_49 =>
                    intro v3_49 hv3_49 hn_49 hM H locs hP hD hS ls hl
                    have hn_49 : 9 < v3_49.toInt + ((n_49 : Int) + 1) := by omega
                    rw [lo_Ref_lock_49] at hM
                    refine lv_iload_n hx hb nd_Ref_lock_49 rfl (lv_at hl 3 rfl) ?_
                    refine lv_bipush (v := 9) hx hb nd_Ref_lock_50 (by decide) ?_
                    refine lv_icmp_ge (tgt := 74) hx hb nd_Ref_lock_52 (by decide) (fun c_41 => ?_) (fun c_41 => ?_)
                    · have c_41t := cr_le c_41
                      rw [if_pos c_41] at hM
                      refine lv_aload_n hx hb nd_Ref_lock_74 rfl (lv_at hl 0 rfl) ?_
                      refine va_get (D := (dC, dI)) (ci := 5) (v := .ref (arf 9)) (C := "CeilingRowsModel") (T := nf_Ref) (N := 22) hx hb hts nin_Ref hown hK hP 0 rfl rfl 12 (by decide) (hts _ tw_425) (fun _ h9 => h9) rfl nd_Ref_lock_75 ?_
                      refine lv_iload_n hx hb nd_Ref_lock_78 rfl (lv_at hl 2 rfl) ?_
                      have b_42 : vp_in x2 9 := vp_in_iff.mpr (by omega)
                      refine va_iald hx hb hK hP 9 0 rfl rfl b_42 nd_Ref_lock_79 ?_
                      have f_43 := cr_rgo hR_rf.2.2.2.1 (x2.toNatClampNeg)
                      refine lv_if_le (tgt := 112) hx hb nd_Ref_lock_80 (by decide) (fun c_44 => ?_) (fun c_44 => ?_)
                      · have c_44t := cr_le c_44
                        rw [if_pos c_44] at hM
                        refine lv_aload_n hx hb nd_Ref_lock_112 rfl (lv_at hl 0 rfl) ?_
                        refine lv_iload_n hx hb nd_Ref_lock_113 rfl (lv_at hl 1 rfl) ?_
                        refine lv_iload_n hx hb nd_Ref_lock_114 rfl (lv_at hl 2 rfl) ?_
                        have hPc := hP
                        have hDc := hD
                        have hFc := va_free (wc := cw_Ref cI cZ cJ arf rf lat ln) hD hS hA [0, 1, 2, 3, 4, 5, 6, 7, 8, 9, 10, 11, 12, 13, 14, 15, 16, 17] rfl
                        refine va_callv (va_runV (As := [.int x1, .int x2]) (rest := []) ⟨hx, hb, hml, hown, hts⟩ (ct_Ref_have l dC dI cI cZ cJ arf H.size rf lat ln x1 x2 hR_rf (by omega) (by omega)) (cwV 2 hts (ng_V tw_564 tw_566 tp_28 tw_6 tw_567) rfl rfl rfl (by decide +kernel) ⟨Nat.le_of_ble_eq_true rfl, Nat.le_of_ble_eq_true rfl⟩) ⟨fun a U g mk q => by obtain ⟨q0, q1, qP, qK, qD⟩ := q; exact ⟨q0, q1, qP, va_K.moved (u := U) (U := U.calling g mk a) (Vm.Alike.refl U.vm) qK, qD⟩, va_recv hK hPc (ci := 5) (q0 := 0) rfl rfl, fun U hU hW => ⟨rfl, by rw [hU], by rw [hU]; exact hPc, va_K.moved hW.alike hK, hDc.weaken (fun _ _ _ _ => trivial)⟩⟩ rfl rfl hl.1 rfl (lv_room (Nat.le_of_ble_eq_true rfl)) nd_Ref_lock_115 ⟨Nat.zero_le _, Nat.zero_le _⟩) hS (fun q _ h => hFc q h) hFc (fun u t H1 locs ht hvm hw hB hz1 hk1 hS => ?_)
                        obtain ⟨hP1, hK1, hD1⟩ := hB
                        rw [ht] at hP1
                        obtain ⟨rfq_46, rfl⟩ : ∃ z, z = u := ⟨_, rfl⟩
                        obtain ⟨w_47, hR_48⟩ := hw
                        try rw [← w_47] at hM
                        have hP := hP1
                        have hD := cr_Dw hD1 hFc
                        generalize H1 = H at hP hS ⊢
                        refine lv_iconst (v := 1) hx hb nd_Ref_lock_118 (by decide) ?_
                        exact W.iret (v := (1 : Int32)) hx hb hr (fun t ht hW => ⟨⟨(1 : Int32), rfq_46, rfl, ⟨by rw [hT, ← hM], by rw [hT, ← hM], hR_48⟩, by rw [ht]; exact hP, va_K.moved hW.alike hK, hD⟩, hS.F ht⟩) hS.2.2 nd_Ref_lock_119
                      · have c_44t := cr_nle c_44
                        rw [if_neg c_44] at hM
                        refine lv_aload_n hx hb nd_Ref_lock_83 rfl (lv_at hl 0 rfl) ?_
                        refine lv_dup hx hb nd_Ref_lock_84 rfl ?_
                        refine va_get (D := (dC, dI)) (ci := 5) (v := .int (rf 0 3)) (C := "CeilingRowsModel") (T := nf_Ref) (N := 22) hx hb hts nin_Ref hown hK hP 0 rfl rfl 16 (by decide) (hts _ tw_429) (fun _ h9 => h9) rfl nd_Ref_lock_85 ?_
                        refine lv_iconst (v := 1) hx hb nd_Ref_lock_88 (by decide) ?_
                        refine lv_iadd hx hb nd_Ref_lock_89 ?_
                        refine va_put (D := (dC, dI)) (ci := 5) (v := .int ((rf 0 3) + (1 : Int32))) (ty := .int) (C := "CeilingRowsModel") (T := nf_Ref) (N := 22) hx hb hts nin_Ref nt_Ref nto_Ref nno_Ref hown hK hP hD hS 0 rfl rfl 16 (by decide) (hts _ tw_429) (fun _ h9 => h9) rfl (by decide +kernel) rfl rfl (Nat.le_of_ble_eq_true rfl) nd_Ref_lock_90 (fun H locs hP hD hS => ?_)
                        have hP : va_P (dC, dI) vwCl (cw_Ref cI cZ cJ arf (cr_up rf 0 3 ((rf 0 3) + (1 : Int32))) lat ln) H := hP
                        have hD : va_D A (cw_Ref cI cZ cJ arf (cr_up rf 0 3 ((rf 0 3) + (1 : Int32))) lat ln) := hD
                        have hR_49 : cr_RRef (cr_up rf 0 3 ((rf 0 3) + (1 : Int32))) := ⟨cr_rf_up hR_rf.1 (fun _ e => absurd e (by decide)), cr_rf_up hR_rf.2.1 (fun _ e => absurd e (by decide)), cr_rg_up hR_rf.2.2.1 (fun e => absurd e (by decide)), cr_rg_up hR_rf.2.2.2.1 (fun e => absurd e (by decide)), cr_rg_up hR_rf.2.2.2.2.1 (fun e => absurd e (by decide)), cr_rh_up hR_rf.2.2.2.2.2 (fun e => absurd e (by decide))⟩
                        obtain ⟨rfq_50, hrfq_50⟩ : ∃ z, (cr_up rf 0 3 ((rf 0 3) + (1 : Int32))) = z := ⟨_, rfl⟩
                        rw [hrfq_50] at hP hD hR_49
                        try rw [hrfq_50] at hM
                        refine lv_aload_n hx hb nd_Ref_lock_93 rfl (lv_at hl 0 rfl) ?_
                        refine va_get (D := (dC, dI)) (ci := 5) (v := .ref (arf 11)) (C := "CeilingRowsModel") (T := nf_Ref) (N := 22) hx hb hts nin_Ref hown hK hP 0 rfl rfl 14 (by decide) (hts _ tw_427) (fun _ h9 => h9) rfl nd_Ref_lock_94 ?_
                        refine lv_iload_n hx hb nd_Ref_lock_97 rfl (lv_at hl 1 rfl) ?_
                        refine lv_iload_n hx hb nd_Ref_lock_98 rfl (lv_at hl 2 rfl) ?_
                        have b_51 : vp_in x1 4 := vp_in_iff.mpr (by omega)
                        refine va_iast hx hb hK hP hD hS 11 0 rfl rfl b_51 nd_Ref_lock_99 (fun H locs hP hD hS => ?_)
                        have hP : va_P (dC, dI) vwCl (cw_Ref cI cZ cJ arf (cr_up rfq_50 11 x1.toNatClampNeg x2) lat ln) H := hP
                        have hD : va_D A (cw_Ref cI cZ cJ arf (cr_up rfq_50 11 x1.toNatClampNeg x2) lat ln) := hD
                        have hR_52 : cr_RRef (cr_up rfq_50 11 x1.toNatClampNeg x2) := ⟨cr_rf_up hR_49.1 (fun e _ => absurd e (by decide)), cr_rf_up hR_49.2.1 (fun e _ => absurd e (by decide)), cr_rg_up hR_49.2.2.1 (fun e => absurd e (by decide)), cr_rg_up hR_49.2.2.2.1 (fun e => absurd e (by decide)), cr_rg_up hR_49.2.2.2.2.1 (fun _ => by omega), cr_rh_up hR_49.2.2.2.2.2 (fun e => absurd e (by decide))⟩
                        obtain ⟨rfq_53, hrfq_53⟩ : ∃ z, (cr_up rfq_50 11 x1.toNatClampNeg x2) = z := ⟨_, rfl⟩
                        rw [hrfq_53] at hP hD hR_52
                        try rw [hrfq_53] at hM
                        refine lv_aload_n hx hb nd_Ref_lock_100 rfl (lv_at hl 0 rfl) ?_
                        refine va_get (D := (dC, dI)) (ci := 5) (v := .ref (arf 12)) (C := "CeilingRowsModel") (T := nf_Ref) (N := 22) hx hb hts nin_Ref hown hK hP 0 rfl rfl 15 (by decide) (hts _ tw_428) (fun _ h9 => h9) rfl nd_Ref_lock_101 ?_
                        refine lv_iload_n hx hb nd_Ref_lock_104 rfl (lv_at hl 1 rfl) ?_
                        refine lv_aload_n hx hb nd_Ref_lock_105 rfl (lv_at hl 0 rfl) ?_
                        refine va_get (D := (dC, dI)) (ci := 5) (v := .int (rfq_53 0 3)) (C := "CeilingRowsModel") (T := nf_Ref) (N := 22) hx hb hts nin_Ref hown hK hP 0 rfl rfl 16 (by decide) (hts _ tw_429) (fun _ h9 => h9) rfl nd_Ref_lock_106 ?_
                        have b_54 : vp_in x1 4 := vp_in_iff.mpr (by omega)
                        refine va_iast hx hb hK hP hD hS 12 0 rfl rfl b_54 nd_Ref_lock_109 (fun H locs hP hD hS => ?_)
                        have hP : va_P (dC, dI) vwCl (cw_Ref cI cZ cJ arf (cr_up rfq_53 12 x1.toNatClampNeg (rfq_53 0 3)) lat ln) H := hP
                        have hD : va_D A (cw_Ref cI cZ cJ arf (cr_up rfq_53 12 x1.toNatClampNeg (rfq_53 0 3)) lat ln) := hD
                        have hR_55 : cr_RRef (cr_up rfq_53 12 x1.toNatClampNeg (rfq_53 0 3)) := ⟨cr_rf_up hR_52.1 (fun e _ => absurd e (by decide)), cr_rf_up hR_52.2.1 (fun e _ => absurd e (by decide)), cr_rg_up hR_52.2.2.1 (fun e => absurd e (by decide)), cr_rg_up hR_52.2.2.2.1 (fun e => absurd e (by decide)), cr_rg_up hR_52.2.2.2.2.1 (fun e => absurd e (by decide)), cr_rh_up hR_52.2.2.2.2.2 (fun e => absurd e (by decide))⟩
                        obtain ⟨rfq_56, hrfq_56⟩ : ∃ z, (cr_up rfq_53 12 x1.toNatClampNeg (rfq_53 0 3)) = z := ⟨_, rfl⟩
                        rw [hrfq_56] at hP hD hR_55
                        try rw [hrfq_56] at hM
                        refine lv_iconst (v := 0) hx hb nd_Ref_lock_110 (by decide) ?_
                        exact W.iret (v := (0 : Int32)) hx hb hr (fun t ht hW => ⟨⟨(0 : Int32), rfq_56, rfl, ⟨by rw [hT, ← hM], by rw [hT, ← hM], hR_55⟩, by rw [ht]; exact hP, va_K.moved hW.alike hK, hD⟩, hS.F ht⟩) hS.2.2 nd_Ref_lock_111
                    · have c_41t := cr_nle c_41
                      rw [if_neg c_41] at hM
                      refine lv_aload_n hx hb nd_Ref_lock_55 rfl (lv_at hl 0 rfl) ?_
                      refine va_get (D := (dC, dI)) (ci := 5) (v := .ref (arf 9)) (C := "CeilingRowsModel") (T := nf_Ref) (N := 22) hx hb hts nin_Ref hown hK hP 0 rfl rfl 12 (by decide) (hts _ tw_425) (fun _ h9 => h9) rfl nd_Ref_lock_56 ?_
                      refine lv_iload_n hx hb nd_Ref_lock_59 rfl (lv_at hl 3 rfl) ?_
                      have b_57 : vp_in v3_49 9 := vp_in_iff.mpr (by omega)
                      refine va_iald hx hb hK hP 9 0 rfl rfl b_57 nd_Ref_lock_60 ?_
                      have f_58 := cr_rgo hR_rf.2.2.2.1 (v3_49.toNatClampNeg)
                      refine lv_iload_n hx hb nd_Ref_lock_61 rfl (lv_at hl 1 rfl) ?_
                      refine lv_icmp_ne (tgt := 68) hx hb nd_Ref_lock_62 (by decide) (fun c_59 => ?_) (fun c_59 => ?_)
                      · have c_59t := cr_ne c_59
                        rw [if_neg c_59] at hM
                        have e_60 : (v3_49 + (1 : Int32)).toInt = v3_49.toInt + (1 : Int32).toInt := cr_add (by omega)
                        refine lv_iinc (v := (v3_49 + (1 : Int32))) (lv' := [(3, .int (v3_49 + (1 : Int32))), (0, .ref (arf 0)), (1, .int x1), (2, .int x2)]) hx hb nd_Ref_lock_68 hl (k := 3) rfl (by rfl) (by decide) rfl (fun ls hl => ?_)
                        refine lv_goto (tgt := 49) hx hb nd_Ref_lock_71 (by decide) ?_
                        exact ih_49 (v3_49 + (1 : Int32)) (by omega) (by omega) hM _ _ hP hD hS _ (lv_sub hl [1, 2, 3, 0] rfl)
                      · have c_59t := cr_eq c_59
                        rw [if_pos c_59] at hM
                        refine lv_bipush (v := -16) hx hb nd_Ref_lock_65 (by decide) ?_
                        exact W.iret (v := (-16 : Int32)) hx hb hr (fun t ht hW => ⟨⟨(-16 : Int32), rf, rfl, ⟨by rw [hT, ← hM], by rw [hT, ← hM], hR_rf⟩, by rw [ht]; exact hP, va_K.moved hW.alike hK, hD⟩, hS.F ht⟩) hS.2.2 nd_Ref_lock_67
                exact lp_49 9 x2 (by omega) (by omega) hM _ _ hP hD hS _ hl
            · have c_8t := cr_nle c_8
              rw [if_neg c_8] at hM
              refine lv_bipush (v := -3) hx hb nd_Ref_lock_40 (by decide) ?_
              exact W.iret (v := (-3 : Int32)) hx hb hr (fun t ht hW => ⟨⟨(-3 : Int32), rf, rfl, ⟨by rw [hT, ← hM], by rw [hT, ← hM], hR_rf⟩, by rw [ht]; exact hP, va_K.moved hW.alike hK, hD⟩, hS.F ht⟩) hS.2.2 nd_Ref_lock_42
          · have c_5t := cr_eq c_5
            rw [if_pos c_5] at hM
            refine lv_bipush (v := -2) hx hb nd_Ref_lock_28 (by decide) ?_
            exact W.iret (v := (-2 : Int32)) hx hb hr (fun t ht hW => ⟨⟨(-2 : Int32), rf, rfl, ⟨by rw [hT, ← hM], by rw [hT, ← hM], hR_rf⟩, by rw [ht]; exact hP, va_K.moved hW.alike hK, hD⟩, hS.F ht⟩) hS.2.2 nd_Ref_lock_30
    · have c_2t := cr_nle c_2
      rw [if_neg c_2] at hM
      refine lv_iconst (v := -1) hx hb nd_Ref_lock_10 (by decide) ?_
      exact W.iret (v := (-1 : Int32)) hx hb hr (fun t ht hW => ⟨⟨(-1 : Int32), rf, rfl, ⟨by rw [hT, ← hM], by rw [hT, ← hM], hR_rf⟩, by rw [ht]; exact hP, va_K.moved hW.alike hK, hD⟩, hS.F ht⟩) hS.2.2 nd_Ref_lock_11
