theorem nz_cO {t : FieldType} {a : Array Value} {u : State} (h : (Cond.arrayOver (.array t)).before a u = true) : ∃ (c : ClassId) (k : Class) (comp : ClassId), u.vm.findClass ("[" ++ (FieldType.array t).toString) = some c ∧ u.vm.classes[c]? = some k ∧ k.kind = .array comp (.array t) := by
  simp only [Cond.before, Cond.holds, Cond.value, beq_iff_eq] at h
  cases hc : u.vm.findClass (FieldType.array t).toString with
  | none => simp [hc] at h
  | some comp =>
    simp only [hc, Option.bind_some, Option.bind_eq_some_iff, Option.map_eq_some_iff] at h
    obtain ⟨c, -, k, hk, hb⟩ := h
    cases hkind : k.kind with
    | array component ty =>
      rw [hkind] at hb
      simp at hb
      exact ⟨c, k, component, hb.2, hk, by rw [hkind, hb.1]⟩
    | _ => rw [hkind] at hb; simp at hb
set_option maxHeartbeats 4000000 in
set_option maxRecDepth 100000 in
theorem whole_open {p : Program} {e : Env} {s : State} {m : MethodId} {below : List Frame} {meth : Method} {c : Code} (l : Launch) {b L : Nat} {xs : Nat → Int32} (hL : L ≤ 3072) (C0 : lw_At p s m meth c b L xs) (Sim : Nat → cr_S → Int64 → cr_S → cr_S → cr_S → cr_S → cr_S → cr_S → Int64 → (Nat → Int64) → Prop) (hRs : ∀ (N : Nat) (mn : cr_S) (lt : Int64) (pl : cr_S) (bd : cr_S) (lk : cr_S) (tr : cr_S) (tb : cr_S) (rf : cr_S) (lat : Int64) (ln : (Nat → Int64)), Sim N mn lt pl bd lk tr tb rf lat ln → cr_RPlan pl ∧ cr_RBoard bd ∧ cr_RLocks lk ∧ cr_RBoard tb ∧ cr_RRef rf) (s_skip : ∀ (N : Nat) (mn : cr_S) (lt : Int64) (pl : cr_S) (bd : cr_S) (lk : cr_S) (tr : cr_S) (tb : cr_S) (rf : cr_S) (lat : Int64) (ln : (Nat → Int64)), Sim N mn lt pl bd lk tr tb rf lat ln → Sim (N + 1) mn lt pl bd lk tr tb rf lat ln) (s_task : ∀ (N : Nat) (mn : cr_S) (lt : Int64) (pl : cr_S) (bd : cr_S) (lk : cr_S) (tr : cr_S) (tb : cr_S) (rf : cr_S) (lat : Int64) (ln : (Nat → Int64)) (y0 : Int32) (y1 : Int32), N < 512 → Sim N mn lt pl bd lk tr tb rf lat ln → (md_Main_task mn lt pl bd lk tr tb y0 y1).1 = (md_Ref_task rf lat ln y0 y1).1 ∧ Sim (N + 1) mn lt ((md_Main_task mn lt pl bd lk tr tb y0 y1).2) bd lk tr tb ((md_Ref_task rf lat ln y0 y1).2) lat ln) (s_resource : ∀ (N : Nat) (mn : cr_S) (lt : Int64) (pl : cr_S) (bd : cr_S) (lk : cr_S) (tr : cr_S) (tb : cr_S) (rf : cr_S) (lat : Int64) (ln : (Nat → Int64)), N < 512 → Sim N mn lt pl bd lk tr tb rf lat ln → (md_Main_resource mn lt pl bd lk tr tb).1 = (md_Ref_resource rf lat ln).1 ∧ Sim (N + 1) mn lt ((md_Main_resource mn lt pl bd lk tr tb).2) bd lk tr tb ((md_Ref_resource rf lat ln).2) lat ln) (s_uses : ∀ (N : Nat) (mn : cr_S) (lt : Int64) (pl : cr_S) (bd : cr_S) (lk : cr_S) (tr : cr_S) (tb : cr_S) (rf : cr_S) (lat : Int64) (ln : (Nat → Int64)) (y0 : Int32) (y1 : Int32) (y2 : Int64), N < 512 → Sim N mn lt pl bd lk tr tb rf lat ln → (md_Main_uses mn lt pl bd lk tr tb y0 y1 y2).1 = (md_Ref_uses rf lat ln y0 y1 y2).1 ∧ Sim (N + 1) mn lt ((md_Main_uses mn lt pl bd lk tr tb y0 y1 y2).2) bd lk tr tb rf lat ((md_Ref_uses rf lat ln y0 y1 y2).2)) (s_ceiling : ∀ (N : Nat) (mn : cr_S) (lt : Int64) (pl : cr_S) (bd : cr_S) (lk : cr_S) (tr : cr_S) (tb : cr_S) (rf : cr_S) (lat : Int64) (ln : (Nat → Int64)) (y0 : Int32), N < 512 → Sim N mn lt pl bd lk tr tb rf lat ln → (md_Main_ceiling mn lt pl bd lk tr tb y0) = (md_Ref_ceiling rf lat ln y0)) (s_step : ∀ (N : Nat) (mn : cr_S) (lt : Int64) (pl : cr_S) (bd : cr_S) (lk : cr_S) (tr : cr_S) (tb : cr_S) (rf : cr_S) (lat : Int64) (ln : (Nat → Int64)) (y0 : Int32) (y1 : Int32) (y2 : Int32) (y3 : Int64), N < 512 → Sim N mn lt pl bd lk tr tb rf lat ln → (md_Main_step mn lt pl bd lk tr tb y0 y1 y2 y3).1 = (md_Ref_step rf lat ln y0 y1 y2 y3).1 ∧ Sim (N + 1) ((md_Main_step mn lt pl bd lk tr tb y0 y1 y2 y3).2.1) ((md_Main_step mn lt pl bd lk tr tb y0 y1 y2 y3).2.2.1) pl ((md_Main_step mn lt pl bd lk tr tb y0 y1 y2 y3).2.2.2) lk tr tb ((md_Ref_step rf lat ln y0 y1 y2 y3).2.1) ((md_Ref_step rf lat ln y0 y1 y2 y3).2.2) ln) (s_rank : ∀ (N : Nat) (mn : cr_S) (lt : Int64) (pl : cr_S) (bd : cr_S) (lk : cr_S) (tr : cr_S) (tb : cr_S) (rf : cr_S) (lat : Int64) (ln : (Nat → Int64)) (y0 : Int32), N < 512 → Sim N mn lt pl bd lk tr tb rf lat ln → (md_Main_rank mn lt pl bd lk tr tb y0) = (md_Ref_rank rf lat ln y0)) (s_holder : ∀ (N : Nat) (mn : cr_S) (lt : Int64) (pl : cr_S) (bd : cr_S) (lk : cr_S) (tr : cr_S) (tb : cr_S) (rf : cr_S) (lat : Int64) (ln : (Nat → Int64)) (y0 : Int32), N < 512 → Sim N mn lt pl bd lk tr tb rf lat ln → (md_Main_holder mn lt pl bd lk tr tb y0) = (md_Ref_holder rf lat ln y0)) (s_blocking : ∀ (N : Nat) (mn : cr_S) (lt : Int64) (pl : cr_S) (bd : cr_S) (lk : cr_S) (tr : cr_S) (tb : cr_S) (rf : cr_S) (lat : Int64) (ln : (Nat → Int64)) (y0 : Int32), N < 512 → Sim N mn lt pl bd lk tr tb rf lat ln → (md_Main_blocking mn lt pl bd lk tr tb y0) = (md_Ref_blocking rf lat ln y0)) (s_lock : ∀ (N : Nat) (mn : cr_S) (lt : Int64) (pl : cr_S) (bd : cr_S) (lk : cr_S) (tr : cr_S) (tb : cr_S) (rf : cr_S) (lat : Int64) (ln : (Nat → Int64)) (y0 : Int32) (y1 : Int32), N < 512 → Sim N mn lt pl bd lk tr tb rf lat ln → (md_Main_lock mn lt pl bd lk tr tb y0 y1).1 = (md_Ref_lock rf lat ln y0 y1).1 ∧ Sim (N + 1) mn lt pl bd ((md_Main_lock mn lt pl bd lk tr tb y0 y1).2) tr tb ((md_Ref_lock rf lat ln y0 y1).2) lat ln) (s_ring : ∀ (N : Nat) (mn : cr_S) (lt : Int64) (pl : cr_S) (bd : cr_S) (lk : cr_S) (tr : cr_S) (tb : cr_S) (rf : cr_S) (lat : Int64) (ln : (Nat → Int64)), N < 512 → Sim N mn lt pl bd lk tr tb rf lat ln → (md_Main_ring mn lt pl bd lk tr tb) = (md_Ref_ring rf lat ln)) (s_lower : ∀ (N : Nat) (mn : cr_S) (lt : Int64) (pl : cr_S) (bd : cr_S) (lk : cr_S) (tr : cr_S) (tb : cr_S) (rf : cr_S) (lat : Int64) (ln : (Nat → Int64)) (y0 : Int32) (y1 : Int32), N < 512 → Sim N mn lt pl bd lk tr tb rf lat ln → (md_Main_lower mn lt pl bd lk tr tb y0 y1) = (md_Ref_lower rf lat ln y0 y1)) (s_plain : ∀ (N : Nat) (mn : cr_S) (lt : Int64) (pl : cr_S) (bd : cr_S) (lk : cr_S) (tr : cr_S) (tb : cr_S) (rf : cr_S) (lat : Int64) (ln : (Nat → Int64)) (y0 : Int64), N < 512 → Sim N mn lt pl bd lk tr tb rf lat ln → (md_Main_plain mn lt pl bd lk tr tb y0).1 = (md_Ref_plain rf lat ln y0).1 ∧ Sim (N + 1) mn lt pl bd lk ((md_Main_plain mn lt pl bd lk tr tb y0).2.1) ((md_Main_plain mn lt pl bd lk tr tb y0).2.2) ((md_Ref_plain rf lat ln y0).2) lat ln) (s_init : Sim 0 (fun _ _ => 0) 0 (fun _ _ => 0) (fun _ _ => 0) (fun _ _ => 0) (fun _ _ => 0) (fun _ _ => 0) (fun _ _ => 0) 0 (fun _ => 0)) : W p l e room_1 s m #[Value.ref b] below meth c s.heap [] 0 0 (lw_Z below #[Value.ref b] s) (entryFrame m ([Value.ref b] : List Value).toArray 4) := by
  obtain ⟨hx, hb, hr, hml, hown, hts0, hX, hbl, hlocks, hgv⟩ := id C0
  have hts : ∀ w ∈ ng_tbl, w.before #[Value.ref b] s = true := fun w h => hts0 w (ng_sub w h)
  have hA : ∀ q : Nat, s.heap.size ≤ q → (fun q : Nat => s.heap.size ≤ q) q := fun _ h => h
  obtain ⟨c0, i0, hKn0⟩ := u_known (C := "CeilingRows$Plan") (T := nf_Plan) (N := 7) (n := 7) hts nin_Plan (hts _ tw_19)
  obtain ⟨c1, i1, hKn1⟩ := u_known (C := "CeilingRows$Board") (T := nf_Board) (N := 7) (n := 7) hts nin_Board (hts _ tw_62)
  obtain ⟨c2, i2, hKn2⟩ := u_known (C := "CeilingRows$Locks") (T := nf_Locks) (N := 4) (n := 4) hts nin_Locks (hts _ tw_95)
  obtain ⟨c3, i3, hKn3⟩ := u_known (C := "CeilingRows$Trial") (T := nf_Trial) (N := 5) (n := 5) hts nin_Trial (hts _ tw_114)
  obtain ⟨c4, i4, hKn4⟩ := u_known (C := "CeilingRows") (T := nf_Main) (N := 6) (n := 6) hts nin_Main (hts _ tw_11)
  obtain ⟨c5, i5, hKn5⟩ := u_known (C := "CeilingRowsModel") (T := nf_Ref) (N := 22) (n := 22) hts nin_Ref (hts _ tw_408)
  obtain ⟨dC, dI, hKc0⟩ : ∃ (dC : Nat → ClassId) (dI : Nat → Nat → Nat), ∀ (k : Nat) (q : vw_C), vwCl[k]? = some q → u_Kn s q.1 q.2.1 q.2.2 (dC k) (dI k) := by
    refine ⟨fun k => match k with | 0 => c0 | 1 => c1 | 2 => c2 | 3 => c3 | 4 => c4 | _ => c5, fun k => match k with | 0 => i0 | 1 => i1 | 2 => i2 | 3 => i3 | 4 => i4 | _ => i5, ?_⟩
    intro k q hq
    match k, hq with
    | 0, hq => cases hq; exact hKn0
    | 1, hq => cases hq; exact hKn1
    | 2, hq => cases hq; exact hKn2
    | 3, hq => cases hq; exact hKn3
    | 4, hq => cases hq; exact hKn4
    | 5, hq => cases hq; exact hKn5
    | k + 6, hq => simp [vwCl] at hq
  have hover : (Cond.arrayOver (.array .int)).before #[Value.ref b] s = true := (hts0 _ (List.mem_append_right _ (List.mem_of_getElem? (i := 25) rfl)))
  have hZ : nz_all s := ⟨nz_over (Vm.Alike.refl _) hover, va_Nw.of rfl (hts0 _ (List.mem_append_right _ (List.mem_of_getElem? (i := 20) rfl))), va_Nw.of rfl (hts0 _ (List.mem_append_right _ (List.mem_of_getElem? (i := 96) rfl)))⟩
  obtain ⟨cI, kI, oI, fI, gI, eI⟩ := Cond.arrayClass_spec (hts _ tw_60)
  obtain ⟨cZ, kZ, oZ, fZ, gZ, eZ⟩ := Cond.arrayClass_spec (hts _ tw_157)
  obtain ⟨cJ, kJ, oJ, fJ, gJ, eJ⟩ := Cond.arrayClass_spec (hts _ tw_480)
  obtain ⟨cO, kO, oO, fO, gO, eO⟩ := nz_cO hover
  have hK : va_K (dC, dI) vwCl [(cI, .int), (cZ, .boolean), (cO, .array .int), (cJ, .long)] s := by
    refine ⟨hKc0, fun k q hq => ?_⟩
    match k, hq with
    | 0, hq => cases hq; exact ⟨fun n z => ⟨fun k h => (by cases h), kI, gI, oI, eI⟩, fI⟩
    | 1, hq => cases hq; exact ⟨fun n z => ⟨fun k h => (by cases h), kZ, gZ, oZ, eZ⟩, fZ⟩
    | 2, hq => cases hq; exact ⟨fun n z => ⟨fun k h => (by cases h), kO, gO, oO, eO⟩, fO⟩
    | 3, hq => cases hq; exact ⟨fun n z => ⟨fun k h => (by cases h), kJ, gJ, oJ, eJ⟩, fJ⟩
    | k + 4, hq => simp at hq
  have hKc := hK.sub (tys' := [(cI, .int), (cZ, .boolean), (cO, .array .int)]) [0, 1, 2] rfl
  have hKr := hK.sub (tys' := [(cI, .int), (cZ, .boolean), (cJ, .long)]) [0, 1, 3] rfl
  have hS : va_S (fun q : Nat => s.heap.size ≤ q) s.heap s.heap [] := va_S.rf
  have hP : va_P (dC, dI) vwCl [] s.heap := fun k q h => by simp at h
  have hD : va_D (fun q : Nat => s.heap.size ≤ q) [] := ⟨fun i j p q h => by simp at h, fun k q h => by simp at h⟩
  have hl := lv_entry ([.ref b]) (n := 4) (Nat.le_of_ble_eq_true rfl)
  rw [lg_entry_eq]
  generalize (lg_sl ([.ref b]) ++ List.replicate (4 - (lg_sl ([.ref b])).length) Slot.unset).toArray = ls at hl ⊢
  have hl : lv_has ls 4 [(0, .ref b)] := hl
  refine va_new (ci := 4) (fs := [.null, .null, .null, .null, .null, .long 0]) (C := "CeilingRows") (T := nf_Main) (N := 6) hx hb hts nin_Main nt_Main nto_Main hown (hts _ tw_10) (hts _ tw_11) (hts _ tw_1) hK hP hD hS hA rfl (fun j hj => by rcases (show j = 0 ∨ j = 1 ∨ j = 2 ∨ j = 3 ∨ j = 4 ∨ j = 5 by omega) with rfl | rfl | rfl | rfl | rfl | rfl <;> rfl) (Nat.le_of_ble_eq_true rfl) (Nat.le_of_ble_eq_true rfl) nd_Law_law_0 (fun q0 H hP hD hS => ?_)
  have hP : va_P (dC, dI) vwCl [(q0, .inr (4, [.null, .null, .null, .null, .null, .long 0]))] H := hP
  have hD : va_D (fun q : Nat => s.heap.size ≤ q) [(q0, .inr (4, [.null, .null, .null, .null, .null, .long 0]))] := hD
  refine lv_dup hx hb nd_Law_law_3 rfl ?_
  have hPc := hP
  have hDc := hD
  have hFc := cr_FW hDc hS hA
  refine va_callv (va_runI (As := []) (rest := [.ref q0]) ⟨hx, hb, hml, hown, hts⟩ (ct_Main_init l dC dI cI cZ cO q0 H.size) (cwI 0 hts (ng_C tw_14) rfl rfl rfl (hts _ tw_1) (hts _ tw_12) (hts _ tw_13) rfl (by decide +kernel) ⟨Nat.le_of_ble_eq_true rfl, Nat.le_of_ble_eq_true rfl⟩) ⟨fun a U g mk q => by obtain ⟨q0, q1, qP, qK, qD, qZ⟩ := q; exact ⟨q0, q1, qP, va_K.moved (u := U) (U := U.calling g mk a) (Vm.Alike.refl U.vm) qK, qD, nz_same (u := U) (U := U.calling g mk a) rfl qZ⟩, fun U hU hW => ⟨rfl, by rw [hU], by rw [hU]; exact hPc, va_K.moved hW.alike hKc, hDc.weaken (fun _ _ _ _ => trivial), nz_warm hW hZ⟩⟩ rfl rfl hl.1 rfl (lv_room (Nat.le_of_ble_eq_true rfl)) nd_Law_law_4 ⟨Nat.le_of_ble_eq_true rfl, Nat.le_of_ble_eq_true rfl⟩) hS (fun q _ h => hFc q h) hFc (fun u t H1 locs ht hvm hw hB hz1 hk1 hS => ?_)
  obtain ⟨amn, apl, abd, alk, atr, atb⟩ := u
  dsimp only at hw hB
  obtain ⟨hP1, hK1, hD1⟩ := hB
  rw [ht] at hP1
  subst hw
  have hP : va_P (dC, dI) vwCl (cw_Main cI cZ cO amn apl abd alk atr (fun _ _ => 0) 0 ++ cw_Plan cI cZ cO apl (fun _ _ => 0) ++ cw_Board cI cZ cO abd apl (fun _ _ => 0) ++ cw_Locks cI cZ cO alk (fun _ _ => 0) ++ cw_Trial cI cZ cO atr apl atb (fun _ _ => 0) ++ cw_Board cI cZ cO atb apl (fun _ _ => 0)) H1 := hP1
  have hD : va_D (fun q : Nat => s.heap.size ≤ q) (cw_Main cI cZ cO amn apl abd alk atr (fun _ _ => 0) 0 ++ cw_Plan cI cZ cO apl (fun _ _ => 0) ++ cw_Board cI cZ cO abd apl (fun _ _ => 0) ++ cw_Locks cI cZ cO alk (fun _ _ => 0) ++ cw_Trial cI cZ cO atr apl atb (fun _ _ => 0) ++ cw_Board cI cZ cO atb apl (fun _ _ => 0)) := cr_Dw hD1 hFc
  generalize H1 = H at hP hS ⊢
  refine lv_astore_n (lv' := [(1, .ref (amn 0)), (0, .ref b)]) hx hb nd_Law_law_7 rfl hl (by decide) rfl (fun ls hl => ?_)
  refine va_new (ci := 5) (fs := [.int 0, .null, .null, .null, .null, .int 0, .null, .int 0, .null, .null, .null, .long 0, .null, .null, .null, .null, .int 0, .null, .null, .null, .null, .null]) (C := "CeilingRowsModel") (T := nf_Ref) (N := 22) hx hb hts nin_Ref nt_Ref nto_Ref hown (hts _ tw_407) (hts _ tw_408) (hts _ tw_6) hK hP hD hS hA rfl (fun j hj => by rcases (show j = 0 ∨ j = 1 ∨ j = 2 ∨ j = 3 ∨ j = 4 ∨ j = 5 ∨ j = 6 ∨ j = 7 ∨ j = 8 ∨ j = 9 ∨ j = 10 ∨ j = 11 ∨ j = 12 ∨ j = 13 ∨ j = 14 ∨ j = 15 ∨ j = 16 ∨ j = 17 ∨ j = 18 ∨ j = 19 ∨ j = 20 ∨ j = 21 by omega) with rfl | rfl | rfl | rfl | rfl | rfl | rfl | rfl | rfl | rfl | rfl | rfl | rfl | rfl | rfl | rfl | rfl | rfl | rfl | rfl | rfl | rfl <;> rfl) (Nat.le_of_ble_eq_true rfl) (Nat.le_of_ble_eq_true rfl) nd_Law_law_8 (fun q1 H hP hD hS => ?_)
  have hP : va_P (dC, dI) vwCl ((cw_Main cI cZ cO amn apl abd alk atr (fun _ _ => 0) 0 ++ cw_Plan cI cZ cO apl (fun _ _ => 0) ++ cw_Board cI cZ cO abd apl (fun _ _ => 0) ++ cw_Locks cI cZ cO alk (fun _ _ => 0) ++ cw_Trial cI cZ cO atr apl atb (fun _ _ => 0) ++ cw_Board cI cZ cO atb apl (fun _ _ => 0)) ++ [(q1, .inr (5, [.int 0, .null, .null, .null, .null, .int 0, .null, .int 0, .null, .null, .null, .long 0, .null, .null, .null, .null, .int 0, .null, .null, .null, .null, .null]))]) H := hP
  have hD : va_D (fun q : Nat => s.heap.size ≤ q) ((cw_Main cI cZ cO amn apl abd alk atr (fun _ _ => 0) 0 ++ cw_Plan cI cZ cO apl (fun _ _ => 0) ++ cw_Board cI cZ cO abd apl (fun _ _ => 0) ++ cw_Locks cI cZ cO alk (fun _ _ => 0) ++ cw_Trial cI cZ cO atr apl atb (fun _ _ => 0) ++ cw_Board cI cZ cO atb apl (fun _ _ => 0)) ++ [(q1, .inr (5, [.int 0, .null, .null, .null, .null, .int 0, .null, .int 0, .null, .null, .null, .long 0, .null, .null, .null, .null, .int 0, .null, .null, .null, .null, .null]))]) := hD
  refine lv_dup hx hb nd_Law_law_11 rfl ?_
  have hPc := cr_PR hP
  have hDc := cr_DR hD
  have hFc := cr_FW hDc hS hA
  refine va_callv (va_runI (As := []) (rest := [.ref q1]) ⟨hx, hb, hml, hown, hts⟩ (ct_Ref_init l dC dI cI cZ cJ q1 H.size) (cwI 0 hts (ng_C tw_411) rfl rfl rfl (hts _ tw_6) (hts _ tw_409) (hts _ tw_410) rfl (by decide +kernel) ⟨Nat.le_of_ble_eq_true rfl, Nat.le_of_ble_eq_true rfl⟩) ⟨fun a U g mk q => by obtain ⟨q0, q1, qP, qK, qD, qZ⟩ := q; exact ⟨q0, q1, qP, va_K.moved (u := U) (U := U.calling g mk a) (Vm.Alike.refl U.vm) qK, qD, nz_same (u := U) (U := U.calling g mk a) rfl qZ⟩, fun U hU hW => ⟨rfl, by rw [hU], by rw [hU]; exact hPc, va_K.moved hW.alike hKr, hDc.weaken (fun _ _ _ _ => trivial), nz_warm hW hZ⟩⟩ rfl rfl hl.1 rfl (lv_room (Nat.le_of_ble_eq_true rfl)) nd_Law_law_12 ⟨Nat.le_of_ble_eq_true rfl, Nat.le_of_ble_eq_true rfl⟩) hS (fun q _ h => hFc q h) hFc (fun u t H1 locs ht hvm hw hB hz1 hk1 hS => ?_)
  obtain ⟨arf, rfl⟩ : ∃ z, z = u := ⟨_, rfl⟩
  obtain ⟨hP1, hK1, hD1⟩ := hB
  rw [ht] at hP1
  subst hw
  obtain ⟨hP, hD⟩ := cr_jR hP hD hk1 hFc hP1 hD1
  generalize H1 = H at hP hS ⊢
  refine lv_astore_n (lv' := [(2, .ref (arf 0)), (1, .ref (amn 0)), (0, .ref b)]) hx hb nd_Law_law_15 rfl hl (by decide) rfl (fun ls hl => ?_)
  refine lv_iconst (v := nI (6 * 0)) hx hb nd_Law_law_16 (by decide) ?_
  refine lv_istore_n (lv' := [(3, .int (nI (6 * 0))), (2, .ref (arf 0)), (1, .ref (amn 0)), (0, .ref b)]) hx hb nd_Law_law_17 rfl hl (by decide) rfl (fun ls hl => ?_)
  refine W.widen (k := 600000) (n := 7302250) (Nat.le_of_ble_eq_true rfl) (Nat.le_of_ble_eq_true rfl) ?_
  exact law_open hL C0 Sim hRs s_skip s_task s_resource s_uses s_ceiling s_step s_rank s_holder s_blocking s_lock s_ring s_lower s_plain 513 0 (by omega) (by omega) (fun _ _ => 0) 0 (fun _ _ => 0) (fun _ _ => 0) (fun _ _ => 0) (fun _ _ => 0) (fun _ _ => 0) (fun _ _ => 0) 0 (fun _ => 0) s_init _ _ hK hP hD hS _ (lv_sub hl [3, 2, 1, 0] rfl)
