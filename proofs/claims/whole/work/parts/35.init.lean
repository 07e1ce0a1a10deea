/-! ===== BEGIN new T[n][m]: the outer array a place, the inner ones among the pooled ===== -/
/-- f, but v at every address of l -/
def vr_up {α : Type} (f : Nat → α) (l : List Nat) (v : α) : Nat → α := fun a => if a ∈ l then v else f a
theorem vr_up_in {α : Type} {f : Nat → α} {l : List Nat} {v : α} {a : Nat} (h : a ∈ l) : vr_up f l v a = v := if_pos h
theorem vr_up_ne {α : Type} {f : Nat → α} {l : List Nat} {v : α} {a : Nat} (h : a ∉ l) : vr_up f l v a = f a := if_neg h
theorem vr_rows {L l : List Nat} {f : Nat → va_E} {e : va_E} (h : ∀ a, a ∈ l → a ∉ L) : va_pl L f ++ l.map (fun a => (a, e)) = va_pl (L ++ l) (vr_up f l e) := by
  unfold va_pl
  rw [List.map_append]
  congr 1
  · apply List.map_congr_left
    intro a ha
    rw [vr_up_ne (fun q => h a q ha)]
  · apply List.map_congr_left
    intro a ha
    rw [vr_up_in ha]
theorem vr_lay {X rows : va_W} {x : Nat × va_E} {pl : va_W} {D : va_G} {cl : List vw_C} {H : Heap} (hP : va_P D cl (((X ++ pl) ++ [x]) ++ rows) H) : va_P D cl ((X ++ [x]) ++ (pl ++ rows)) H := by
  rw [List.append_assoc (X ++ pl)] at hP
  have h := va_P.swap hP
  rw [← List.append_assoc X] at h
  have h2 := va_P.swap h
  rw [List.append_assoc (X ++ [x])] at h2
  exact h2
theorem vr_layD {X rows : va_W} {x : Nat × va_E} {pl : va_W} {A : Nat → Prop} (hD : va_D A (((X ++ pl) ++ [x]) ++ rows)) : va_D A ((X ++ [x]) ++ (pl ++ rows)) := by
  rw [List.append_assoc (X ++ pl)] at hD
  have h := va_D.swap hD
  rw [← List.append_assoc X] at h
  have h2 := va_D.swap h
  rw [List.append_assoc (X ++ [x])] at h2
  exact h2
theorem vr_outer (c : ClassId) (N h0 : Nat) : ∀ i : Nat, Jvm.Free.Multi.outerC c N h0 i = arrV c N (fun j => va_rf (if j < i then some (h0 + 1 + j) else none))
  | 0 => by
    show ({ cls := c, slots := Array.replicate N .null, vm := .none } : Cell) = _
    rw [arrV_new]
    refine congrArg (arrV c N) (funext fun j => ?_)
    simp [va_rf]
  | i + 1 => by
    show (Jvm.Free.Multi.outerC c N h0 i).setSlot i (.ref (h0 + 1 + i)) = _
    rw [vr_outer c N h0 i, arrV_store]
    refine congrArg (arrV c N) (funext fun j => ?_)
    by_cases e : j = i
    · subst e
      simp [updV, va_rf]
    · by_cases h : j < i
      · simp [updV, e, h, Nat.lt_succ_of_lt h]
      · simp [updV, e, h, show ¬ j < i + 1 by omega]
section VGM
variable {p : Program} {l : Launch} {e : Env} {R : Room} {s : State} {m : MethodId} {args : Array Value} {below : List Frame} {meth : Method} {c : Code} {H : Heap} {locs : List Loc} {cells slots : Nat} {Q : State → Prop}
variable {cc : ByteArray} {pc : Nat} {ls : Array Slot} {rest : List Value} {D : va_G} {cl : List vw_C} {A : Nat → Prop} {a : Nat} {tys : List (ClassId × FieldType)} {ws : va_W} {H0 : Heap}
theorem va_mna {X : va_W} {L : List Nat} {f : Nat → va_E} {cc : ByteArray} (hexec : p.tables.exec = Jvm.exec) (hb : c.code = cc) {own : String} {index : Nat} {ty : FieldType} {cy : ClassId} (hown : s.vm.findClass own = some m.cls) (hclink : (Cond.classLink own index ("[" ++ (FieldType.array ty).toString)).before args s = true) (hover : (Cond.arrayOver (.array ty)).before args s = true) (harr : (Cond.arrayClass ty).before args s = true) (hcy : s.vm.findClass (FieldType.array ty).toString = some cy)
    (hK : va_K D cl tys s) (hP : va_P D cl (X ++ va_pl L f) H) (hD : va_D A (X ++ va_pl L f)) (hS : va_S A H0 H locs) (hA : ∀ q, H0.size ≤ q → A q) {n k : Int32} {N' K' : Nat} {z : vp_A} (hn : ¬ n < 0) (hk : ¬ k < 0) (hN : n.toNatClampNeg = N') (hM : k.toNatClampNeg = K')
    (hb1 : N' * 4 ≤ 536870912) (hb2 : K' * componentBytes ty ≤ 536870912) (hb3 : K' ≤ 536870912) (hdf : fits ty (defaultValue ty) = true) (hdd : (defaultValue ty).isDefault = true) (hcells : cells + (1 + N') ≤ R.cells) (hslots : slots + (N' + N' * K') ≤ R.slots) (hz : ∀ c : ClassId, Jvm.Free.Multi.innerC c K' (defaultValue ty) = vp_cell c z) (hdg : decode cc pc = .ok (.multianewarray index 2, 4))
    (kk : ∀ (q : Nat) (r : Nat → Nat) (cA : ClassId) (H1 : Heap), (∀ i j : Nat, i < N' → j < N' → r i = r j → i = j) → (∀ i : Nat, i < N' → r i ∉ L) → va_K D cl (tys ++ [(cA, .array ty)]) s →
      va_P D cl ((X ++ [(q, .inl (cA, N', .inr (.inr (.inr (.inr (fun i => if i < N' then some (r i) else none))))))]) ++ va_pl (L ++ (List.range N').map r) (vr_up f ((List.range N').map r) (.inl (cy, z)))) H1 → va_D A ((X ++ [(q, .inl (cA, N', .inr (.inr (.inr (.inr (fun i => if i < N' then some (r i) else none))))))]) ++ va_pl (L ++ (List.range N').map r) (vr_up f ((List.range N').map r) (.inl (cy, z)))) → va_S A H0 H1 locs →
      W p l e R s m args below meth c H1 locs (cells + 1 + N') (slots + N' + N' * K') Q (F0 m (pc + 4) ls (.ref q :: rest))) : W p l e R s m args below meth c H locs cells slots Q (F0 m pc ls (.int k :: .int n :: rest)) := by
  subst hN
  subst hM
  intro T hT Xs
  obtain ⟨vm₁, cA, comp, -, fA, fC, hO, -, X', step⟩ := Xs.multianewarray2F hexec hown hclink hover harr (g := F0 m pc ls (.int k :: .int n :: rest)) rfl (by rw [hb]; exact hdg) rfl hn hk hb1 hb2 hb3 hdf hdd hcells hslots
  have ec : some cy = some comp := hcy.symm.trans fC
  cases ec
  generalize hF : Jvm.Free.Multi.fill (T.setVm vm₁) cA cy n.toNatClampNeg k.toNatClampNeg (defaultValue ty) n.toNatClampNeg = F at X' step
  have hTh : (T.setVm vm₁).heap = H := hT
  obtain ⟨f1, f2, -, -⟩ := Jvm.Free.Multi.fill_facts (T.setVm vm₁) cA cy n.toNatClampNeg k.toNatClampNeg (defaultValue ty) n.toNatClampNeg
  rw [hF, hTh] at f1 f2
  have hold : ∀ x : Nat, x < H.size → F.heap[x]? = H[x]? := fun x hx => by
    have := Jvm.Free.Multi.fill_old (T.setVm vm₁) cA cy n.toNatClampNeg k.toNatClampNeg (defaultValue ty) (a := x) (by rw [hTh]; exact hx) n.toNatClampNeg
    rw [hF, hTh] at this
    exact this
  have hrow : ∀ j : Nat, j < n.toNatClampNeg → F.heap[H.size + 1 + j]? = some (vp_cell cy z) := fun j hj => by
    have := Jvm.Free.Multi.fill_inner (T.setVm vm₁) cA cy n.toNatClampNeg k.toNatClampNeg (defaultValue ty) n.toNatClampNeg j hj
    rw [hF, hTh, hz] at this
    exact this
  have hout : Jvm.Free.Multi.outerC cA n.toNatClampNeg H.size n.toNatClampNeg = vp_cell cA (n.toNatClampNeg, .inr (.inr (.inr (.inr (fun i => if i < n.toNatClampNeg then some (H.size + 1 + i) else none))))) := by
    rw [vp_cell_q]
    exact vr_outer cA n.toNatClampNeg H.size n.toNatClampNeg
  rw [hout] at f2
  have hlt : ∀ a, a ∈ L → a < H.size := fun a ha => by
    obtain ⟨k9, hk9⟩ := va_pl_get (X := X) (f := f) ha
    exact (hP k9 _ hk9).lt
  have hnl : ∀ i : Nat, i < n.toNatClampNeg → H.size + 1 + i ∉ L := fun i _ h => by
    have := hlt _ h
    omega
  have hnm : ∀ a, a ∈ (List.range n.toNatClampNeg).map (fun i => H.size + 1 + i) → a ∉ L := fun a ha h => by
    obtain ⟨i, -, rfl⟩ := List.mem_map.mp ha
    have := hlt _ h
    omega
  have hP0 : va_P D cl (X ++ va_pl L f) F.heap := hP.kept (fun k9 x hx => hold x.1 ((hP k9 x hx).lt))
  have hP1 : va_P D cl ((X ++ va_pl L f) ++ [(H.size, .inl (cA, n.toNatClampNeg, .inr (.inr (.inr (.inr (fun i => if i < n.toNatClampNeg then some (H.size + 1 + i) else none))))))]) F.heap := hP0.app (fun k9 x hx => by
    have h0 : k9 < 1 := (List.getElem?_eq_some_iff.mp hx).1
    rw [show k9 = 0 by omega] at hx
    cases hx
    exact f2)
  have hP2 : va_P D cl (((X ++ va_pl L f) ++ [(H.size, .inl (cA, n.toNatClampNeg, .inr (.inr (.inr (.inr (fun i => if i < n.toNatClampNeg then some (H.size + 1 + i) else none))))))]) ++ ((List.range n.toNatClampNeg).map (fun i => H.size + 1 + i)).map (fun a => (a, .inl (cy, z)))) F.heap := hP1.app (fun k9 x hx => by
    obtain ⟨a, ha, rfl⟩ := List.mem_map.mp (List.mem_of_getElem? hx)
    obtain ⟨i, hi, rfl⟩ := List.mem_map.mp ha
    exact hrow i (List.mem_range.mp hi))
  have hD2 : va_D A (((X ++ va_pl L f) ++ [(H.size, .inl (cA, n.toNatClampNeg, .inr (.inr (.inr (.inr (fun i => if i < n.toNatClampNeg then some (H.size + 1 + i) else none))))))]) ++ ((List.range n.toNatClampNeg).map (fun i => H.size + 1 + i)).map (fun a => (a, .inl (cy, z)))) := by
    have hD1 := hD.push (e := .inl (cA, n.toNatClampNeg, .inr (.inr (.inr (.inr (fun i => if i < n.toNatClampNeg then some (H.size + 1 + i) else none)))))) hP rfl (hA _ hS.1)
    generalize hW1 : (X ++ va_pl L f) ++ [(H.size, .inl (cA, n.toNatClampNeg, .inr (.inr (.inr (.inr (fun i => if i < n.toNatClampNeg then some (H.size + 1 + i) else none))))))] = W1 at hD1 hP1 ⊢
    have hle : ∀ (k9 : Nat) (x : Nat × va_E), W1[k9]? = some x → x.1 ≤ H.size := fun k9 x hx => by
      rw [← hW1] at hx
      by_cases hl : k9 < (X ++ va_pl L f).length
      · rw [List.getElem?_append_left hl] at hx
        exact Nat.le_of_lt ((hP k9 x hx).lt)
      · rw [List.getElem?_append_right (by omega)] at hx
        have h0 : k9 - (X ++ va_pl L f).length < 1 := (List.getElem?_eq_some_iff.mp hx).1
        rw [show k9 - (X ++ va_pl L f).length = 0 by omega] at hx
        cases hx
        exact Nat.le_refl _
    have hr : ∀ (k9 : Nat) (x : Nat × va_E), (((List.range n.toNatClampNeg).map (fun i => H.size + 1 + i)).map (fun a => ((a, .inl (cy, z)) : Nat × va_E)))[k9]? = some x → x.1 = H.size + 1 + k9 := fun k9 x hx => by
      rw [List.getElem?_map, List.getElem?_map] at hx
      by_cases h9 : k9 < n.toNatClampNeg
      · rw [List.getElem?_range h9] at hx
        cases hx
        rfl
      · have hn0 : (List.range n.toNatClampNeg)[k9]? = none := List.getElem?_eq_none (by rw [List.length_range]; omega)
        rw [hn0] at hx
        cases hx
    refine ⟨fun i j x y hi hj hxy => ?_, fun k9 x hx => ?_⟩
    · by_cases h1 : i < W1.length <;> by_cases h2 : j < W1.length
      · rw [List.getElem?_append_left h1] at hi
        rw [List.getElem?_append_left h2] at hj
        exact hD1.1 i j x y hi hj hxy
      · rw [List.getElem?_append_left h1] at hi
        rw [List.getElem?_append_right (by omega)] at hj
        have := hle _ _ hi
        have := hr _ _ hj
        omega
      · rw [List.getElem?_append_right (by omega)] at hi
        rw [List.getElem?_append_left h2] at hj
        have := hle _ _ hj
        have := hr _ _ hi
        omega
      · rw [List.getElem?_append_right (by omega)] at hi hj
        have := hr _ _ hi
        have := hr _ _ hj
        omega
    · by_cases h1 : k9 < W1.length
      · rw [List.getElem?_append_left h1] at hx
        exact hD1.2 k9 x hx
      · rw [List.getElem?_append_right (by omega)] at hx
        have := hr _ _ hx
        exact hA _ (by have := hS.1; omega)
  have hAr : ArrOfT s cA (.array ty) := fun N9 z9 => by
    obtain ⟨-, k9, hk9, cm9, hkk9⟩ := (hO 0 0 0).1
    exact ⟨(fun q hq => by cases hq), k9, hk9, cm9, hkk9⟩
  have hK2 : va_K D cl (tys ++ [(cA, .array ty)]) s := ⟨hK.1, fun k9 x hx => by
    by_cases hl : k9 < tys.length
    · rw [List.getElem?_append_left hl] at hx
      exact hK.2 k9 x hx
    · rw [List.getElem?_append_right (by omega)] at hx
      have h0 : k9 - tys.length < 1 := (List.getElem?_eq_some_iff.mp hx).1
      rw [show k9 - tys.length = 0 by omega] at hx
      cases hx
      exact ⟨hAr, fA⟩⟩
  obtain ⟨t, a1, b1⟩ := kk H.size (fun i => H.size + 1 + i) cA F.heap (fun i j _ _ h => by have h9 : H.size + 1 + i = H.size + 1 + j := h; omega) hnl hK2 (by rw [← vr_rows hnm]; exact vr_lay hP2) (by rw [← vr_rows hnm]; exact vr_layD hD2) ⟨by rw [f1]; have := hS.1; omega, fun x h1 h2 => (hold x (Nat.lt_of_lt_of_le h1 hS.1)).trans (hS.2.1 x h1 h2), hS.2.2⟩ F rfl X'
  refine ⟨t, step t ?_, b1⟩
  have e : T.heap.size = H.size := by rw [hT]
  rw [e]
  exact a1
end VGM

/-! what an object's making needs beside the words that calls carry -/
theorem nz_over {t : FieldType} {a a' : Array Value} {u U : State} (hvm : u.vm.Alike U.vm) (h : (Cond.arrayOver (.array t)).before a u = true) : (Cond.arrayOver (.array t)).before a' U = true := by
  have h' := h
  simp only [Cond.before, Cond.holds, Cond.value, beq_iff_eq] at h'
  cases hc : u.vm.findClass (FieldType.array t).toString with
  | none => simp [hc] at h'
  | some comp =>
    simp only [hc, Option.bind_some, Option.bind_eq_some_iff, Option.map_eq_some_iff] at h'
    obtain ⟨c, h2, k, h3, h4⟩ := h'
    obtain ⟨k', hk', he⟩ := hvm.2.2 _ _ h3
    have hi : (U.vm.classes.findIdx? fun (x : Class) => match x.kind with | .array component _ => component == comp | _ => false) = some c := by
      have a1 := va_idx_bare U.vm comp
      have a2 := va_idx_bare u.vm comp
      have a3 : U.vm.bare = u.vm.bare := by first | exact hvm.bare_eq | exact hvm.bare_eq.symm
      rw [a3] at a1
      exact a1.symm.trans (a2.trans h2)
    have f1 : U.vm.findClass (FieldType.array t).toString = some comp := by rw [hvm.findClass]; exact hc
    simp only [Cond.before, Cond.holds, Cond.value, beq_iff_eq]
    rw [f1]
    simp only [Option.bind_some, Option.bind_eq_some_iff, Option.map_eq_some_iff]
    refine ⟨c, hi, k', hk', ?_⟩
    rw [he, hvm.findClass]
    exact h4
def nz_all (U : State) : Prop := (Cond.arrayOver (.array .int)).before #[] U = true ∧ va_Nw (.methodLinkNest "CeilingRows" 11 (⟨"CeilingRows$Plan", "<init>", "()V"⟩ : MethodName) "CeilingRows") U ∧ va_Nw (.methodLinkNest "CeilingRows" 27 (⟨"CeilingRows$Locks", "<init>", "()V"⟩ : MethodName) "CeilingRows") U
theorem nz_same {u U : State} (h : u.vm = U.vm) (hZ : nz_all u) : nz_all U := ⟨nz_over (by rw [h]; exact Vm.Alike.refl _) hZ.1, va_Nw.same rfl h hZ.2.1, va_Nw.same rfl h hZ.2.2⟩
theorem nz_warm {s U : State} (hW : s.WarmedH U.vm) (hZ : nz_all s) : nz_all U := ⟨nz_over hW.alike hZ.1, va_Nw.warmM hW hZ.2.1, va_Nw.warmM hW hZ.2.2⟩
theorem cr_gre {a r : Nat → Nat} {o n : Nat} (h : ∀ i, i < n → a (o + i) = r i) : (fun i => if i < n then some (r i) else none) = cr_gr a o n := by
  funext i
  unfold cr_gr
  by_cases e : i < n
  · rw [if_pos e, if_pos e, h i e]
  · rw [if_neg e, if_neg e]
section CRM
variable {p : Program} {l : Launch} {e : Env} {R : Room} {s : State} {m : MethodId} {args : Array Value} {below : List Frame} {meth : Method} {c : Code} {H : Heap} {locs : List Loc} {cells slots : Nat} {Q : State → Prop}
variable {cc : ByteArray} {pc : Nat} {ls : Array Slot} {rest : List Value} {D : va_G} {cl : List vw_C} {A : Nat → Prop} {ws : va_W} {H0 : Heap}
theorem cr_mna {cI cZ cO : ClassId} (hexec : p.tables.exec = Jvm.exec) (hb : c.code = cc) {own : String} {index : Nat} (hown : s.vm.findClass own = some m.cls) (hclink : (Cond.classLink own index "[[I").before args s = true) (hover : (Cond.arrayOver (.array .int)).before args s = true) (harr : (Cond.arrayClass .int).before args s = true)
    (hK : va_K D cl [(cI, .int), (cZ, .boolean), (cO, .array .int)] s) (hP : va_P D cl ws H) (hD : va_D A ws) (hS : va_S A H0 H locs) (hA : ∀ q, H0.size ≤ q → A q) {n k : Int32} {N' K' : Nat} (hn : ¬ n < 0) (hk : ¬ k < 0) (hN : n.toNatClampNeg = N') (hM : k.toNatClampNeg = K')
    (hb1 : N' * 4 ≤ 536870912) (hb2 : K' * 4 ≤ 536870912) (hb3 : K' ≤ 536870912) (hcells : cells + (1 + N') ≤ R.cells) (hslots : slots + (N' + N' * K') ≤ R.slots) (hdg : decode cc pc = .ok (.multianewarray index 2, 4))
    (kk : ∀ (q : Nat) (r : Nat → Nat) (H1 : Heap), va_P D cl ((ws ++ [(q, .inl (cO, N', .inr (.inr (.inr (.inr (fun i => if i < N' then some (r i) else none))))))]) ++ (List.range N').map (fun i => (r i, .inl (cI, K', .inl (fun _ => 0))))) H1 → va_D A ((ws ++ [(q, .inl (cO, N', .inr (.inr (.inr (.inr (fun i => if i < N' then some (r i) else none))))))]) ++ (List.range N').map (fun i => (r i, .inl (cI, K', .inl (fun _ => 0))))) → va_S A H0 H1 locs →
      W p l e R s m args below meth c H1 locs (cells + 1 + N') (slots + N' + N' * K') Q (F0 m (pc + 4) ls (.ref q :: rest))) : W p l e R s m args below meth c H locs cells slots Q (F0 m pc ls (.int k :: .int n :: rest)) := by
  have hcy : s.vm.findClass (FieldType.array FieldType.int).toString = some cI := (hK.2 0 _ rfl).2
  refine va_mna (X := ws) (L := []) (f := fun _ => .inl (cI, K', .inl (fun _ => 0))) (ty := .int) (z := (K', .inl (fun _ => 0))) hexec hb hown hclink hover harr hcy hK (by rw [va_pl, List.map_nil, List.append_nil]; exact hP) (by rw [va_pl, List.map_nil, List.append_nil]; exact hD) hS hA hn hk hN hM hb1 hb2 hb3 rfl rfl hcells hslots (fun _ => arrV_new _ _ _) hdg (fun q r cA H1 _ _ hK9 hP9 hD9 hS9 => ?_)
  cases cr_same hK9 (i := 2) (j := 3) rfl rfl rfl
  have e9 : ((ws ++ [(q, .inl (cO, N', .inr (.inr (.inr (.inr (fun i => if i < N' then some (r i) else none))))))]) ++ va_pl ([] ++ (List.range N').map r) (vr_up (fun _ => .inl (cI, K', .inl (fun _ => 0))) ((List.range N').map r) (.inl (cI, (K', .inl (fun _ => 0))))) : va_W) = (ws ++ [(q, .inl (cO, N', .inr (.inr (.inr (.inr (fun i => if i < N' then some (r i) else none))))))]) ++ (List.range N').map (fun i => (r i, .inl (cI, K', .inl (fun _ => 0)))) := by
    rw [← vr_rows (fun a _ h => absurd h List.not_mem_nil), va_pl, List.map_nil, List.nil_append, List.map_map]
    rfl
  rw [e9] at hP9 hD9
  exact kk q r H1 hP9 hD9 hS9
end CRM

theorem nd_Plan_init_0 : decode prog_4_method_1_code 0 = .ok (.aload_n 0, 1) := by decide +kernel
theorem nd_Plan_init_1 : decode prog_4_method_1_code 1 = .ok (.invokespecial 3, 3) := by decide +kernel
theorem nd_Plan_init_4 : decode prog_4_method_1_code 4 = .ok (.aload_n 0, 1) := by decide +kernel
theorem nd_Plan_init_5 : decode prog_4_method_1_code 5 = .ok (.bipush 11, 2) := by decide +kernel
theorem nd_Plan_init_7 : decode prog_4_method_1_code 7 = .ok (.newarray .int, 2) := by decide +kernel
theorem nd_Plan_init_9 : decode prog_4_method_1_code 9 = .ok (.putfield 9, 3) := by decide +kernel
theorem nd_Plan_init_12 : decode prog_4_method_1_code 12 = .ok (.aload_n 0, 1) := by decide +kernel
theorem nd_Plan_init_13 : decode prog_4_method_1_code 13 = .ok (.bipush 11, 2) := by decide +kernel
theorem nd_Plan_init_15 : decode prog_4_method_1_code 15 = .ok (.newarray .int, 2) := by decide +kernel
theorem nd_Plan_init_17 : decode prog_4_method_1_code 17 = .ok (.putfield 15, 3) := by decide +kernel
theorem nd_Plan_init_20 : decode prog_4_method_1_code 20 = .ok (.aload_n 0, 1) := by decide +kernel
theorem nd_Plan_init_21 : decode prog_4_method_1_code 21 = .ok (.bipush 9, 2) := by decide +kernel
theorem nd_Plan_init_23 : decode prog_4_method_1_code 23 = .ok (.newarray .int, 2) := by decide +kernel
theorem nd_Plan_init_25 : decode prog_4_method_1_code 25 = .ok (.putfield 18, 3) := by decide +kernel
theorem nd_Plan_init_28 : decode prog_4_method_1_code 28 = .ok (.aload_n 0, 1) := by decide +kernel
theorem nd_Plan_init_29 : decode prog_4_method_1_code 29 = .ok (.bipush 9, 2) := by decide +kernel
theorem nd_Plan_init_31 : decode prog_4_method_1_code 31 = .ok (.newarray .int, 2) := by decide +kernel
theorem nd_Plan_init_33 : decode prog_4_method_1_code 33 = .ok (.putfield 21, 3) := by decide +kernel
theorem nd_Plan_init_36 : decode prog_4_method_1_code 36 = .ok (.aload_n 0, 1) := by decide +kernel
theorem nd_Plan_init_37 : decode prog_4_method_1_code 37 = .ok (.bipush 11, 2) := by decide +kernel
theorem nd_Plan_init_39 : decode prog_4_method_1_code 39 = .ok (.bipush 9, 2) := by decide +kernel
theorem nd_Plan_init_41 : decode prog_4_method_1_code 41 = .ok (.multianewarray 24 2, 4) := by decide +kernel
theorem nd_Plan_init_45 : decode prog_4_method_1_code 45 = .ok (.putfield 26, 3) := by decide +kernel
theorem nd_Plan_init_48 : decode prog_4_method_1_code 48 = .ok (.return_, 1) := by decide +kernel
set_option maxHeartbeats 4000000 in
set_option maxRecDepth 100000 in
theorem ct_Plan_init (l : Launch) (dC : Nat → ClassId) (dI : Nat → Nat → Nat) (cI cZ cO : ClassId)  (h0 sz : Nat) : Met l ny_Plan_init nw_Plan_init ({ frames := 1, cells := 16, slots := 150, locals := 20 } : Room) (va_Pc [.ref h0] (fun U => U.heap.size = sz ∧ va_P (dC, dI) vwCl ([(h0, .inr (0, [.int 0, .int 0, .null, .null, .null, .null, .null]))]) U.heap ∧ va_K (dC, dI) vwCl [(cI, .int), (cZ, .boolean), (cO, .array .int)] U ∧ va_D (fun _ => True) ([(h0, .inr (0, [.int 0, .int 0, .null, .null, .null, .null, .null]))]) ∧ nz_all U)) (va_Qv (fun u : Nat → Nat => u 0 = h0) (fun u t => va_P (dC, dI) vwCl (cw_Plan cI cZ cO u (fun _ _ => 0)) t.heap ∧ va_K (dC, dI) vwCl [(cI, .int), (cZ, .boolean), (cO, .array .int)] t ∧ va_D (va_A ([(h0, .inr (0, [.int 0, .int 0, .null, .null, .null, .null, .null]))]) sz) (cw_Plan cI cZ cO u (fun _ _ => 0))) (va_A ([(h0, .inr (0, [.int 0, .int 0, .null, .null, .null, .null, .null]))]) sz)) 16 150 (va_A ([(h0, .inr (0, [.int 0, .int 0, .null, .null, .null, .null, .null]))]) sz) := by
  refine Met.ofW (cc := prog_4_method_1_code) (maxL := 1) (ret := none) (by decide) rfl ?_
  intro p e s m args below meth c s₁ B hml hv
  obtain ⟨rfl, hsz, hP, hK, hD0, hZ⟩ := hv
  have hx := B.exec
  have hb := B.bytes
  have hr := B.returns
  have hts0 := atoms_spec (ws := nw_Plan_init) B.pre
  have hts : ∀ w ∈ ng_tbl, w.before ([.ref h0] : List Value).toArray s = true := fun w h => hts0 w (List.mem_cons_of_mem _ h)
  have hown : s.vm.findClass "CeilingRows$Plan" = some m.cls := findClass_of_methodNamed B.named
  have hlocks := B.notSynchronized
  have hin : meth.name = "<init>" := (name_of_methodNamed B.named B.method).1
  subst hsz
  have hD := hD0.self (sz := s.heap.size)
  generalize hAe : va_A ([(h0, .inr (0, [.int 0, .int 0, .null, .null, .null, .null, .null]))]) s.heap.size = A at hD ⊢
  have hA : ∀ q : Nat, s.heap.size ≤ q → A q := fun q h => by rw [← hAe]; exact Or.inr h
  have hS : va_S A s.heap s.heap [] := va_S.rf
  have hP : va_P (dC, dI) vwCl ([(h0, .inr (0, [.int 0, .int 0, .null, .null, .null, .null, .null]))]) s.heap := hP
  have hl := lv_entry ([.ref h0]) (n := 1) (Nat.le_of_ble_eq_true rfl)
  rw [lg_entry_eq]
  generalize (lg_sl ([.ref h0]) ++ List.replicate (1 - (lg_sl ([.ref h0])).length) Slot.unset).toArray = ls at hl ⊢
  have hl : lv_has ls 1 [(0, .ref h0)] := hl
  refine lv_aload_n hx hb nd_Plan_init_0 rfl (lv_at hl 0 rfl) ?_
  refine W.objInit hx hb hown (hts _ tw_23) (hts _ tw_16) (hts _ tw_17) rfl (by rw [hml]; exact hl.1) rfl nd_Plan_init_1 (Nat.le_of_ble_eq_true rfl) (Nat.le_of_ble_eq_true rfl) ?_
  refine W.eq (g2 := F0 m 4 ls []) rfl ?_
  refine lv_aload_n hx hb nd_Plan_init_4 rfl (lv_at hl 0 rfl) ?_
  refine lv_bipush (v := 11) hx hb nd_Plan_init_5 (by decide) ?_
  refine va_newa (atype := .int) (ty := .int) (N' := 11) (a0 := (11, (.inl (fun _ => 0)))) hx hb (hts _ tw_60) rfl hK hP hD hS hA (fun _ => rfl) (by decide) (by decide) (by decide) (Nat.le_of_ble_eq_true rfl) (Nat.le_of_ble_eq_true rfl) nd_Plan_init_7 (fun q_1 cA H hK9 hP hD hS => ?_)
  cases cr_same hK9 (i := 0) (j := 3) rfl rfl rfl
  have hP : va_P (dC, dI) vwCl ([(h0, .inr (0, [.int 0, .int 0, .null, .null, .null, .null, .null])), (q_1, .inl (cI, 11, .inl (fun _ => 0)))]) H := hP
  have hD : va_D A ([(h0, .inr (0, [.int 0, .int 0, .null, .null, .null, .null, .null])), (q_1, .inl (cI, 11, .inl (fun _ => 0)))]) := hD
  refine W.widen (k := 1) (n := 11) (by decide) (by decide) ?_
  refine va_putF (D := (dC, dI)) (ci := 0) (v := .ref q_1) (ty := (.array .int)) (C := "CeilingRows$Plan") (T := nf_Plan) (N := 7) hx hb hts nin_Plan nt_Plan nto_Plan nno_Plan hown hK hP hD hS 0 rfl rfl 2 (by decide) (hts _ tw_34) (fun _ h9 => h9) rfl hin rfl (by decide +kernel) rfl rfl (Nat.le_of_ble_eq_true rfl) nd_Plan_init_9 (fun H locs hP hD hS => ?_)
  have hP : va_P (dC, dI) vwCl ([(h0, .inr (0, [.int 0, .int 0, .ref q_1, .null, .null, .null, .null])), (q_1, .inl (cI, 11, .inl (fun _ => 0)))]) H := hP
  have hD : va_D A ([(h0, .inr (0, [.int 0, .int 0, .ref q_1, .null, .null, .null, .null])), (q_1, .inl (cI, 11, .inl (fun _ => 0)))]) := hD
  refine lv_aload_n hx hb nd_Plan_init_12 rfl (lv_at hl 0 rfl) ?_
  refine lv_bipush (v := 11) hx hb nd_Plan_init_13 (by decide) ?_
  refine va_newa (atype := .int) (ty := .int) (N' := 11) (a0 := (11, (.inl (fun _ => 0)))) hx hb (hts _ tw_60) rfl hK hP hD hS hA (fun _ => rfl) (by decide) (by decide) (by decide) (Nat.le_of_ble_eq_true rfl) (Nat.le_of_ble_eq_true rfl) nd_Plan_init_15 (fun q_2 cA H hK9 hP hD hS => ?_)
  cases cr_same hK9 (i := 0) (j := 3) rfl rfl rfl
  have hP : va_P (dC, dI) vwCl ([(h0, .inr (0, [.int 0, .int 0, .ref q_1, .null, .null, .null, .null])), (q_1, .inl (cI, 11, .inl (fun _ => 0))), (q_2, .inl (cI, 11, .inl (fun _ => 0)))]) H := hP
  have hD : va_D A ([(h0, .inr (0, [.int 0, .int 0, .ref q_1, .null, .null, .null, .null])), (q_1, .inl (cI, 11, .inl (fun _ => 0))), (q_2, .inl (cI, 11, .inl (fun _ => 0)))]) := hD
  refine W.widen (k := 2) (n := 22) (by decide) (by decide) ?_
  refine va_putF (D := (dC, dI)) (ci := 0) (v := .ref q_2) (ty := (.array .int)) (C := "CeilingRows$Plan") (T := nf_Plan) (N := 7) hx hb hts nin_Plan nt_Plan nto_Plan nno_Plan hown hK hP hD hS 0 rfl rfl 3 (by decide) (hts _ tw_36) (fun _ h9 => h9) rfl hin rfl (by decide +kernel) rfl rfl (Nat.le_of_ble_eq_true rfl) nd_Plan_init_17 (fun H locs hP hD hS => ?_)
  have hP : va_P (dC, dI) vwCl ([(h0, .inr (0, [.int 0, .int 0, .ref q_1, .ref q_2, .null, .null, .null])), (q_1, .inl (cI, 11, .inl (fun _ => 0))), (q_2, .inl (cI, 11, .inl (fun _ => 0)))]) H := hP
  have hD : va_D A ([(h0, .inr (0, [.int 0, .int 0, .ref q_1, .ref q_2, .null, .null, .null])), (q_1, .inl (cI, 11, .inl (fun _ => 0))), (q_2, .inl (cI, 11, .inl (fun _ => 0)))]) := hD
  refine lv_aload_n hx hb nd_Plan_init_20 rfl (lv_at hl 0 rfl) ?_
  refine lv_bipush (v := 9) hx hb nd_Plan_init_21 (by decide) ?_
  refine va_newa (atype := .int) (ty := .int) (N' := 9) (a0 := (9, (.inl (fun _ => 0)))) hx hb (hts _ tw_60) rfl hK hP hD hS hA (fun _ => rfl) (by decide) (by decide) (by decide) (Nat.le_of_ble_eq_true rfl) (Nat.le_of_ble_eq_true rfl) nd_Plan_init_23 (fun q_3 cA H hK9 hP hD hS => ?_)
  cases cr_same hK9 (i := 0) (j := 3) rfl rfl rfl
  have hP : va_P (dC, dI) vwCl ([(h0, .inr (0, [.int 0, .int 0, .ref q_1, .ref q_2, .null, .null, .null])), (q_1, .inl (cI, 11, .inl (fun _ => 0))), (q_2, .inl (cI, 11, .inl (fun _ => 0))), (q_3, .inl (cI, 9, .inl (fun _ => 0)))]) H := hP
  have hD : va_D A ([(h0, .inr (0, [.int 0, .int 0, .ref q_1, .ref q_2, .null, .null, .null])), (q_1, .inl (cI, 11, .inl (fun _ => 0))), (q_2, .inl (cI, 11, .inl (fun _ => 0))), (q_3, .inl (cI, 9, .inl (fun _ => 0)))]) := hD
  refine W.widen (k := 3) (n := 31) (by decide) (by decide) ?_
  refine va_putF (D := (dC, dI)) (ci := 0) (v := .ref q_3) (ty := (.array .int)) (C := "CeilingRows$Plan") (T := nf_Plan) (N := 7) hx hb hts nin_Plan nt_Plan nto_Plan nno_Plan hown hK hP hD hS 0 rfl rfl 4 (by decide) (hts _ tw_39) (fun _ h9 => h9) rfl hin rfl (by decide +kernel) rfl rfl (Nat.le_of_ble_eq_true rfl) nd_Plan_init_25 (fun H locs hP hD hS => ?_)
  have hP : va_P (dC, dI) vwCl ([(h0, .inr (0, [.int 0, .int 0, .ref q_1, .ref q_2, .ref q_3, .null, .null])), (q_1, .inl (cI, 11, .inl (fun _ => 0))), (q_2, .inl (cI, 11, .inl (fun _ => 0))), (q_3, .inl (cI, 9, .inl (fun _ => 0)))]) H := hP
  have hD : va_D A ([(h0, .inr (0, [.int 0, .int 0, .ref q_1, .ref q_2, .ref q_3, .null, .null])), (q_1, .inl (cI, 11, .inl (fun _ => 0))), (q_2, .inl (cI, 11, .inl (fun _ => 0))), (q_3, .inl (cI, 9, .inl (fun _ => 0)))]) := hD
  refine lv_aload_n hx hb nd_Plan_init_28 rfl (lv_at hl 0 rfl) ?_
  refine lv_bipush (v := 9) hx hb nd_Plan_init_29 (by decide) ?_
  refine va_newa (atype := .int) (ty := .int) (N' := 9) (a0 := (9, (.inl (fun _ => 0)))) hx hb (hts _ tw_60) rfl hK hP hD hS hA (fun _ => rfl) (by decide) (by decide) (by decide) (Nat.le_of_ble_eq_true rfl) (Nat.le_of_ble_eq_true rfl) nd_Plan_init_31 (fun q_4 cA H hK9 hP hD hS => ?_)
  cases cr_same hK9 (i := 0) (j := 3) rfl rfl rfl
  have hP : va_P (dC, dI) vwCl ([(h0, .inr (0, [.int 0, .int 0, .ref q_1, .ref q_2, .ref q_3, .null, .null])), (q_1, .inl (cI, 11, .inl (fun _ => 0))), (q_2, .inl (cI, 11, .inl (fun _ => 0))), (q_3, .inl (cI, 9, .inl (fun _ => 0))), (q_4, .inl (cI, 9, .inl (fun _ => 0)))]) H := hP
  have hD : va_D A ([(h0, .inr (0, [.int 0, .int 0, .ref q_1, .ref q_2, .ref q_3, .null, .null])), (q_1, .inl (cI, 11, .inl (fun _ => 0))), (q_2, .inl (cI, 11, .inl (fun _ => 0))), (q_3, .inl (cI, 9, .inl (fun _ => 0))), (q_4, .inl (cI, 9, .inl (fun _ => 0)))]) := hD
  refine W.widen (k := 4) (n := 40) (by decide) (by decide) ?_
  refine va_putF (D := (dC, dI)) (ci := 0) (v := .ref q_4) (ty := (.array .int)) (C := "CeilingRows$Plan") (T := nf_Plan) (N := 7) hx hb hts nin_Plan nt_Plan nto_Plan nno_Plan hown hK hP hD hS 0 rfl rfl 5 (by decide) (hts _ tw_42) (fun _ h9 => h9) rfl hin rfl (by decide +kernel) rfl rfl (Nat.le_of_ble_eq_true rfl) nd_Plan_init_33 (fun H locs hP hD hS => ?_)
  have hP : va_P (dC, dI) vwCl ([(h0, .inr (0, [.int 0, .int 0, .ref q_1, .ref q_2, .ref q_3, .ref q_4, .null])), (q_1, .inl (cI, 11, .inl (fun _ => 0))), (q_2, .inl (cI, 11, .inl (fun _ => 0))), (q_3, .inl (cI, 9, .inl (fun _ => 0))), (q_4, .inl (cI, 9, .inl (fun _ => 0)))]) H := hP
  have hD : va_D A ([(h0, .inr (0, [.int 0, .int 0, .ref q_1, .ref q_2, .ref q_3, .ref q_4, .null])), (q_1, .inl (cI, 11, .inl (fun _ => 0))), (q_2, .inl (cI, 11, .inl (fun _ => 0))), (q_3, .inl (cI, 9, .inl (fun _ => 0))), (q_4, .inl (cI, 9, .inl (fun _ => 0)))]) := hD
  refine lv_aload_n hx hb nd_Plan_init_36 rfl (lv_at hl 0 rfl) ?_
  refine lv_bipush (v := 11) hx hb nd_Plan_init_37 (by decide) ?_
  refine lv_bipush (v := 9) hx hb nd_Plan_init_39 (by decide) ?_
  refine cr_mna (N' := 11) (K' := 9) hx hb hown (hts _ tw_24) (nz_over (Vm.Alike.refl _) hZ.1) (hts _ tw_60) hK hP hD hS hA (by decide) (by decide) (by decide) (by decide) (by decide) (by decide) (by decide) (Nat.le_of_ble_eq_true rfl) (Nat.le_of_ble_eq_true rfl) nd_Plan_init_41 (fun q_5 r_6 H hP hD hS => ?_)
  have hP : va_P (dC, dI) vwCl ([(h0, .inr (0, [.int 0, .int 0, .ref q_1, .ref q_2, .ref q_3, .ref q_4, .null])), (q_1, .inl (cI, 11, .inl (fun _ => 0))), (q_2, .inl (cI, 11, .inl (fun _ => 0))), (q_3, .inl (cI, 9, .inl (fun _ => 0))), (q_4, .inl (cI, 9, .inl (fun _ => 0))), (q_5, .inl (cO, 11, .inr (.inr (.inr (.inr (fun i => if i < 11 then some (r_6 i) else none)))))), (r_6 0, .inl (cI, 9, .inl (fun _ => 0))), (r_6 1, .inl (cI, 9, .inl (fun _ => 0))), (r_6 2, .inl (cI, 9, .inl (fun _ => 0))), (r_6 3, .inl (cI, 9, .inl (fun _ => 0))), (r_6 4, .inl (cI, 9, .inl (fun _ => 0))), (r_6 5, .inl (cI, 9, .inl (fun _ => 0))), (r_6 6, .inl (cI, 9, .inl (fun _ => 0))), (r_6 7, .inl (cI, 9, .inl (fun _ => 0))), (r_6 8, .inl (cI, 9, .inl (fun _ => 0))), (r_6 9, .inl (cI, 9, .inl (fun _ => 0))), (r_6 10, .inl (cI, 9, .inl (fun _ => 0)))]) H := hP
  have hD : va_D A ([(h0, .inr (0, [.int 0, .int 0, .ref q_1, .ref q_2, .ref q_3, .ref q_4, .null])), (q_1, .inl (cI, 11, .inl (fun _ => 0))), (q_2, .inl (cI, 11, .inl (fun _ => 0))), (q_3, .inl (cI, 9, .inl (fun _ => 0))), (q_4, .inl (cI, 9, .inl (fun _ => 0))), (q_5, .inl (cO, 11, .inr (.inr (.inr (.inr (fun i => if i < 11 then some (r_6 i) else none)))))), (r_6 0, .inl (cI, 9, .inl (fun _ => 0))), (r_6 1, .inl (cI, 9, .inl (fun _ => 0))), (r_6 2, .inl (cI, 9, .inl (fun _ => 0))), (r_6 3, .inl (cI, 9, .inl (fun _ => 0))), (r_6 4, .inl (cI, 9, .inl (fun _ => 0))), (r_6 5, .inl (cI, 9, .inl (fun _ => 0))), (r_6 6, .inl (cI, 9, .inl (fun _ => 0))), (r_6 7, .inl (cI, 9, .inl (fun _ => 0))), (r_6 8, .inl (cI, 9, .inl (fun _ => 0))), (r_6 9, .inl (cI, 9, .inl (fun _ => 0))), (r_6 10, .inl (cI, 9, .inl (fun _ => 0)))]) := hD
  refine W.widen (k := 16) (n := 150) (by decide) (by decide) ?_
  refine va_putF (D := (dC, dI)) (ci := 0) (v := .ref q_5) (ty := (.array (.array .int))) (C := "CeilingRows$Plan") (T := nf_Plan) (N := 7) hx hb hts nin_Plan nt_Plan nto_Plan nno_Plan hown hK hP hD hS 0 rfl rfl 6 (by decide) (hts _ tw_43) (fun _ h9 => h9) rfl hin rfl (by decide +kernel) rfl rfl (Nat.le_of_ble_eq_true rfl) nd_Plan_init_45 (fun H locs hP hD hS => ?_)
  have hP : va_P (dC, dI) vwCl ([(h0, .inr (0, [.int 0, .int 0, .ref q_1, .ref q_2, .ref q_3, .ref q_4, .ref q_5])), (q_1, .inl (cI, 11, .inl (fun _ => 0))), (q_2, .inl (cI, 11, .inl (fun _ => 0))), (q_3, .inl (cI, 9, .inl (fun _ => 0))), (q_4, .inl (cI, 9, .inl (fun _ => 0))), (q_5, .inl (cO, 11, .inr (.inr (.inr (.inr (fun i => if i < 11 then some (r_6 i) else none)))))), (r_6 0, .inl (cI, 9, .inl (fun _ => 0))), (r_6 1, .inl (cI, 9, .inl (fun _ => 0))), (r_6 2, .inl (cI, 9, .inl (fun _ => 0))), (r_6 3, .inl (cI, 9, .inl (fun _ => 0))), (r_6 4, .inl (cI, 9, .inl (fun _ => 0))), (r_6 5, .inl (cI, 9, .inl (fun _ => 0))), (r_6 6, .inl (cI, 9, .inl (fun _ => 0))), (r_6 7, .inl (cI, 9, .inl (fun _ => 0))), (r_6 8, .inl (cI, 9, .inl (fun _ => 0))), (r_6 9, .inl (cI, 9, .inl (fun _ => 0))), (r_6 10, .inl (cI, 9, .inl (fun _ => 0)))]) H := hP
  have hD : va_D A ([(h0, .inr (0, [.int 0, .int 0, .ref q_1, .ref q_2, .ref q_3, .ref q_4, .ref q_5])), (q_1, .inl (cI, 11, .inl (fun _ => 0))), (q_2, .inl (cI, 11, .inl (fun _ => 0))), (q_3, .inl (cI, 9, .inl (fun _ => 0))), (q_4, .inl (cI, 9, .inl (fun _ => 0))), (q_5, .inl (cO, 11, .inr (.inr (.inr (.inr (fun i => if i < 11 then some (r_6 i) else none)))))), (r_6 0, .inl (cI, 9, .inl (fun _ => 0))), (r_6 1, .inl (cI, 9, .inl (fun _ => 0))), (r_6 2, .inl (cI, 9, .inl (fun _ => 0))), (r_6 3, .inl (cI, 9, .inl (fun _ => 0))), (r_6 4, .inl (cI, 9, .inl (fun _ => 0))), (r_6 5, .inl (cI, 9, .inl (fun _ => 0))), (r_6 6, .inl (cI, 9, .inl (fun _ => 0))), (r_6 7, .inl (cI, 9, .inl (fun _ => 0))), (r_6 8, .inl (cI, 9, .inl (fun _ => 0))), (r_6 9, .inl (cI, 9, .inl (fun _ => 0))), (r_6 10, .inl (cI, 9, .inl (fun _ => 0)))]) := hD
  have hg_r_6 : (fun i => if i < 11 then some (r_6 i) else none) = cr_gr (fun k : Nat => match k with | 0 => h0 | 1 => q_1 | 2 => q_2 | 3 => q_3 | 4 => q_4 | 5 => q_5 | k + 6 => r_6 k) 6 11 := cr_gre (fun i _ => by rw [Nat.add_comm])
  rw [hg_r_6] at hP hD
  have hP9 := hP.sub (ws' := cw_Plan cI cZ cO (fun k : Nat => match k with | 0 => h0 | 1 => q_1 | 2 => q_2 | 3 => q_3 | 4 => q_4 | 5 => q_5 | k + 6 => r_6 k) (fun _ _ => 0)) [0, 1, 2, 3, 4, 5, 6, 7, 8, 9, 10, 11, 12, 13, 14, 15, 16] rfl
  have hD9 := hD.sub (ws' := cw_Plan cI cZ cO (fun k : Nat => match k with | 0 => h0 | 1 => q_1 | 2 => q_2 | 3 => q_3 | 4 => q_4 | 5 => q_5 | k + 6 => r_6 k) (fun _ _ => 0)) [0, 1, 2, 3, 4, 5, 6, 7, 8, 9, 10, 11, 12, 13, 14, 15, 16] (by decide) rfl
  refine W.widen (k := 16) (n := 150) (by decide) (by decide) ?_
  exact W.vret hx hb hr (fun t ht hW => ⟨⟨(fun k : Nat => match k with | 0 => h0 | 1 => q_1 | 2 => q_2 | 3 => q_3 | 4 => q_4 | 5 => q_5 | k + 6 => r_6 k), rfl, rfl, by rw [ht]; exact hP9, va_K.moved hW.alike hK, hD9⟩, hS.F ht⟩) hS.2.2 nd_Plan_init_48

theorem nd_Board_init_0 : decode prog_2_method_1_code 0 = .ok (.aload_n 0, 1) := by decide +kernel
theorem nd_Board_init_1 : decode prog_2_method_1_code 1 = .ok (.invokespecial 3, 3) := by decide +kernel
theorem nd_Board_init_4 : decode prog_2_method_1_code 4 = .ok (.aload_n 0, 1) := by decide +kernel
theorem nd_Board_init_5 : decode prog_2_method_1_code 5 = .ok (.bipush 11, 2) := by decide +kernel
theorem nd_Board_init_7 : decode prog_2_method_1_code 7 = .ok (.newarray .int, 2) := by decide +kernel
theorem nd_Board_init_9 : decode prog_2_method_1_code 9 = .ok (.putfield 9, 3) := by decide +kernel
theorem nd_Board_init_12 : decode prog_2_method_1_code 12 = .ok (.aload_n 0, 1) := by decide +kernel
theorem nd_Board_init_13 : decode prog_2_method_1_code 13 = .ok (.bipush 11, 2) := by decide +kernel
theorem nd_Board_init_15 : decode prog_2_method_1_code 15 = .ok (.newarray .int, 2) := by decide +kernel
theorem nd_Board_init_17 : decode prog_2_method_1_code 17 = .ok (.putfield 15, 3) := by decide +kernel
theorem nd_Board_init_20 : decode prog_2_method_1_code 20 = .ok (.aload_n 0, 1) := by decide +kernel
theorem nd_Board_init_21 : decode prog_2_method_1_code 21 = .ok (.bipush 11, 2) := by decide +kernel
theorem nd_Board_init_23 : decode prog_2_method_1_code 23 = .ok (.newarray .int, 2) := by decide +kernel
theorem nd_Board_init_25 : decode prog_2_method_1_code 25 = .ok (.putfield 18, 3) := by decide +kernel
theorem nd_Board_init_28 : decode prog_2_method_1_code 28 = .ok (.aload_n 0, 1) := by decide +kernel
theorem nd_Board_init_29 : decode prog_2_method_1_code 29 = .ok (.bipush 9, 2) := by decide +kernel
theorem nd_Board_init_31 : decode prog_2_method_1_code 31 = .ok (.newarray .int, 2) := by decide +kernel
theorem nd_Board_init_33 : decode prog_2_method_1_code 33 = .ok (.putfield 21, 3) := by decide +kernel
theorem nd_Board_init_36 : decode prog_2_method_1_code 36 = .ok (.aload_n 0, 1) := by decide +kernel
theorem nd_Board_init_37 : decode prog_2_method_1_code 37 = .ok (.bipush 9, 2) := by decide +kernel
theorem nd_Board_init_39 : decode prog_2_method_1_code 39 = .ok (.newarray .int, 2) := by decide +kernel
theorem nd_Board_init_41 : decode prog_2_method_1_code 41 = .ok (.putfield 24, 3) := by decide +kernel
theorem nd_Board_init_44 : decode prog_2_method_1_code 44 = .ok (.aload_n 0, 1) := by decide +kernel
theorem nd_Board_init_45 : decode prog_2_method_1_code 45 = .ok (.aload_n 1, 1) := by decide +kernel
theorem nd_Board_init_46 : decode prog_2_method_1_code 46 = .ok (.putfield 27, 3) := by decide +kernel
theorem nd_Board_init_49 : decode prog_2_method_1_code 49 = .ok (.return_, 1) := by decide +kernel
set_option maxHeartbeats 4000000 in
set_option maxRecDepth 100000 in
theorem ct_Board_init (l : Launch) (dC : Nat → ClassId) (dI : Nat → Nat → Nat) (cI cZ cO : ClassId) (apl : Nat → Nat) (h0 sz : Nat) : Met l ny_Board_init nw_Board_init ({ frames := 1, cells := 5, slots := 51, locals := 20 } : Room) (va_Pc [.ref h0, .ref (apl 0)] (fun U => U.heap.size = sz ∧ va_P (dC, dI) vwCl ([(h0, .inr (1, [.null, .null, .null, .int 0, .null, .null, .null]))]) U.heap ∧ va_K (dC, dI) vwCl [(cI, .int), (cZ, .boolean), (cO, .array .int)] U ∧ va_D (fun _ => True) ([(h0, .inr (1, [.null, .null, .null, .int 0, .null, .null, .null]))]) ∧ nz_all U)) (va_Qv (fun u : Nat → Nat => u 0 = h0) (fun u t => va_P (dC, dI) vwCl (cw_Board cI cZ cO u apl (fun _ _ => 0)) t.heap ∧ va_K (dC, dI) vwCl [(cI, .int), (cZ, .boolean), (cO, .array .int)] t ∧ va_D (va_A ([(h0, .inr (1, [.null, .null, .null, .int 0, .null, .null, .null]))]) sz) (cw_Board cI cZ cO u apl (fun _ _ => 0))) (va_A ([(h0, .inr (1, [.null, .null, .null, .int 0, .null, .null, .null]))]) sz)) 5 51 (va_A ([(h0, .inr (1, [.null, .null, .null, .int 0, .null, .null, .null]))]) sz) := by
  refine Met.ofW (cc := prog_2_method_1_code) (maxL := 2) (ret := none) (by decide) rfl ?_
  intro p e s m args below meth c s₁ B hml hv
  obtain ⟨rfl, hsz, hP, hK, hD0, hZ⟩ := hv
  have hx := B.exec
  have hb := B.bytes
  have hr := B.returns
  have hts0 := atoms_spec (ws := nw_Board_init) B.pre
  have hts : ∀ w ∈ ng_tbl, w.before ([.ref h0, .ref (apl 0)] : List Value).toArray s = true := fun w h => hts0 w (List.mem_cons_of_mem _ h)
  have hown : s.vm.findClass "CeilingRows$Board" = some m.cls := findClass_of_methodNamed B.named
  have hlocks := B.notSynchronized
  have hin : meth.name = "<init>" := (name_of_methodNamed B.named B.method).1
  subst hsz
  have hD := hD0.self (sz := s.heap.size)
  generalize hAe : va_A ([(h0, .inr (1, [.null, .null, .null, .int 0, .null, .null, .null]))]) s.heap.size = A at hD ⊢
  have hA : ∀ q : Nat, s.heap.size ≤ q → A q := fun q h => by rw [← hAe]; exact Or.inr h
  have hS : va_S A s.heap s.heap [] := va_S.rf
  have hP : va_P (dC, dI) vwCl ([(h0, .inr (1, [.null, .null, .null, .int 0, .null, .null, .null]))]) s.heap := hP
  have hl := lv_entry ([.ref h0, .ref (apl 0)]) (n := 2) (Nat.le_of_ble_eq_true rfl)
  rw [lg_entry_eq]
  generalize (lg_sl ([.ref h0, .ref (apl 0)]) ++ List.replicate (2 - (lg_sl ([.ref h0, .ref (apl 0)])).length) Slot.unset).toArray = ls at hl ⊢
  have hl : lv_has ls 2 [(0, .ref h0), (1, .ref (apl 0))] := hl
  refine lv_aload_n hx hb nd_Board_init_0 rfl (lv_at hl 0 rfl) ?_
  refine W.objInit hx hb hown (hts _ tw_66) (hts _ tw_16) (hts _ tw_17) rfl (by rw [hml]; exact hl.1) rfl nd_Board_init_1 (Nat.le_of_ble_eq_true rfl) (Nat.le_of_ble_eq_true rfl) ?_
  refine W.eq (g2 := F0 m 4 ls []) rfl ?_
  refine lv_aload_n hx hb nd_Board_init_4 rfl (lv_at hl 0 rfl) ?_
  refine lv_bipush (v := 11) hx hb nd_Board_init_5 (by decide) ?_
  refine va_newa (atype := .int) (ty := .int) (N' := 11) (a0 := (11, (.inl (fun _ => 0)))) hx hb (hts _ tw_60) rfl hK hP hD hS hA (fun _ => rfl) (by decide) (by decide) (by decide) (Nat.le_of_ble_eq_true rfl) (Nat.le_of_ble_eq_true rfl) nd_Board_init_7 (fun q_1 cA H hK9 hP hD hS => ?_)
  cases cr_same hK9 (i := 0) (j := 3) rfl rfl rfl
  have hP : va_P (dC, dI) vwCl ([(h0, .inr (1, [.null, .null, .null, .int 0, .null, .null, .null])), (q_1, .inl (cI, 11, .inl (fun _ => 0)))]) H := hP
  have hD : va_D A ([(h0, .inr (1, [.null, .null, .null, .int 0, .null, .null, .null])), (q_1, .inl (cI, 11, .inl (fun _ => 0)))]) := hD
  refine W.widen (k := 1) (n := 11) (by decide) (by decide) ?_
  refine va_putF (D := (dC, dI)) (ci := 1) (v := .ref q_1) (ty := (.array .int)) (C := "CeilingRows$Board") (T := nf_Board) (N := 7) hx hb hts nin_Board nt_Board nto_Board nno_Board hown hK hP hD hS 0 rfl rfl 1 (by decide) (hts _ tw_68) (fun _ h9 => h9) rfl hin rfl (by decide +kernel) rfl rfl (Nat.le_of_ble_eq_true rfl) nd_Board_init_9 (fun H locs hP hD hS => ?_)
  have hP : va_P (dC, dI) vwCl ([(h0, .inr (1, [.null, .ref q_1, .null, .int 0, .null, .null, .null])), (q_1, .inl (cI, 11, .inl (fun _ => 0)))]) H := hP
  have hD : va_D A ([(h0, .inr (1, [.null, .ref q_1, .null, .int 0, .null, .null, .null])), (q_1, .inl (cI, 11, .inl (fun _ => 0)))]) := hD
  refine lv_aload_n hx hb nd_Board_init_12 rfl (lv_at hl 0 rfl) ?_
  refine lv_bipush (v := 11) hx hb nd_Board_init_13 (by decide) ?_
  refine va_newa (atype := .int) (ty := .int) (N' := 11) (a0 := (11, (.inl (fun _ => 0)))) hx hb (hts _ tw_60) rfl hK hP hD hS hA (fun _ => rfl) (by decide) (by decide) (by decide) (Nat.le_of_ble_eq_true rfl) (Nat.le_of_ble_eq_true rfl) nd_Board_init_15 (fun q_2 cA H hK9 hP hD hS => ?_)
  cases cr_same hK9 (i := 0) (j := 3) rfl rfl rfl
  have hP : va_P (dC, dI) vwCl ([(h0, .inr (1, [.null, .ref q_1, .null, .int 0, .null, .null, .null])), (q_1, .inl (cI, 11, .inl (fun _ => 0))), (q_2, .inl (cI, 11, .inl (fun _ => 0)))]) H := hP
  have hD : va_D A ([(h0, .inr (1, [.null, .ref q_1, .null, .int 0, .null, .null, .null])), (q_1, .inl (cI, 11, .inl (fun _ => 0))), (q_2, .inl (cI, 11, .inl (fun _ => 0)))]) := hD
  refine W.widen (k := 2) (n := 22) (by decide) (by decide) ?_
  refine va_putF (D := (dC, dI)) (ci := 1) (v := .ref q_2) (ty := (.array .int)) (C := "CeilingRows$Board") (T := nf_Board) (N := 7) hx hb hts nin_Board nt_Board nto_Board nno_Board hown hK hP hD hS 0 rfl rfl 2 (by decide) (hts _ tw_71) (fun _ h9 => h9) rfl hin rfl (by decide +kernel) rfl rfl (Nat.le_of_ble_eq_true rfl) nd_Board_init_17 (fun H locs hP hD hS => ?_)
  have hP : va_P (dC, dI) vwCl ([(h0, .inr (1, [.null, .ref q_1, .ref q_2, .int 0, .null, .null, .null])), (q_1, .inl (cI, 11, .inl (fun _ => 0))), (q_2, .inl (cI, 11, .inl (fun _ => 0)))]) H := hP
  have hD : va_D A ([(h0, .inr (1, [.null, .ref q_1, .ref q_2, .int 0, .null, .null, .null])), (q_1, .inl (cI, 11, .inl (fun _ => 0))), (q_2, .inl (cI, 11, .inl (fun _ => 0)))]) := hD
  refine lv_aload_n hx hb nd_Board_init_20 rfl (lv_at hl 0 rfl) ?_
  refine lv_bipush (v := 11) hx hb nd_Board_init_21 (by decide) ?_
  refine va_newa (atype := .int) (ty := .int) (N' := 11) (a0 := (11, (.inl (fun _ => 0)))) hx hb (hts _ tw_60) rfl hK hP hD hS hA (fun _ => rfl) (by decide) (by decide) (by decide) (Nat.le_of_ble_eq_true rfl) (Nat.le_of_ble_eq_true rfl) nd_Board_init_23 (fun q_3 cA H hK9 hP hD hS => ?_)
  cases cr_same hK9 (i := 0) (j := 3) rfl rfl rfl
  have hP : va_P (dC, dI) vwCl ([(h0, .inr (1, [.null, .ref q_1, .ref q_2, .int 0, .null, .null, .null])), (q_1, .inl (cI, 11, .inl (fun _ => 0))), (q_2, .inl (cI, 11, .inl (fun _ => 0))), (q_3, .inl (cI, 11, .inl (fun _ => 0)))]) H := hP
  have hD : va_D A ([(h0, .inr (1, [.null, .ref q_1, .ref q_2, .int 0, .null, .null, .null])), (q_1, .inl (cI, 11, .inl (fun _ => 0))), (q_2, .inl (cI, 11, .inl (fun _ => 0))), (q_3, .inl (cI, 11, .inl (fun _ => 0)))]) := hD
  refine W.widen (k := 3) (n := 33) (by decide) (by decide) ?_
  refine va_putF (D := (dC, dI)) (ci := 1) (v := .ref q_3) (ty := (.array .int)) (C := "CeilingRows$Board") (T := nf_Board) (N := 7) hx hb hts nin_Board nt_Board nto_Board nno_Board hown hK hP hD hS 0 rfl rfl 4 (by decide) (hts _ tw_73) (fun _ h9 => h9) rfl hin rfl (by decide +kernel) rfl rfl (Nat.le_of_ble_eq_true rfl) nd_Board_init_25 (fun H locs hP hD hS => ?_)
  have hP : va_P (dC, dI) vwCl ([(h0, .inr (1, [.null, .ref q_1, .ref q_2, .int 0, .ref q_3, .null, .null])), (q_1, .inl (cI, 11, .inl (fun _ => 0))), (q_2, .inl (cI, 11, .inl (fun _ => 0))), (q_3, .inl (cI, 11, .inl (fun _ => 0)))]) H := hP
  have hD : va_D A ([(h0, .inr (1, [.null, .ref q_1, .ref q_2, .int 0, .ref q_3, .null, .null])), (q_1, .inl (cI, 11, .inl (fun _ => 0))), (q_2, .inl (cI, 11, .inl (fun _ => 0))), (q_3, .inl (cI, 11, .inl (fun _ => 0)))]) := hD
  refine lv_aload_n hx hb nd_Board_init_28 rfl (lv_at hl 0 rfl) ?_
  refine lv_bipush (v := 9) hx hb nd_Board_init_29 (by decide) ?_
  refine va_newa (atype := .int) (ty := .int) (N' := 9) (a0 := (9, (.inl (fun _ => 0)))) hx hb (hts _ tw_60) rfl hK hP hD hS hA (fun _ => rfl) (by decide) (by decide) (by decide) (Nat.le_of_ble_eq_true rfl) (Nat.le_of_ble_eq_true rfl) nd_Board_init_31 (fun q_4 cA H hK9 hP hD hS => ?_)
  cases cr_same hK9 (i := 0) (j := 3) rfl rfl rfl
  have hP : va_P (dC, dI) vwCl ([(h0, .inr (1, [.null, .ref q_1, .ref q_2, .int 0, .ref q_3, .null, .null])), (q_1, .inl (cI, 11, .inl (fun _ => 0))), (q_2, .inl (cI, 11, .inl (fun _ => 0))), (q_3, .inl (cI, 11, .inl (fun _ => 0))), (q_4, .inl (cI, 9, .inl (fun _ => 0)))]) H := hP
  have hD : va_D A ([(h0, .inr (1, [.null, .ref q_1, .ref q_2, .int 0, .ref q_3, .null, .null])), (q_1, .inl (cI, 11, .inl (fun _ => 0))), (q_2, .inl (cI, 11, .inl (fun _ => 0))), (q_3, .inl (cI, 11, .inl (fun _ => 0))), (q_4, .inl (cI, 9, .inl (fun _ => 0)))]) := hD
  refine W.widen (k := 4) (n := 42) (by decide) (by decide) ?_
  refine va_putF (D := (dC, dI)) (ci := 1) (v := .ref q_4) (ty := (.array .int)) (C := "CeilingRows$Board") (T := nf_Board) (N := 7) hx hb hts nin_Board nt_Board nto_Board nno_Board hown hK hP hD hS 0 rfl rfl 5 (by decide) (hts _ tw_75) (fun _ h9 => h9) rfl hin rfl (by decide +kernel) rfl rfl (Nat.le_of_ble_eq_true rfl) nd_Board_init_33 (fun H locs hP hD hS => ?_)
  have hP : va_P (dC, dI) vwCl ([(h0, .inr (1, [.null, .ref q_1, .ref q_2, .int 0, .ref q_3, .ref q_4, .null])), (q_1, .inl (cI, 11, .inl (fun _ => 0))), (q_2, .inl (cI, 11, .inl (fun _ => 0))), (q_3, .inl (cI, 11, .inl (fun _ => 0))), (q_4, .inl (cI, 9, .inl (fun _ => 0)))]) H := hP
  have hD : va_D A ([(h0, .inr (1, [.null, .ref q_1, .ref q_2, .int 0, .ref q_3, .ref q_4, .null])), (q_1, .inl (cI, 11, .inl (fun _ => 0))), (q_2, .inl (cI, 11, .inl (fun _ => 0))), (q_3, .inl (cI, 11, .inl (fun _ => 0))), (q_4, .inl (cI, 9, .inl (fun _ => 0)))]) := hD
  refine lv_aload_n hx hb nd_Board_init_36 rfl (lv_at hl 0 rfl) ?_
  refine lv_bipush (v := 9) hx hb nd_Board_init_37 (by decide) ?_
  refine va_newa (atype := .int) (ty := .int) (N' := 9) (a0 := (9, (.inl (fun _ => 0)))) hx hb (hts _ tw_60) rfl hK hP hD hS hA (fun _ => rfl) (by decide) (by decide) (by decide) (Nat.le_of_ble_eq_true rfl) (Nat.le_of_ble_eq_true rfl) nd_Board_init_39 (fun q_5 cA H hK9 hP hD hS => ?_)
  cases cr_same hK9 (i := 0) (j := 3) rfl rfl rfl
  have hP : va_P (dC, dI) vwCl ([(h0, .inr (1, [.null, .ref q_1, .ref q_2, .int 0, .ref q_3, .ref q_4, .null])), (q_1, .inl (cI, 11, .inl (fun _ => 0))), (q_2, .inl (cI, 11, .inl (fun _ => 0))), (q_3, .inl (cI, 11, .inl (fun _ => 0))), (q_4, .inl (cI, 9, .inl (fun _ => 0))), (q_5, .inl (cI, 9, .inl (fun _ => 0)))]) H := hP
  have hD : va_D A ([(h0, .inr (1, [.null, .ref q_1, .ref q_2, .int 0, .ref q_3, .ref q_4, .null])), (q_1, .inl (cI, 11, .inl (fun _ => 0))), (q_2, .inl (cI, 11, .inl (fun _ => 0))), (q_3, .inl (cI, 11, .inl (fun _ => 0))), (q_4, .inl (cI, 9, .inl (fun _ => 0))), (q_5, .inl (cI, 9, .inl (fun _ => 0)))]) := hD
  refine W.widen (k := 5) (n := 51) (by decide) (by decide) ?_
  refine va_putF (D := (dC, dI)) (ci := 1) (v := .ref q_5) (ty := (.array .int)) (C := "CeilingRows$Board") (T := nf_Board) (N := 7) hx hb hts nin_Board nt_Board nto_Board nno_Board hown hK hP hD hS 0 rfl rfl 6 (by decide) (hts _ tw_78) (fun _ h9 => h9) rfl hin rfl (by decide +kernel) rfl rfl (Nat.le_of_ble_eq_true rfl) nd_Board_init_41 (fun H locs hP hD hS => ?_)
  have hP : va_P (dC, dI) vwCl ([(h0, .inr (1, [.null, .ref q_1, .ref q_2, .int 0, .ref q_3, .ref q_4, .ref q_5])), (q_1, .inl (cI, 11, .inl (fun _ => 0))), (q_2, .inl (cI, 11, .inl (fun _ => 0))), (q_3, .inl (cI, 11, .inl (fun _ => 0))), (q_4, .inl (cI, 9, .inl (fun _ => 0))), (q_5, .inl (cI, 9, .inl (fun _ => 0)))]) H := hP
  have hD : va_D A ([(h0, .inr (1, [.null, .ref q_1, .ref q_2, .int 0, .ref q_3, .ref q_4, .ref q_5])), (q_1, .inl (cI, 11, .inl (fun _ => 0))), (q_2, .inl (cI, 11, .inl (fun _ => 0))), (q_3, .inl (cI, 11, .inl (fun _ => 0))), (q_4, .inl (cI, 9, .inl (fun _ => 0))), (q_5, .inl (cI, 9, .inl (fun _ => 0)))]) := hD
  refine lv_aload_n hx hb nd_Board_init_44 rfl (lv_at hl 0 rfl) ?_
  refine lv_aload_n hx hb nd_Board_init_45 rfl (lv_at hl 1 rfl) ?_
  refine va_putF (D := (dC, dI)) (ci := 1) (v := .ref (apl 0)) (ty := (.object "CeilingRows$Plan")) (C := "CeilingRows$Board") (T := nf_Board) (N := 7) hx hb hts nin_Board nt_Board nto_Board nno_Board hown hK hP hD hS 0 rfl rfl 0 (by decide) (hts _ tw_67) (fun _ h9 => h9) rfl hin rfl (by decide +kernel) rfl rfl (Nat.le_of_ble_eq_true rfl) nd_Board_init_46 (fun H locs hP hD hS => ?_)
  have hP : va_P (dC, dI) vwCl ([(h0, .inr (1, [.ref (apl 0), .ref q_1, .ref q_2, .int 0, .ref q_3, .ref q_4, .ref q_5])), (q_1, .inl (cI, 11, .inl (fun _ => 0))), (q_2, .inl (cI, 11, .inl (fun _ => 0))), (q_3, .inl (cI, 11, .inl (fun _ => 0))), (q_4, .inl (cI, 9, .inl (fun _ => 0))), (q_5, .inl (cI, 9, .inl (fun _ => 0)))]) H := hP
  have hD : va_D A ([(h0, .inr (1, [.ref (apl 0), .ref q_1, .ref q_2, .int 0, .ref q_3, .ref q_4, .ref q_5])), (q_1, .inl (cI, 11, .inl (fun _ => 0))), (q_2, .inl (cI, 11, .inl (fun _ => 0))), (q_3, .inl (cI, 11, .inl (fun _ => 0))), (q_4, .inl (cI, 9, .inl (fun _ => 0))), (q_5, .inl (cI, 9, .inl (fun _ => 0)))]) := hD
  have hP9 := hP.sub (ws' := cw_Board cI cZ cO (fun k : Nat => match k with | 0 => h0 | 1 => q_1 | 2 => q_2 | 3 => q_3 | 4 => q_4 | 5 => q_5 | _ => 0) apl (fun _ _ => 0)) [0, 1, 2, 3, 4, 5] rfl
  have hD9 := hD.sub (ws' := cw_Board cI cZ cO (fun k : Nat => match k with | 0 => h0 | 1 => q_1 | 2 => q_2 | 3 => q_3 | 4 => q_4 | 5 => q_5 | _ => 0) apl (fun _ _ => 0)) [0, 1, 2, 3, 4, 5] (by decide) rfl
  refine W.widen (k := 5) (n := 51) (by decide) (by decide) ?_
  exact W.vret hx hb hr (fun t ht hW => ⟨⟨(fun k : Nat => match k with | 0 => h0 | 1 => q_1 | 2 => q_2 | 3 => q_3 | 4 => q_4 | 5 => q_5 | _ => 0), rfl, rfl, by rw [ht]; exact hP9, va_K.moved hW.alike hK, hD9⟩, hS.F ht⟩) hS.2.2 nd_Board_init_49

theorem nd_Locks_init_0 : decode prog_3_method_1_code 0 = .ok (.aload_n 0, 1) := by decide +kernel
theorem nd_Locks_init_1 : decode prog_3_method_1_code 1 = .ok (.invokespecial 3, 3) := by decide +kernel
theorem nd_Locks_init_4 : decode prog_3_method_1_code 4 = .ok (.aload_n 0, 1) := by decide +kernel
theorem nd_Locks_init_5 : decode prog_3_method_1_code 5 = .ok (.bipush 9, 2) := by decide +kernel
theorem nd_Locks_init_7 : decode prog_3_method_1_code 7 = .ok (.newarray .int, 2) := by decide +kernel
theorem nd_Locks_init_9 : decode prog_3_method_1_code 9 = .ok (.putfield 9, 3) := by decide +kernel
theorem nd_Locks_init_12 : decode prog_3_method_1_code 12 = .ok (.aload_n 0, 1) := by decide +kernel
theorem nd_Locks_init_13 : decode prog_3_method_1_code 13 = .ok (.iconst 4, 1) := by decide +kernel
theorem nd_Locks_init_14 : decode prog_3_method_1_code 14 = .ok (.newarray .int, 2) := by decide +kernel
theorem nd_Locks_init_16 : decode prog_3_method_1_code 16 = .ok (.putfield 15, 3) := by decide +kernel
theorem nd_Locks_init_19 : decode prog_3_method_1_code 19 = .ok (.aload_n 0, 1) := by decide +kernel
theorem nd_Locks_init_20 : decode prog_3_method_1_code 20 = .ok (.iconst 4, 1) := by decide +kernel
theorem nd_Locks_init_21 : decode prog_3_method_1_code 21 = .ok (.newarray .int, 2) := by decide +kernel
theorem nd_Locks_init_23 : decode prog_3_method_1_code 23 = .ok (.putfield 18, 3) := by decide +kernel
theorem nd_Locks_init_26 : decode prog_3_method_1_code 26 = .ok (.return_, 1) := by decide +kernel
set_option maxHeartbeats 4000000 in
set_option maxRecDepth 100000 in
theorem ct_Locks_init (l : Launch) (dC : Nat → ClassId) (dI : Nat → Nat → Nat) (cI cZ cO : ClassId)  (h0 sz : Nat) : Met l ny_Locks_init nw_Locks_init ({ frames := 1, cells := 3, slots := 17, locals := 20 } : Room) (va_Pc [.ref h0] (fun U => U.heap.size = sz ∧ va_P (dC, dI) vwCl ([(h0, .inr (2, [.null, .null, .null, .int 0]))]) U.heap ∧ va_K (dC, dI) vwCl [(cI, .int), (cZ, .boolean), (cO, .array .int)] U ∧ va_D (fun _ => True) ([(h0, .inr (2, [.null, .null, .null, .int 0]))]) ∧ nz_all U)) (va_Qv (fun u : Nat → Nat => u 0 = h0) (fun u t => va_P (dC, dI) vwCl (cw_Locks cI cZ cO u (fun _ _ => 0)) t.heap ∧ va_K (dC, dI) vwCl [(cI, .int), (cZ, .boolean), (cO, .array .int)] t ∧ va_D (va_A ([(h0, .inr (2, [.null, .null, .null, .int 0]))]) sz) (cw_Locks cI cZ cO u (fun _ _ => 0))) (va_A ([(h0, .inr (2, [.null, .null, .null, .int 0]))]) sz)) 3 17 (va_A ([(h0, .inr (2, [.null, .null, .null, .int 0]))]) sz) := by
  refine Met.ofW (cc := prog_3_method_1_code) (maxL := 1) (ret := none) (by decide) rfl ?_
  intro p e s m args below meth c s₁ B hml hv
  obtain ⟨rfl, hsz, hP, hK, hD0, hZ⟩ := hv
  have hx := B.exec
  have hb := B.bytes
  have hr := B.returns
  have hts0 := atoms_spec (ws := nw_Locks_init) B.pre
  have hts : ∀ w ∈ ng_tbl, w.before ([.ref h0] : List Value).toArray s = true := fun w h => hts0 w (List.mem_cons_of_mem _ h)
  have hown : s.vm.findClass "CeilingRows$Locks" = some m.cls := findClass_of_methodNamed B.named
  have hlocks := B.notSynchronized
  have hin : meth.name = "<init>" := (name_of_methodNamed B.named B.method).1
  subst hsz
  have hD := hD0.self (sz := s.heap.size)
  generalize hAe : va_A ([(h0, .inr (2, [.null, .null, .null, .int 0]))]) s.heap.size = A at hD ⊢
  have hA : ∀ q : Nat, s.heap.size ≤ q → A q := fun q h => by rw [← hAe]; exact Or.inr h
  have hS : va_S A s.heap s.heap [] := va_S.rf
  have hP : va_P (dC, dI) vwCl ([(h0, .inr (2, [.null, .null, .null, .int 0]))]) s.heap := hP
  have hl := lv_entry ([.ref h0]) (n := 1) (Nat.le_of_ble_eq_true rfl)
  rw [lg_entry_eq]
  generalize (lg_sl ([.ref h0]) ++ List.replicate (1 - (lg_sl ([.ref h0])).length) Slot.unset).toArray = ls at hl ⊢
  have hl : lv_has ls 1 [(0, .ref h0)] := hl
  refine lv_aload_n hx hb nd_Locks_init_0 rfl (lv_at hl 0 rfl) ?_
  refine W.objInit hx hb hown (hts _ tw_99) (hts _ tw_16) (hts _ tw_17) rfl (by rw [hml]; exact hl.1) rfl nd_Locks_init_1 (Nat.le_of_ble_eq_true rfl) (Nat.le_of_ble_eq_true rfl) ?_
  refine W.eq (g2 := F0 m 4 ls []) rfl ?_
  refine lv_aload_n hx hb nd_Locks_init_4 rfl (lv_at hl 0 rfl) ?_
  refine lv_bipush (v := 9) hx hb nd_Locks_init_5 (by decide) ?_
  refine va_newa (atype := .int) (ty := .int) (N' := 9) (a0 := (9, (.inl (fun _ => 0)))) hx hb (hts _ tw_60) rfl hK hP hD hS hA (fun _ => rfl) (by decide) (by decide) (by decide) (Nat.le_of_ble_eq_true rfl) (Nat.le_of_ble_eq_true rfl) nd_Locks_init_7 (fun q_1 cA H hK9 hP hD hS => ?_)
  cases cr_same hK9 (i := 0) (j := 3) rfl rfl rfl
  have hP : va_P (dC, dI) vwCl ([(h0, .inr (2, [.null, .null, .null, .int 0])), (q_1, .inl (cI, 9, .inl (fun _ => 0)))]) H := hP
  have hD : va_D A ([(h0, .inr (2, [.null, .null, .null, .int 0])), (q_1, .inl (cI, 9, .inl (fun _ => 0)))]) := hD
  refine W.widen (k := 1) (n := 9) (by decide) (by decide) ?_
  refine va_putF (D := (dC, dI)) (ci := 2) (v := .ref q_1) (ty := (.array .int)) (C := "CeilingRows$Locks") (T := nf_Locks) (N := 4) hx hb hts nin_Locks nt_Locks nto_Locks nno_Locks hown hK hP hD hS 0 rfl rfl 0 (by decide) (hts _ tw_100) (fun _ h9 => h9) rfl hin rfl (by decide +kernel) rfl rfl (Nat.le_of_ble_eq_true rfl) nd_Locks_init_9 (fun H locs hP hD hS => ?_)
  have hP : va_P (dC, dI) vwCl ([(h0, .inr (2, [.ref q_1, .null, .null, .int 0])), (q_1, .inl (cI, 9, .inl (fun _ => 0)))]) H := hP
  have hD : va_D A ([(h0, .inr (2, [.ref q_1, .null, .null, .int 0])), (q_1, .inl (cI, 9, .inl (fun _ => 0)))]) := hD
  refine lv_aload_n hx hb nd_Locks_init_12 rfl (lv_at hl 0 rfl) ?_
  refine lv_iconst (v := 4) hx hb nd_Locks_init_13 (by decide) ?_
  refine va_newa (atype := .int) (ty := .int) (N' := 4) (a0 := (4, (.inl (fun _ => 0)))) hx hb (hts _ tw_60) rfl hK hP hD hS hA (fun _ => rfl) (by decide) (by decide) (by decide) (Nat.le_of_ble_eq_true rfl) (Nat.le_of_ble_eq_true rfl) nd_Locks_init_14 (fun q_2 cA H hK9 hP hD hS => ?_)
  cases cr_same hK9 (i := 0) (j := 3) rfl rfl rfl
  have hP : va_P (dC, dI) vwCl ([(h0, .inr (2, [.ref q_1, .null, .null, .int 0])), (q_1, .inl (cI, 9, .inl (fun _ => 0))), (q_2, .inl (cI, 4, .inl (fun _ => 0)))]) H := hP
  have hD : va_D A ([(h0, .inr (2, [.ref q_1, .null, .null, .int 0])), (q_1, .inl (cI, 9, .inl (fun _ => 0))), (q_2, .inl (cI, 4, .inl (fun _ => 0)))]) := hD
  refine W.widen (k := 2) (n := 13) (by decide) (by decide) ?_
  refine va_putF (D := (dC, dI)) (ci := 2) (v := .ref q_2) (ty := (.array .int)) (C := "CeilingRows$Locks") (T := nf_Locks) (N := 4) hx hb hts nin_Locks nt_Locks nto_Locks nno_Locks hown hK hP hD hS 0 rfl rfl 1 (by decide) (hts _ tw_101) (fun _ h9 => h9) rfl hin rfl (by decide +kernel) rfl rfl (Nat.le_of_ble_eq_true rfl) nd_Locks_init_16 (fun H locs hP hD hS => ?_)
  have hP : va_P (dC, dI) vwCl ([(h0, .inr (2, [.ref q_1, .ref q_2, .null, .int 0])), (q_1, .inl (cI, 9, .inl (fun _ => 0))), (q_2, .inl (cI, 4, .inl (fun _ => 0)))]) H := hP
  have hD : va_D A ([(h0, .inr (2, [.ref q_1, .ref q_2, .null, .int 0])), (q_1, .inl (cI, 9, .inl (fun _ => 0))), (q_2, .inl (cI, 4, .inl (fun _ => 0)))]) := hD
  refine lv_aload_n hx hb nd_Locks_init_19 rfl (lv_at hl 0 rfl) ?_
  refine lv_iconst (v := 4) hx hb nd_Locks_init_20 (by decide) ?_
  refine va_newa (atype := .int) (ty := .int) (N' := 4) (a0 := (4, (.inl (fun _ => 0)))) hx hb (hts _ tw_60) rfl hK hP hD hS hA (fun _ => rfl) (by decide) (by decide) (by decide) (Nat.le_of_ble_eq_true rfl) (Nat.le_of_ble_eq_true rfl) nd_Locks_init_21 (fun q_3 cA H hK9 hP hD hS => ?_)
  cases cr_same hK9 (i := 0) (j := 3) rfl rfl rfl
  have hP : va_P (dC, dI) vwCl ([(h0, .inr (2, [.ref q_1, .ref q_2, .null, .int 0])), (q_1, .inl (cI, 9, .inl (fun _ => 0))), (q_2, .inl (cI, 4, .inl (fun _ => 0))), (q_3, .inl (cI, 4, .inl (fun _ => 0)))]) H := hP
  have hD : va_D A ([(h0, .inr (2, [.ref q_1, .ref q_2, .null, .int 0])), (q_1, .inl (cI, 9, .inl (fun _ => 0))), (q_2, .inl (cI, 4, .inl (fun _ => 0))), (q_3, .inl (cI, 4, .inl (fun _ => 0)))]) := hD
  refine W.widen (k := 3) (n := 17) (by decide) (by decide) ?_
  refine va_putF (D := (dC, dI)) (ci := 2) (v := .ref q_3) (ty := (.array .int)) (C := "CeilingRows$Locks") (T := nf_Locks) (N := 4) hx hb hts nin_Locks nt_Locks nto_Locks nno_Locks hown hK hP hD hS 0 rfl rfl 2 (by decide) (hts _ tw_102) (fun _ h9 => h9) rfl hin rfl (by decide +kernel) rfl rfl (Nat.le_of_ble_eq_true rfl) nd_Locks_init_23 (fun H locs hP hD hS => ?_)
  have hP : va_P (dC, dI) vwCl ([(h0, .inr (2, [.ref q_1, .ref q_2, .ref q_3, .int 0])), (q_1, .inl (cI, 9, .inl (fun _ => 0))), (q_2, .inl (cI, 4, .inl (fun _ => 0))), (q_3, .inl (cI, 4, .inl (fun _ => 0)))]) H := hP
  have hD : va_D A ([(h0, .inr (2, [.ref q_1, .ref q_2, .ref q_3, .int 0])), (q_1, .inl (cI, 9, .inl (fun _ => 0))), (q_2, .inl (cI, 4, .inl (fun _ => 0))), (q_3, .inl (cI, 4, .inl (fun _ => 0)))]) := hD
  have hP9 := hP.sub (ws' := cw_Locks cI cZ cO (fun k : Nat => match k with | 0 => h0 | 1 => q_1 | 2 => q_2 | 3 => q_3 | _ => 0) (fun _ _ => 0)) [0, 1, 2, 3] rfl
  have hD9 := hD.sub (ws' := cw_Locks cI cZ cO (fun k : Nat => match k with | 0 => h0 | 1 => q_1 | 2 => q_2 | 3 => q_3 | _ => 0) (fun _ _ => 0)) [0, 1, 2, 3] (by decide) rfl
  refine W.widen (k := 3) (n := 17) (by decide) (by decide) ?_
  exact W.vret hx hb hr (fun t ht hW => ⟨⟨(fun k : Nat => match k with | 0 => h0 | 1 => q_1 | 2 => q_2 | 3 => q_3 | _ => 0), rfl, rfl, by rw [ht]; exact hP9, va_K.moved hW.alike hK, hD9⟩, hS.F ht⟩) hS.2.2 nd_Locks_init_26

theorem nd_Trial_init_0 : decode prog_5_method_1_code 0 = .ok (.aload_n 0, 1) := by decide +kernel
theorem nd_Trial_init_1 : decode prog_5_method_1_code 1 = .ok (.invokespecial 3, 3) := by decide +kernel
theorem nd_Trial_init_4 : decode prog_5_method_1_code 4 = .ok (.aload_n 0, 1) := by decide +kernel
theorem nd_Trial_init_5 : decode prog_5_method_1_code 5 = .ok (.bipush 11, 2) := by decide +kernel
theorem nd_Trial_init_7 : decode prog_5_method_1_code 7 = .ok (.newarray .int, 2) := by decide +kernel
theorem nd_Trial_init_9 : decode prog_5_method_1_code 9 = .ok (.putfield 9, 3) := by decide +kernel
theorem nd_Trial_init_12 : decode prog_5_method_1_code 12 = .ok (.aload_n 0, 1) := by decide +kernel
theorem nd_Trial_init_13 : decode prog_5_method_1_code 13 = .ok (.bipush 11, 2) := by decide +kernel
theorem nd_Trial_init_15 : decode prog_5_method_1_code 15 = .ok (.bipush 11, 2) := by decide +kernel
theorem nd_Trial_init_17 : decode prog_5_method_1_code 17 = .ok (.multianewarray 15 2, 4) := by decide +kernel
theorem nd_Trial_init_21 : decode prog_5_method_1_code 21 = .ok (.putfield 17, 3) := by decide +kernel
theorem nd_Trial_init_24 : decode prog_5_method_1_code 24 = .ok (.aload_n 0, 1) := by decide +kernel
theorem nd_Trial_init_25 : decode prog_5_method_1_code 25 = .ok (.aload_n 1, 1) := by decide +kernel
theorem nd_Trial_init_26 : decode prog_5_method_1_code 26 = .ok (.putfield 20, 3) := by decide +kernel
theorem nd_Trial_init_29 : decode prog_5_method_1_code 29 = .ok (.aload_n 0, 1) := by decide +kernel
theorem nd_Trial_init_30 : decode prog_5_method_1_code 30 = .ok (.new 24, 3) := by decide +kernel
theorem nd_Trial_init_33 : decode prog_5_method_1_code 33 = .ok (.dup, 1) := by decide +kernel
theorem nd_Trial_init_34 : decode prog_5_method_1_code 34 = .ok (.aload_n 1, 1) := by decide +kernel
theorem nd_Trial_init_35 : decode prog_5_method_1_code 35 = .ok (.invokespecial 26, 3) := by decide +kernel
theorem nd_Trial_init_38 : decode prog_5_method_1_code 38 = .ok (.putfield 29, 3) := by decide +kernel
theorem nd_Trial_init_41 : decode prog_5_method_1_code 41 = .ok (.return_, 1) := by decide +kernel
set_option maxHeartbeats 4000000 in
set_option maxRecDepth 100000 in
theorem ct_Trial_init (l : Launch) (dC : Nat → ClassId) (dI : Nat → Nat → Nat) (cI cZ cO : ClassId) (apl : Nat → Nat) (h0 sz : Nat) : Met l ny_Trial_init nw_Trial_init ({ frames := 2, cells := 19, slots := 201, locals := 41 } : Room) (va_Pc [.ref h0, .ref (apl 0)] (fun U => U.heap.size = sz ∧ va_P (dC, dI) vwCl ([(h0, .inr (3, [.null, .null, .null, .null, .int 0]))]) U.heap ∧ va_K (dC, dI) vwCl [(cI, .int), (cZ, .boolean), (cO, .array .int)] U ∧ va_D (fun _ => True) ([(h0, .inr (3, [.null, .null, .null, .null, .int 0]))]) ∧ nz_all U)) (va_Qv (fun u : (Nat → Nat) × (Nat → Nat) => u.1 0 = h0) (fun u t => va_P (dC, dI) vwCl (cw_Trial cI cZ cO u.1 apl u.2 (fun _ _ => 0) ++ cw_Board cI cZ cO u.2 apl (fun _ _ => 0)) t.heap ∧ va_K (dC, dI) vwCl [(cI, .int), (cZ, .boolean), (cO, .array .int)] t ∧ va_D (va_A ([(h0, .inr (3, [.null, .null, .null, .null, .int 0]))]) sz) (cw_Trial cI cZ cO u.1 apl u.2 (fun _ _ => 0) ++ cw_Board cI cZ cO u.2 apl (fun _ _ => 0))) (va_A ([(h0, .inr (3, [.null, .null, .null, .null, .int 0]))]) sz)) 19 201 (va_A ([(h0, .inr (3, [.null, .null, .null, .null, .int 0]))]) sz) := by
  refine Met.ofW (cc := prog_5_method_1_code) (maxL := 2) (ret := none) (by decide) rfl ?_
  intro p e s m args below meth c s₁ B hml hv
  obtain ⟨rfl, hsz, hP, hK, hD0, hZ⟩ := hv
  have hx := B.exec
  have hb := B.bytes
  have hr := B.returns
  have hts0 := atoms_spec (ws := nw_Trial_init) B.pre
  have hts : ∀ w ∈ ng_tbl, w.before ([.ref h0, .ref (apl 0)] : List Value).toArray s = true := fun w h => hts0 w (List.mem_cons_of_mem _ h)
  have hown : s.vm.findClass "CeilingRows$Trial" = some m.cls := findClass_of_methodNamed B.named
  have hlocks := B.notSynchronized
  have hin : meth.name = "<init>" := (name_of_methodNamed B.named B.method).1
  subst hsz
  have hD := hD0.self (sz := s.heap.size)
  generalize hAe : va_A ([(h0, .inr (3, [.null, .null, .null, .null, .int 0]))]) s.heap.size = A at hD ⊢
  have hA : ∀ q : Nat, s.heap.size ≤ q → A q := fun q h => by rw [← hAe]; exact Or.inr h
  have hS : va_S A s.heap s.heap [] := va_S.rf
  have hP : va_P (dC, dI) vwCl ([(h0, .inr (3, [.null, .null, .null, .null, .int 0]))]) s.heap := hP
  have hl := lv_entry ([.ref h0, .ref (apl 0)]) (n := 2) (Nat.le_of_ble_eq_true rfl)
  rw [lg_entry_eq]
  generalize (lg_sl ([.ref h0, .ref (apl 0)]) ++ List.replicate (2 - (lg_sl ([.ref h0, .ref (apl 0)])).length) Slot.unset).toArray = ls at hl ⊢
  have hl : lv_has ls 2 [(0, .ref h0), (1, .ref (apl 0))] := hl
  refine lv_aload_n hx hb nd_Trial_init_0 rfl (lv_at hl 0 rfl) ?_
  refine W.objInit hx hb hown (hts _ tw_118) (hts _ tw_16) (hts _ tw_17) rfl (by rw [hml]; exact hl.1) rfl nd_Trial_init_1 (Nat.le_of_ble_eq_true rfl) (Nat.le_of_ble_eq_true rfl) ?_
  refine W.eq (g2 := F0 m 4 ls []) rfl ?_
  refine lv_aload_n hx hb nd_Trial_init_4 rfl (lv_at hl 0 rfl) ?_
  refine lv_bipush (v := 11) hx hb nd_Trial_init_5 (by decide) ?_
  refine va_newa (atype := .int) (ty := .int) (N' := 11) (a0 := (11, (.inl (fun _ => 0)))) hx hb (hts _ tw_60) rfl hK hP hD hS hA (fun _ => rfl) (by decide) (by decide) (by decide) (Nat.le_of_ble_eq_true rfl) (Nat.le_of_ble_eq_true rfl) nd_Trial_init_7 (fun q_1 cA H hK9 hP hD hS => ?_)
  cases cr_same hK9 (i := 0) (j := 3) rfl rfl rfl
  have hP : va_P (dC, dI) vwCl ([(h0, .inr (3, [.null, .null, .null, .null, .int 0])), (q_1, .inl (cI, 11, .inl (fun _ => 0)))]) H := hP
  have hD : va_D A ([(h0, .inr (3, [.null, .null, .null, .null, .int 0])), (q_1, .inl (cI, 11, .inl (fun _ => 0)))]) := hD
  refine W.widen (k := 1) (n := 11) (by decide) (by decide) ?_
  refine va_putF (D := (dC, dI)) (ci := 3) (v := .ref q_1) (ty := (.array .int)) (C := "CeilingRows$Trial") (T := nf_Trial) (N := 5) hx hb hts nin_Trial nt_Trial nto_Trial nno_Trial hown hK hP hD hS 0 rfl rfl 2 (by decide) (hts _ tw_124) (fun _ h9 => h9) rfl hin rfl (by decide +kernel) rfl rfl (Nat.le_of_ble_eq_true rfl) nd_Trial_init_9 (fun H locs hP hD hS => ?_)
  have hP : va_P (dC, dI) vwCl ([(h0, .inr (3, [.null, .null, .ref q_1, .null, .int 0])), (q_1, .inl (cI, 11, .inl (fun _ => 0)))]) H := hP
  have hD : va_D A ([(h0, .inr (3, [.null, .null, .ref q_1, .null, .int 0])), (q_1, .inl (cI, 11, .inl (fun _ => 0)))]) := hD
  refine lv_aload_n hx hb nd_Trial_init_12 rfl (lv_at hl 0 rfl) ?_
  refine lv_bipush (v := 11) hx hb nd_Trial_init_13 (by decide) ?_
  refine lv_bipush (v := 11) hx hb nd_Trial_init_15 (by decide) ?_
  refine cr_mna (N' := 11) (K' := 11) hx hb hown (hts _ tw_119) (nz_over (Vm.Alike.refl _) hZ.1) (hts _ tw_60) hK hP hD hS hA (by decide) (by decide) (by decide) (by decide) (by decide) (by decide) (by decide) (Nat.le_of_ble_eq_true rfl) (Nat.le_of_ble_eq_true rfl) nd_Trial_init_17 (fun q_2 r_3 H hP hD hS => ?_)
  have hP : va_P (dC, dI) vwCl ([(h0, .inr (3, [.null, .null, .ref q_1, .null, .int 0])), (q_1, .inl (cI, 11, .inl (fun _ => 0))), (q_2, .inl (cO, 11, .inr (.inr (.inr (.inr (fun i => if i < 11 then some (r_3 i) else none)))))), (r_3 0, .inl (cI, 11, .inl (fun _ => 0))), (r_3 1, .inl (cI, 11, .inl (fun _ => 0))), (r_3 2, .inl (cI, 11, .inl (fun _ => 0))), (r_3 3, .inl (cI, 11, .inl (fun _ => 0))), (r_3 4, .inl (cI, 11, .inl (fun _ => 0))), (r_3 5, .inl (cI, 11, .inl (fun _ => 0))), (r_3 6, .inl (cI, 11, .inl (fun _ => 0))), (r_3 7, .inl (cI, 11, .inl (fun _ => 0))), (r_3 8, .inl (cI, 11, .inl (fun _ => 0))), (r_3 9, .inl (cI, 11, .inl (fun _ => 0))), (r_3 10, .inl (cI, 11, .inl (fun _ => 0)))]) H := hP
  have hD : va_D A ([(h0, .inr (3, [.null, .null, .ref q_1, .null, .int 0])), (q_1, .inl (cI, 11, .inl (fun _ => 0))), (q_2, .inl (cO, 11, .inr (.inr (.inr (.inr (fun i => if i < 11 then some (r_3 i) else none)))))), (r_3 0, .inl (cI, 11, .inl (fun _ => 0))), (r_3 1, .inl (cI, 11, .inl (fun _ => 0))), (r_3 2, .inl (cI, 11, .inl (fun _ => 0))), (r_3 3, .inl (cI, 11, .inl (fun _ => 0))), (r_3 4, .inl (cI, 11, .inl (fun _ => 0))), (r_3 5, .inl (cI, 11, .inl (fun _ => 0))), (r_3 6, .inl (cI, 11, .inl (fun _ => 0))), (r_3 7, .inl (cI, 11, .inl (fun _ => 0))), (r_3 8, .inl (cI, 11, .inl (fun _ => 0))), (r_3 9, .inl (cI, 11, .inl (fun _ => 0))), (r_3 10, .inl (cI, 11, .inl (fun _ => 0)))]) := hD
  refine W.widen (k := 13) (n := 143) (by decide) (by decide) ?_
  refine va_putF (D := (dC, dI)) (ci := 3) (v := .ref q_2) (ty := (.array (.array .int))) (C := "CeilingRows$Trial") (T := nf_Trial) (N := 5) hx hb hts nin_Trial nt_Trial nto_Trial nno_Trial hown hK hP hD hS 0 rfl rfl 3 (by decide) (hts _ tw_125) (fun _ h9 => h9) rfl hin rfl (by decide +kernel) rfl rfl (Nat.le_of_ble_eq_true rfl) nd_Trial_init_21 (fun H locs hP hD hS => ?_)
  have hP : va_P (dC, dI) vwCl ([(h0, .inr (3, [.null, .null, .ref q_1, .ref q_2, .int 0])), (q_1, .inl (cI, 11, .inl (fun _ => 0))), (q_2, .inl (cO, 11, .inr (.inr (.inr (.inr (fun i => if i < 11 then some (r_3 i) else none)))))), (r_3 0, .inl (cI, 11, .inl (fun _ => 0))), (r_3 1, .inl (cI, 11, .inl (fun _ => 0))), (r_3 2, .inl (cI, 11, .inl (fun _ => 0))), (r_3 3, .inl (cI, 11, .inl (fun _ => 0))), (r_3 4, .inl (cI, 11, .inl (fun _ => 0))), (r_3 5, .inl (cI, 11, .inl (fun _ => 0))), (r_3 6, .inl (cI, 11, .inl (fun _ => 0))), (r_3 7, .inl (cI, 11, .inl (fun _ => 0))), (r_3 8, .inl (cI, 11, .inl (fun _ => 0))), (r_3 9, .inl (cI, 11, .inl (fun _ => 0))), (r_3 10, .inl (cI, 11, .inl (fun _ => 0)))]) H := hP
  have hD : va_D A ([(h0, .inr (3, [.null, .null, .ref q_1, .ref q_2, .int 0])), (q_1, .inl (cI, 11, .inl (fun _ => 0))), (q_2, .inl (cO, 11, .inr (.inr (.inr (.inr (fun i => if i < 11 then some (r_3 i) else none)))))), (r_3 0, .inl (cI, 11, .inl (fun _ => 0))), (r_3 1, .inl (cI, 11, .inl (fun _ => 0))), (r_3 2, .inl (cI, 11, .inl (fun _ => 0))), (r_3 3, .inl (cI, 11, .inl (fun _ => 0))), (r_3 4, .inl (cI, 11, .inl (fun _ => 0))), (r_3 5, .inl (cI, 11, .inl (fun _ => 0))), (r_3 6, .inl (cI, 11, .inl (fun _ => 0))), (r_3 7, .inl (cI, 11, .inl (fun _ => 0))), (r_3 8, .inl (cI, 11, .inl (fun _ => 0))), (r_3 9, .inl (cI, 11, .inl (fun _ => 0))), (r_3 10, .inl (cI, 11, .inl (fun _ => 0)))]) := hD
  refine lv_aload_n hx hb nd_Trial_init_24 rfl (lv_at hl 0 rfl) ?_
  refine lv_aload_n hx hb nd_Trial_init_25 rfl (lv_at hl 1 rfl) ?_
  refine va_putF (D := (dC, dI)) (ci := 3) (v := .ref (apl 0)) (ty := (.object "CeilingRows$Plan")) (C := "CeilingRows$Trial") (T := nf_Trial) (N := 5) hx hb hts nin_Trial nt_Trial nto_Trial nno_Trial hown hK hP hD hS 0 rfl rfl 0 (by decide) (hts _ tw_122) (fun _ h9 => h9) rfl hin rfl (by decide +kernel) rfl rfl (Nat.le_of_ble_eq_true rfl) nd_Trial_init_26 (fun H locs hP hD hS => ?_)
  have hP : va_P (dC, dI) vwCl ([(h0, .inr (3, [.ref (apl 0), .null, .ref q_1, .ref q_2, .int 0])), (q_1, .inl (cI, 11, .inl (fun _ => 0))), (q_2, .inl (cO, 11, .inr (.inr (.inr (.inr (fun i => if i < 11 then some (r_3 i) else none)))))), (r_3 0, .inl (cI, 11, .inl (fun _ => 0))), (r_3 1, .inl (cI, 11, .inl (fun _ => 0))), (r_3 2, .inl (cI, 11, .inl (fun _ => 0))), (r_3 3, .inl (cI, 11, .inl (fun _ => 0))), (r_3 4, .inl (cI, 11, .inl (fun _ => 0))), (r_3 5, .inl (cI, 11, .inl (fun _ => 0))), (r_3 6, .inl (cI, 11, .inl (fun _ => 0))), (r_3 7, .inl (cI, 11, .inl (fun _ => 0))), (r_3 8, .inl (cI, 11, .inl (fun _ => 0))), (r_3 9, .inl (cI, 11, .inl (fun _ => 0))), (r_3 10, .inl (cI, 11, .inl (fun _ => 0)))]) H := hP
  have hD : va_D A ([(h0, .inr (3, [.ref (apl 0), .null, .ref q_1, .ref q_2, .int 0])), (q_1, .inl (cI, 11, .inl (fun _ => 0))), (q_2, .inl (cO, 11, .inr (.inr (.inr (.inr (fun i => if i < 11 then some (r_3 i) else none)))))), (r_3 0, .inl (cI, 11, .inl (fun _ => 0))), (r_3 1, .inl (cI, 11, .inl (fun _ => 0))), (r_3 2, .inl (cI, 11, .inl (fun _ => 0))), (r_3 3, .inl (cI, 11, .inl (fun _ => 0))), (r_3 4, .inl (cI, 11, .inl (fun _ => 0))), (r_3 5, .inl (cI, 11, .inl (fun _ => 0))), (r_3 6, .inl (cI, 11, .inl (fun _ => 0))), (r_3 7, .inl (cI, 11, .inl (fun _ => 0))), (r_3 8, .inl (cI, 11, .inl (fun _ => 0))), (r_3 9, .inl (cI, 11, .inl (fun _ => 0))), (r_3 10, .inl (cI, 11, .inl (fun _ => 0)))]) := hD
  refine lv_aload_n hx hb nd_Trial_init_29 rfl (lv_at hl 0 rfl) ?_
  refine va_new (ci := 1) (fs := [.null, .null, .null, .int 0, .null, .null, .null]) (C := "CeilingRows$Board") (T := nf_Board) (N := 7) hx hb hts nin_Board nt_Board nto_Board hown (hts _ tw_120) (hts _ tw_62) (hts _ tw_3) hK hP hD hS hA rfl (fun j hj => by rcases (show j = 0 ∨ j = 1 ∨ j = 2 ∨ j = 3 ∨ j = 4 ∨ j = 5 ∨ j = 6 by omega) with rfl | rfl | rfl | rfl | rfl | rfl | rfl <;> rfl) (Nat.le_of_ble_eq_true rfl) (Nat.le_of_ble_eq_true rfl) nd_Trial_init_30 (fun q_4 H hP hD hS => ?_)
  have hP : va_P (dC, dI) vwCl ([(h0, .inr (3, [.ref (apl 0), .null, .ref q_1, .ref q_2, .int 0])), (q_1, .inl (cI, 11, .inl (fun _ => 0))), (q_2, .inl (cO, 11, .inr (.inr (.inr (.inr (fun i => if i < 11 then some (r_3 i) else none)))))), (r_3 0, .inl (cI, 11, .inl (fun _ => 0))), (r_3 1, .inl (cI, 11, .inl (fun _ => 0))), (r_3 2, .inl (cI, 11, .inl (fun _ => 0))), (r_3 3, .inl (cI, 11, .inl (fun _ => 0))), (r_3 4, .inl (cI, 11, .inl (fun _ => 0))), (r_3 5, .inl (cI, 11, .inl (fun _ => 0))), (r_3 6, .inl (cI, 11, .inl (fun _ => 0))), (r_3 7, .inl (cI, 11, .inl (fun _ => 0))), (r_3 8, .inl (cI, 11, .inl (fun _ => 0))), (r_3 9, .inl (cI, 11, .inl (fun _ => 0))), (r_3 10, .inl (cI, 11, .inl (fun _ => 0))), (q_4, .inr (1, [.null, .null, .null, .int 0, .null, .null, .null]))]) H := hP
  have hD : va_D A ([(h0, .inr (3, [.ref (apl 0), .null, .ref q_1, .ref q_2, .int 0])), (q_1, .inl (cI, 11, .inl (fun _ => 0))), (q_2, .inl (cO, 11, .inr (.inr (.inr (.inr (fun i => if i < 11 then some (r_3 i) else none)))))), (r_3 0, .inl (cI, 11, .inl (fun _ => 0))), (r_3 1, .inl (cI, 11, .inl (fun _ => 0))), (r_3 2, .inl (cI, 11, .inl (fun _ => 0))), (r_3 3, .inl (cI, 11, .inl (fun _ => 0))), (r_3 4, .inl (cI, 11, .inl (fun _ => 0))), (r_3 5, .inl (cI, 11, .inl (fun _ => 0))), (r_3 6, .inl (cI, 11, .inl (fun _ => 0))), (r_3 7, .inl (cI, 11, .inl (fun _ => 0))), (r_3 8, .inl (cI, 11, .inl (fun _ => 0))), (r_3 9, .inl (cI, 11, .inl (fun _ => 0))), (r_3 10, .inl (cI, 11, .inl (fun _ => 0))), (q_4, .inr (1, [.null, .null, .null, .int 0, .null, .null, .null]))]) := hD
  refine W.widen (k := 14) (n := 150) (by decide) (by decide) ?_
  refine lv_dup hx hb nd_Trial_init_33 rfl ?_
  refine lv_aload_n hx hb nd_Trial_init_34 rfl (lv_at hl 1 rfl) ?_
  have hPc := hP.sub (ws' := [(q_4, .inr (1, [.null, .null, .null, .int 0, .null, .null, .null]))]) [14] rfl
  have hDc := hD.sub (ws' := [(q_4, .inr (1, [.null, .null, .null, .int 0, .null, .null, .null]))]) [14] (by decide) rfl
  have hFc := va_free (wc := [(q_4, .inr (1, [.null, .null, .null, .int 0, .null, .null, .null]))]) hD hS hA [14] rfl
  refine va_callv (va_runI (As := [.ref (apl 0)]) (rest := [.ref q_4, .ref h0]) ⟨hx, hb, hml, hown, hts⟩ (ct_Board_init l dC dI cI cZ cO apl q_4 H.size) (cwI 1 hts (ng_C tw_65) rfl rfl rfl (hts _ tw_3) (hts _ tw_121) (hts _ tw_64) rfl (by decide +kernel) ⟨Nat.le_of_ble_eq_true rfl, Nat.le_of_ble_eq_true rfl⟩) ⟨fun a U g mk q => by obtain ⟨q0, q1, qP, qK, qD, qZ⟩ := q; exact ⟨q0, q1, qP, va_K.moved (u := U) (U := U.calling g mk a) (Vm.Alike.refl U.vm) qK, qD, nz_same (u := U) (U := U.calling g mk a) rfl qZ⟩, fun U hU hW => ⟨rfl, by rw [hU], by rw [hU]; exact hPc, va_K.moved hW.alike hK, hDc.weaken (fun _ _ _ _ => trivial), nz_warm hW hZ⟩⟩ rfl rfl hl.1 rfl (lv_room (Nat.le_of_ble_eq_true rfl)) nd_Trial_init_35 ⟨Nat.le_of_ble_eq_true rfl, Nat.le_of_ble_eq_true rfl⟩) hS (fun q _ h => hFc q h) hFc (fun u_5 t H1 locs ht hvm hw hB hz1 hk1 hS => ?_)
  obtain ⟨hP1, hK1, hD1⟩ := hB
  rw [ht] at hP1
  try dsimp only at hw
  subst hw
  obtain ⟨hP, hD⟩ := va_join (wr := [(h0, .inr (3, [.ref (apl 0), .null, .ref q_1, .ref q_2, .int 0])), (q_1, .inl (cI, 11, .inl (fun _ => 0))), (q_2, .inl (cO, 11, .inr (.inr (.inr (.inr (fun i => if i < 11 then some (r_3 i) else none)))))), (r_3 0, .inl (cI, 11, .inl (fun _ => 0))), (r_3 1, .inl (cI, 11, .inl (fun _ => 0))), (r_3 2, .inl (cI, 11, .inl (fun _ => 0))), (r_3 3, .inl (cI, 11, .inl (fun _ => 0))), (r_3 4, .inl (cI, 11, .inl (fun _ => 0))), (r_3 5, .inl (cI, 11, .inl (fun _ => 0))), (r_3 6, .inl (cI, 11, .inl (fun _ => 0))), (r_3 7, .inl (cI, 11, .inl (fun _ => 0))), (r_3 8, .inl (cI, 11, .inl (fun _ => 0))), (r_3 9, .inl (cI, 11, .inl (fun _ => 0))), (r_3 10, .inl (cI, 11, .inl (fun _ => 0)))]) (w1 := cw_Board cI cZ cO u_5 apl (fun _ _ => 0)) hP hD [14] [0, 1, 2, 3, 4, 5, 6, 7, 8, 9, 10, 11, 12, 13] rfl rfl (by decide) (by decide) hk1 hFc hP1 hD1
  generalize H1 = H at hP hS ⊢
  have hP : va_P (dC, dI) vwCl ([(h0, .inr (3, [.ref (apl 0), .null, .ref q_1, .ref q_2, .int 0])), (q_1, .inl (cI, 11, .inl (fun _ => 0))), (q_2, .inl (cO, 11, .inr (.inr (.inr (.inr (fun i => if i < 11 then some (r_3 i) else none)))))), (r_3 0, .inl (cI, 11, .inl (fun _ => 0))), (r_3 1, .inl (cI, 11, .inl (fun _ => 0))), (r_3 2, .inl (cI, 11, .inl (fun _ => 0))), (r_3 3, .inl (cI, 11, .inl (fun _ => 0))), (r_3 4, .inl (cI, 11, .inl (fun _ => 0))), (r_3 5, .inl (cI, 11, .inl (fun _ => 0))), (r_3 6, .inl (cI, 11, .inl (fun _ => 0))), (r_3 7, .inl (cI, 11, .inl (fun _ => 0))), (r_3 8, .inl (cI, 11, .inl (fun _ => 0))), (r_3 9, .inl (cI, 11, .inl (fun _ => 0))), (r_3 10, .inl (cI, 11, .inl (fun _ => 0)))] ++ cw_Board cI cZ cO u_5 apl (fun _ _ => 0)) H := hP
  have hD : va_D A ([(h0, .inr (3, [.ref (apl 0), .null, .ref q_1, .ref q_2, .int 0])), (q_1, .inl (cI, 11, .inl (fun _ => 0))), (q_2, .inl (cO, 11, .inr (.inr (.inr (.inr (fun i => if i < 11 then some (r_3 i) else none)))))), (r_3 0, .inl (cI, 11, .inl (fun _ => 0))), (r_3 1, .inl (cI, 11, .inl (fun _ => 0))), (r_3 2, .inl (cI, 11, .inl (fun _ => 0))), (r_3 3, .inl (cI, 11, .inl (fun _ => 0))), (r_3 4, .inl (cI, 11, .inl (fun _ => 0))), (r_3 5, .inl (cI, 11, .inl (fun _ => 0))), (r_3 6, .inl (cI, 11, .inl (fun _ => 0))), (r_3 7, .inl (cI, 11, .inl (fun _ => 0))), (r_3 8, .inl (cI, 11, .inl (fun _ => 0))), (r_3 9, .inl (cI, 11, .inl (fun _ => 0))), (r_3 10, .inl (cI, 11, .inl (fun _ => 0)))] ++ cw_Board cI cZ cO u_5 apl (fun _ _ => 0)) := hD
  refine W.widen (k := 19) (n := 201) (by decide) (by decide) ?_
  refine va_putF (D := (dC, dI)) (ci := 3) (v := .ref (u_5 0)) (ty := (.object "CeilingRows$Board")) (C := "CeilingRows$Trial") (T := nf_Trial) (N := 5) hx hb hts nin_Trial nt_Trial nto_Trial nno_Trial hown hK hP hD hS 0 rfl rfl 1 (by decide) (hts _ tw_123) (fun _ h9 => h9) rfl hin rfl (by decide +kernel) rfl rfl (Nat.le_of_ble_eq_true rfl) nd_Trial_init_38 (fun H locs hP hD hS => ?_)
  have hP : va_P (dC, dI) vwCl ([(h0, .inr (3, [.ref (apl 0), .ref (u_5 0), .ref q_1, .ref q_2, .int 0])), (q_1, .inl (cI, 11, .inl (fun _ => 0))), (q_2, .inl (cO, 11, .inr (.inr (.inr (.inr (fun i => if i < 11 then some (r_3 i) else none)))))), (r_3 0, .inl (cI, 11, .inl (fun _ => 0))), (r_3 1, .inl (cI, 11, .inl (fun _ => 0))), (r_3 2, .inl (cI, 11, .inl (fun _ => 0))), (r_3 3, .inl (cI, 11, .inl (fun _ => 0))), (r_3 4, .inl (cI, 11, .inl (fun _ => 0))), (r_3 5, .inl (cI, 11, .inl (fun _ => 0))), (r_3 6, .inl (cI, 11, .inl (fun _ => 0))), (r_3 7, .inl (cI, 11, .inl (fun _ => 0))), (r_3 8, .inl (cI, 11, .inl (fun _ => 0))), (r_3 9, .inl (cI, 11, .inl (fun _ => 0))), (r_3 10, .inl (cI, 11, .inl (fun _ => 0)))] ++ cw_Board cI cZ cO u_5 apl (fun _ _ => 0)) H := hP
  have hD : va_D A ([(h0, .inr (3, [.ref (apl 0), .ref (u_5 0), .ref q_1, .ref q_2, .int 0])), (q_1, .inl (cI, 11, .inl (fun _ => 0))), (q_2, .inl (cO, 11, .inr (.inr (.inr (.inr (fun i => if i < 11 then some (r_3 i) else none)))))), (r_3 0, .inl (cI, 11, .inl (fun _ => 0))), (r_3 1, .inl (cI, 11, .inl (fun _ => 0))), (r_3 2, .inl (cI, 11, .inl (fun _ => 0))), (r_3 3, .inl (cI, 11, .inl (fun _ => 0))), (r_3 4, .inl (cI, 11, .inl (fun _ => 0))), (r_3 5, .inl (cI, 11, .inl (fun _ => 0))), (r_3 6, .inl (cI, 11, .inl (fun _ => 0))), (r_3 7, .inl (cI, 11, .inl (fun _ => 0))), (r_3 8, .inl (cI, 11, .inl (fun _ => 0))), (r_3 9, .inl (cI, 11, .inl (fun _ => 0))), (r_3 10, .inl (cI, 11, .inl (fun _ => 0)))] ++ cw_Board cI cZ cO u_5 apl (fun _ _ => 0)) := hD
  have hg_r_3 : (fun i => if i < 11 then some (r_3 i) else none) = cr_gr (fun k : Nat => match k with | 0 => h0 | 1 => q_1 | 2 => q_2 | k + 3 => r_3 k) 3 11 := cr_gre (fun i _ => by rw [Nat.add_comm])
  rw [hg_r_3] at hP hD
  have hP9 := hP.sub (ws' := cw_Trial cI cZ cO ((fun k : Nat => match k with | 0 => h0 | 1 => q_1 | 2 => q_2 | k + 3 => r_3 k), u_5).1 apl ((fun k : Nat => match k with | 0 => h0 | 1 => q_1 | 2 => q_2 | k + 3 => r_3 k), u_5).2 (fun _ _ => 0) ++ cw_Board cI cZ cO ((fun k : Nat => match k with | 0 => h0 | 1 => q_1 | 2 => q_2 | k + 3 => r_3 k), u_5).2 apl (fun _ _ => 0)) [0, 1, 2, 3, 4, 5, 6, 7, 8, 9, 10, 11, 12, 13, 14, 15, 16, 17, 18, 19] rfl
  have hD9 := hD.sub (ws' := cw_Trial cI cZ cO ((fun k : Nat => match k with | 0 => h0 | 1 => q_1 | 2 => q_2 | k + 3 => r_3 k), u_5).1 apl ((fun k : Nat => match k with | 0 => h0 | 1 => q_1 | 2 => q_2 | k + 3 => r_3 k), u_5).2 (fun _ _ => 0) ++ cw_Board cI cZ cO ((fun k : Nat => match k with | 0 => h0 | 1 => q_1 | 2 => q_2 | k + 3 => r_3 k), u_5).2 apl (fun _ _ => 0)) [0, 1, 2, 3, 4, 5, 6, 7, 8, 9, 10, 11, 12, 13, 14, 15, 16, 17, 18, 19] (by decide) rfl
  refine W.widen (k := 19) (n := 201) (by decide) (by decide) ?_
  exact W.vret hx hb hr (fun t ht hW => ⟨⟨((fun k : Nat => match k with | 0 => h0 | 1 => q_1 | 2 => q_2 | k + 3 => r_3 k), u_5), rfl, rfl, by rw [ht]; exact hP9, va_K.moved hW.alike hK, hD9⟩, hS.F ht⟩) hS.2.2 nd_Trial_init_41

theorem nd_Main_init_0 : decode prog_1_method_1_code 0 = .ok (.aload_n 0, 1) := by decide +kernel
theorem nd_Main_init_1 : decode prog_1_method_1_code 1 = .ok (.invokespecial 3, 3) := by decide +kernel
theorem nd_Main_init_4 : decode prog_1_method_1_code 4 = .ok (.aload_n 0, 1) := by decide +kernel
theorem nd_Main_init_5 : decode prog_1_method_1_code 5 = .ok (.new 9, 3) := by decide +kernel
theorem nd_Main_init_8 : decode prog_1_method_1_code 8 = .ok (.dup, 1) := by decide +kernel
theorem nd_Main_init_9 : decode prog_1_method_1_code 9 = .ok (.invokespecial 11, 3) := by decide +kernel
theorem nd_Main_init_12 : decode prog_1_method_1_code 12 = .ok (.putfield 12, 3) := by decide +kernel
theorem nd_Main_init_15 : decode prog_1_method_1_code 15 = .ok (.aload_n 0, 1) := by decide +kernel
theorem nd_Main_init_16 : decode prog_1_method_1_code 16 = .ok (.new 16, 3) := by decide +kernel
theorem nd_Main_init_19 : decode prog_1_method_1_code 19 = .ok (.dup, 1) := by decide +kernel
theorem nd_Main_init_20 : decode prog_1_method_1_code 20 = .ok (.aload_n 0, 1) := by decide +kernel
theorem nd_Main_init_21 : decode prog_1_method_1_code 21 = .ok (.getfield 12, 3) := by decide +kernel
theorem nd_Main_init_24 : decode prog_1_method_1_code 24 = .ok (.invokespecial 18, 3) := by decide +kernel
theorem nd_Main_init_27 : decode prog_1_method_1_code 27 = .ok (.putfield 21, 3) := by decide +kernel
theorem nd_Main_init_30 : decode prog_1_method_1_code 30 = .ok (.aload_n 0, 1) := by decide +kernel
theorem nd_Main_init_31 : decode prog_1_method_1_code 31 = .ok (.new 25, 3) := by decide +kernel
theorem nd_Main_init_34 : decode prog_1_method_1_code 34 = .ok (.dup, 1) := by decide +kernel
theorem nd_Main_init_35 : decode prog_1_method_1_code 35 = .ok (.invokespecial 27, 3) := by decide +kernel
theorem nd_Main_init_38 : decode prog_1_method_1_code 38 = .ok (.putfield 28, 3) := by decide +kernel
theorem nd_Main_init_41 : decode prog_1_method_1_code 41 = .ok (.aload_n 0, 1) := by decide +kernel
theorem nd_Main_init_42 : decode prog_1_method_1_code 42 = .ok (.new 32, 3) := by decide +kernel
theorem nd_Main_init_45 : decode prog_1_method_1_code 45 = .ok (.dup, 1) := by decide +kernel
theorem nd_Main_init_46 : decode prog_1_method_1_code 46 = .ok (.aload_n 0, 1) := by decide +kernel
theorem nd_Main_init_47 : decode prog_1_method_1_code 47 = .ok (.getfield 12, 3) := by decide +kernel
theorem nd_Main_init_50 : decode prog_1_method_1_code 50 = .ok (.invokespecial 34, 3) := by decide +kernel
theorem nd_Main_init_53 : decode prog_1_method_1_code 53 = .ok (.putfield 35, 3) := by decide +kernel
theorem nd_Main_init_56 : decode prog_1_method_1_code 56 = .ok (.aload_n 0, 1) := by decide +kernel
theorem nd_Main_init_57 : decode prog_1_method_1_code 57 = .ok (.bipush 11, 2) := by decide +kernel
theorem nd_Main_init_59 : decode prog_1_method_1_code 59 = .ok (.newarray .boolean, 2) := by decide +kernel
theorem nd_Main_init_61 : decode prog_1_method_1_code 61 = .ok (.putfield 39, 3) := by decide +kernel
theorem nd_Main_init_64 : decode prog_1_method_1_code 64 = .ok (.aload_n 0, 1) := by decide +kernel
theorem nd_Main_init_65 : decode prog_1_method_1_code 65 = .ok (.lconst 0, 1) := by decide +kernel
theorem nd_Main_init_66 : decode prog_1_method_1_code 66 = .ok (.putfield 43, 3) := by decide +kernel
theorem nd_Main_init_69 : decode prog_1_method_1_code 69 = .ok (.return_, 1) := by decide +kernel
set_option maxHeartbeats 4000000 in
set_option maxRecDepth 100000 in
theorem ct_Main_init (l : Launch) (dC : Nat → ClassId) (dI : Nat → Nat → Nat) (cI cZ cO : ClassId)  (h0 sz : Nat) : Met l ny_Main_init nw_Main_init ({ frames := 3, cells := 48, slots := 453, locals := 62 } : Room) (va_Pc [.ref h0] (fun U => U.heap.size = sz ∧ va_P (dC, dI) vwCl ([(h0, .inr (4, [.null, .null, .null, .null, .null, .long 0]))]) U.heap ∧ va_K (dC, dI) vwCl [(cI, .int), (cZ, .boolean), (cO, .array .int)] U ∧ va_D (fun _ => True) ([(h0, .inr (4, [.null, .null, .null, .null, .null, .long 0]))]) ∧ nz_all U)) (va_Qv (fun u : (Nat → Nat) × (Nat → Nat) × (Nat → Nat) × (Nat → Nat) × (Nat → Nat) × (Nat → Nat) => u.1 0 = h0) (fun u t => va_P (dC, dI) vwCl (cw_Main cI cZ cO u.1 u.2.1 u.2.2.1 u.2.2.2.1 u.2.2.2.2.1 (fun _ _ => 0) 0 ++ cw_Plan cI cZ cO u.2.1 (fun _ _ => 0) ++ cw_Board cI cZ cO u.2.2.1 u.2.1 (fun _ _ => 0) ++ cw_Locks cI cZ cO u.2.2.2.1 (fun _ _ => 0) ++ cw_Trial cI cZ cO u.2.2.2.2.1 u.2.1 u.2.2.2.2.2 (fun _ _ => 0) ++ cw_Board cI cZ cO u.2.2.2.2.2 u.2.1 (fun _ _ => 0)) t.heap ∧ va_K (dC, dI) vwCl [(cI, .int), (cZ, .boolean), (cO, .array .int)] t ∧ va_D (va_A ([(h0, .inr (4, [.null, .null, .null, .null, .null, .long 0]))]) sz) (cw_Main cI cZ cO u.1 u.2.1 u.2.2.1 u.2.2.2.1 u.2.2.2.2.1 (fun _ _ => 0) 0 ++ cw_Plan cI cZ cO u.2.1 (fun _ _ => 0) ++ cw_Board cI cZ cO u.2.2.1 u.2.1 (fun _ _ => 0) ++ cw_Locks cI cZ cO u.2.2.2.1 (fun _ _ => 0) ++ cw_Trial cI cZ cO u.2.2.2.2.1 u.2.1 u.2.2.2.2.2 (fun _ _ => 0) ++ cw_Board cI cZ cO u.2.2.2.2.2 u.2.1 (fun _ _ => 0))) (va_A ([(h0, .inr (4, [.null, .null, .null, .null, .null, .long 0]))]) sz)) 48 453 (va_A ([(h0, .inr (4, [.null, .null, .null, .null, .null, .long 0]))]) sz) := by
  refine Met.ofW (cc := prog_1_method_1_code) (maxL := 1) (ret := none) (by decide) rfl ?_
  intro p e s m args below meth c s₁ B hml hv
  obtain ⟨rfl, hsz, hP, hK, hD0, hZ⟩ := hv
  have hx := B.exec
  have hb := B.bytes
  have hr := B.returns
  have hts0 := atoms_spec (ws := nw_Main_init) B.pre
  have hts : ∀ w ∈ ng_tbl, w.before ([.ref h0] : List Value).toArray s = true := fun w h => hts0 w (List.mem_cons_of_mem _ h)
  have hown : s.vm.findClass "CeilingRows" = some m.cls := findClass_of_methodNamed B.named
  have hlocks := B.notSynchronized
  have hin : meth.name = "<init>" := (name_of_methodNamed B.named B.method).1
  subst hsz
  have hD := hD0.self (sz := s.heap.size)
  generalize hAe : va_A ([(h0, .inr (4, [.null, .null, .null, .null, .null, .long 0]))]) s.heap.size = A at hD ⊢
  have hA : ∀ q : Nat, s.heap.size ≤ q → A q := fun q h => by rw [← hAe]; exact Or.inr h
  have hS : va_S A s.heap s.heap [] := va_S.rf
  have hP : va_P (dC, dI) vwCl ([(h0, .inr (4, [.null, .null, .null, .null, .null, .long 0]))]) s.heap := hP
  have hl := lv_entry ([.ref h0]) (n := 1) (Nat.le_of_ble_eq_true rfl)
  rw [lg_entry_eq]
  generalize (lg_sl ([.ref h0]) ++ List.replicate (1 - (lg_sl ([.ref h0])).length) Slot.unset).toArray = ls at hl ⊢
  have hl : lv_has ls 1 [(0, .ref h0)] := hl
  refine lv_aload_n hx hb nd_Main_init_0 rfl (lv_at hl 0 rfl) ?_
  refine W.objInit hx hb hown (hts _ tw_15) (hts _ tw_16) (hts _ tw_17) rfl (by rw [hml]; exact hl.1) rfl nd_Main_init_1 (Nat.le_of_ble_eq_true rfl) (Nat.le_of_ble_eq_true rfl) ?_
  refine W.eq (g2 := F0 m 4 ls []) rfl ?_
  refine lv_aload_n hx hb nd_Main_init_4 rfl (lv_at hl 0 rfl) ?_
  refine va_new (ci := 0) (fs := [.int 0, .int 0, .null, .null, .null, .null, .null]) (C := "CeilingRows$Plan") (T := nf_Plan) (N := 7) hx hb hts nin_Plan nt_Plan nto_Plan hown (hts _ tw_18) (hts _ tw_19) (hts _ tw_2) hK hP hD hS hA rfl (fun j hj => by rcases (show j = 0 ∨ j = 1 ∨ j = 2 ∨ j = 3 ∨ j = 4 ∨ j = 5 ∨ j = 6 by omega) with rfl | rfl | rfl | rfl | rfl | rfl | rfl <;> rfl) (Nat.le_of_ble_eq_true rfl) (Nat.le_of_ble_eq_true rfl) nd_Main_init_5 (fun q_1 H hP hD hS => ?_)
  have hP : va_P (dC, dI) vwCl ([(h0, .inr (4, [.null, .null, .null, .null, .null, .long 0])), (q_1, .inr (0, [.int 0, .int 0, .null, .null, .null, .null, .null]))]) H := hP
  have hD : va_D A ([(h0, .inr (4, [.null, .null, .null, .null, .null, .long 0])), (q_1, .inr (0, [.int 0, .int 0, .null, .null, .null, .null, .null]))]) := hD
  refine W.widen (k := 1) (n := 7) (by decide) (by decide) ?_
  refine lv_dup hx hb nd_Main_init_8 rfl ?_
  have hPc := hP.sub (ws' := [(q_1, .inr (0, [.int 0, .int 0, .null, .null, .null, .null, .null]))]) [1] rfl
  have hDc := hD.sub (ws' := [(q_1, .inr (0, [.int 0, .int 0, .null, .null, .null, .null, .null]))]) [1] (by decide) rfl
  have hFc := va_free (wc := [(q_1, .inr (0, [.int 0, .int 0, .null, .null, .null, .null, .null]))]) hD hS hA [1] rfl
  refine va_callv (va_runIN (As := []) (rest := [.ref q_1, .ref h0]) ⟨hx, hb, hml, hown, hts⟩ (ct_Plan_init l dC dI cI cZ cO  q_1 H.size) ⟨va_cnB 0 hts (ng_C tw_22) rfl rfl rfl hZ.2.1 (hts _ tw_2) (by decide +kernel) ⟨Nat.le_of_ble_eq_true rfl, Nat.le_of_ble_eq_true rfl⟩, rfl, (hts _ tw_21)⟩ ⟨fun a U g mk q => by obtain ⟨q0, q1, qP, qK, qD, qZ⟩ := q; exact ⟨q0, q1, qP, va_K.moved (u := U) (U := U.calling g mk a) (Vm.Alike.refl U.vm) qK, qD, nz_same (u := U) (U := U.calling g mk a) rfl qZ⟩, fun U hU hW => ⟨rfl, by rw [hU], by rw [hU]; exact hPc, va_K.moved hW.alike hK, hDc.weaken (fun _ _ _ _ => trivial), nz_warm hW hZ⟩⟩ rfl rfl hl.1 rfl (lv_room (Nat.le_of_ble_eq_true rfl)) nd_Main_init_9 ⟨Nat.le_of_ble_eq_true rfl, Nat.le_of_ble_eq_true rfl⟩) hS (fun q _ h => hFc q h) hFc (fun u_2 t H1 locs ht hvm hw hB hz1 hk1 hS => ?_)
  obtain ⟨hP1, hK1, hD1⟩ := hB
  rw [ht] at hP1
  try dsimp only at hw
  subst hw
  obtain ⟨hP, hD⟩ := va_join (wr := [(h0, .inr (4, [.null, .null, .null, .null, .null, .long 0]))]) (w1 := cw_Plan cI cZ cO u_2 (fun _ _ => 0)) hP hD [1] [0] rfl rfl (by decide) (by decide) hk1 hFc hP1 hD1
  generalize H1 = H at hP hS ⊢
  have hP : va_P (dC, dI) vwCl ([(h0, .inr (4, [.null, .null, .null, .null, .null, .long 0]))] ++ cw_Plan cI cZ cO u_2 (fun _ _ => 0)) H := hP
  have hD : va_D A ([(h0, .inr (4, [.null, .null, .null, .null, .null, .long 0]))] ++ cw_Plan cI cZ cO u_2 (fun _ _ => 0)) := hD
  refine W.widen (k := 17) (n := 157) (by decide) (by decide) ?_
  refine va_putF (D := (dC, dI)) (ci := 4) (v := .ref (u_2 0)) (ty := (.object "CeilingRows$Plan")) (C := "CeilingRows") (T := nf_Main) (N := 6) hx hb hts nin_Main nt_Main nto_Main nno_Main hown hK hP hD hS 0 rfl rfl 0 (by decide) (hts _ tw_138) (fun _ h9 => h9) rfl hin rfl (by decide +kernel) rfl rfl (Nat.le_of_ble_eq_true rfl) nd_Main_init_12 (fun H locs hP hD hS => ?_)
  have hP : va_P (dC, dI) vwCl ([(h0, .inr (4, [.ref (u_2 0), .null, .null, .null, .null, .long 0]))] ++ cw_Plan cI cZ cO u_2 (fun _ _ => 0)) H := hP
  have hD : va_D A ([(h0, .inr (4, [.ref (u_2 0), .null, .null, .null, .null, .long 0]))] ++ cw_Plan cI cZ cO u_2 (fun _ _ => 0)) := hD
  refine lv_aload_n hx hb nd_Main_init_15 rfl (lv_at hl 0 rfl) ?_
  refine va_new (ci := 1) (fs := [.null, .null, .null, .int 0, .null, .null, .null]) (C := "CeilingRows$Board") (T := nf_Board) (N := 7) hx hb hts nin_Board nt_Board nto_Board hown (hts _ tw_61) (hts _ tw_62) (hts _ tw_3) hK hP hD hS hA rfl (fun j hj => by rcases (show j = 0 ∨ j = 1 ∨ j = 2 ∨ j = 3 ∨ j = 4 ∨ j = 5 ∨ j = 6 by omega) with rfl | rfl | rfl | rfl | rfl | rfl | rfl <;> rfl) (Nat.le_of_ble_eq_true rfl) (Nat.le_of_ble_eq_true rfl) nd_Main_init_16 (fun q_3 H hP hD hS => ?_)
  have hP : va_P (dC, dI) vwCl ([(h0, .inr (4, [.ref (u_2 0), .null, .null, .null, .null, .long 0]))] ++ cw_Plan cI cZ cO u_2 (fun _ _ => 0) ++ [(q_3, .inr (1, [.null, .null, .null, .int 0, .null, .null, .null]))]) H := hP
  have hD : va_D A ([(h0, .inr (4, [.ref (u_2 0), .null, .null, .null, .null, .long 0]))] ++ cw_Plan cI cZ cO u_2 (fun _ _ => 0) ++ [(q_3, .inr (1, [.null, .null, .null, .int 0, .null, .null, .null]))]) := hD
  refine W.widen (k := 18) (n := 164) (by decide) (by decide) ?_
  refine lv_dup hx hb nd_Main_init_19 rfl ?_
  refine lv_aload_n hx hb nd_Main_init_20 rfl (lv_at hl 0 rfl) ?_
  refine va_get (D := (dC, dI)) (ci := 4) (v := .ref (u_2 0)) (C := "CeilingRows") (T := nf_Main) (N := 6) hx hb hts nin_Main hown hK hP 0 rfl rfl 0 (by decide) (hts _ tw_138) (fun _ h9 => h9) rfl nd_Main_init_21 ?_
  have hPc := hP.sub (ws' := [(q_3, .inr (1, [.null, .null, .null, .int 0, .null, .null, .null]))]) [18] rfl
  have hDc := hD.sub (ws' := [(q_3, .inr (1, [.null, .null, .null, .int 0, .null, .null, .null]))]) [18] (by decide) rfl
  have hFc := va_free (wc := [(q_3, .inr (1, [.null, .null, .null, .int 0, .null, .null, .null]))]) hD hS hA [18] rfl
  refine va_callv (va_runI (As := [.ref (u_2 0)]) (rest := [.ref q_3, .ref h0]) ⟨hx, hb, hml, hown, hts⟩ (ct_Board_init l dC dI cI cZ cO u_2 q_3 H.size) (cwI 1 hts (ng_C tw_65) rfl rfl rfl (hts _ tw_3) (hts _ tw_63) (hts _ tw_64) rfl (by decide +kernel) ⟨Nat.le_of_ble_eq_true rfl, Nat.le_of_ble_eq_true rfl⟩) ⟨fun a U g mk q => by obtain ⟨q0, q1, qP, qK, qD, qZ⟩ := q; exact ⟨q0, q1, qP, va_K.moved (u := U) (U := U.calling g mk a) (Vm.Alike.refl U.vm) qK, qD, nz_same (u := U) (U := U.calling g mk a) rfl qZ⟩, fun U hU hW => ⟨rfl, by rw [hU], by rw [hU]; exact hPc, va_K.moved hW.alike hK, hDc.weaken (fun _ _ _ _ => trivial), nz_warm hW hZ⟩⟩ rfl rfl hl.1 rfl (lv_room (Nat.le_of_ble_eq_true rfl)) nd_Main_init_24 ⟨Nat.le_of_ble_eq_true rfl, Nat.le_of_ble_eq_true rfl⟩) hS (fun q _ h => hFc q h) hFc (fun u_4 t H1 locs ht hvm hw hB hz1 hk1 hS => ?_)
  obtain ⟨hP1, hK1, hD1⟩ := hB
  rw [ht] at hP1
  try dsimp only at hw
  subst hw
  obtain ⟨hP, hD⟩ := va_join (wr := [(h0, .inr (4, [.ref (u_2 0), .null, .null, .null, .null, .long 0]))] ++ cw_Plan cI cZ cO u_2 (fun _ _ => 0)) (w1 := cw_Board cI cZ cO u_4 u_2 (fun _ _ => 0)) hP hD [18] [0, 1, 2, 3, 4, 5, 6, 7, 8, 9, 10, 11, 12, 13, 14, 15, 16, 17] rfl rfl (by decide) (by decide) hk1 hFc hP1 hD1
  generalize H1 = H at hP hS ⊢
  have hP : va_P (dC, dI) vwCl ([(h0, .inr (4, [.ref (u_2 0), .null, .null, .null, .null, .long 0]))] ++ cw_Plan cI cZ cO u_2 (fun _ _ => 0) ++ cw_Board cI cZ cO u_4 u_2 (fun _ _ => 0)) H := hP
  have hD : va_D A ([(h0, .inr (4, [.ref (u_2 0), .null, .null, .null, .null, .long 0]))] ++ cw_Plan cI cZ cO u_2 (fun _ _ => 0) ++ cw_Board cI cZ cO u_4 u_2 (fun _ _ => 0)) := hD
  refine W.widen (k := 23) (n := 215) (by decide) (by decide) ?_
  refine va_putF (D := (dC, dI)) (ci := 4) (v := .ref (u_4 0)) (ty := (.object "CeilingRows$Board")) (C := "CeilingRows") (T := nf_Main) (N := 6) hx hb hts nin_Main nt_Main nto_Main nno_Main hown hK hP hD hS 0 rfl rfl 1 (by decide) (hts _ tw_139) (fun _ h9 => h9) rfl hin rfl (by decide +kernel) rfl rfl (Nat.le_of_ble_eq_true rfl) nd_Main_init_27 (fun H locs hP hD hS => ?_)
  have hP : va_P (dC, dI) vwCl ([(h0, .inr (4, [.ref (u_2 0), .ref (u_4 0), .null, .null, .null, .long 0]))] ++ cw_Plan cI cZ cO u_2 (fun _ _ => 0) ++ cw_Board cI cZ cO u_4 u_2 (fun _ _ => 0)) H := hP
  have hD : va_D A ([(h0, .inr (4, [.ref (u_2 0), .ref (u_4 0), .null, .null, .null, .long 0]))] ++ cw_Plan cI cZ cO u_2 (fun _ _ => 0) ++ cw_Board cI cZ cO u_4 u_2 (fun _ _ => 0)) := hD
  refine lv_aload_n hx hb nd_Main_init_30 rfl (lv_at hl 0 rfl) ?_
  refine va_new (ci := 2) (fs := [.null, .null, .null, .int 0]) (C := "CeilingRows$Locks") (T := nf_Locks) (N := 4) hx hb hts nin_Locks nt_Locks nto_Locks hown (hts _ tw_94) (hts _ tw_95) (hts _ tw_4) hK hP hD hS hA rfl (fun j hj => by rcases (show j = 0 ∨ j = 1 ∨ j = 2 ∨ j = 3 by omega) with rfl | rfl | rfl | rfl <;> rfl) (Nat.le_of_ble_eq_true rfl) (Nat.le_of_ble_eq_true rfl) nd_Main_init_31 (fun q_5 H hP hD hS => ?_)
  have hP : va_P (dC, dI) vwCl ([(h0, .inr (4, [.ref (u_2 0), .ref (u_4 0), .null, .null, .null, .long 0]))] ++ cw_Plan cI cZ cO u_2 (fun _ _ => 0) ++ cw_Board cI cZ cO u_4 u_2 (fun _ _ => 0) ++ [(q_5, .inr (2, [.null, .null, .null, .int 0]))]) H := hP
  have hD : va_D A ([(h0, .inr (4, [.ref (u_2 0), .ref (u_4 0), .null, .null, .null, .long 0]))] ++ cw_Plan cI cZ cO u_2 (fun _ _ => 0) ++ cw_Board cI cZ cO u_4 u_2 (fun _ _ => 0) ++ [(q_5, .inr (2, [.null, .null, .null, .int 0]))]) := hD
  refine W.widen (k := 24) (n := 219) (by decide) (by decide) ?_
  refine lv_dup hx hb nd_Main_init_34 rfl ?_
  have hPc := hP.sub (ws' := [(q_5, .inr (2, [.null, .null, .null, .int 0]))]) [24] rfl
  have hDc := hD.sub (ws' := [(q_5, .inr (2, [.null, .null, .null, .int 0]))]) [24] (by decide) rfl
  have hFc := va_free (wc := [(q_5, .inr (2, [.null, .null, .null, .int 0]))]) hD hS hA [24] rfl
  refine va_callv (va_runIN (As := []) (rest := [.ref q_5, .ref h0]) ⟨hx, hb, hml, hown, hts⟩ (ct_Locks_init l dC dI cI cZ cO  q_5 H.size) ⟨va_cnB 0 hts (ng_C tw_98) rfl rfl rfl hZ.2.2 (hts _ tw_4) (by decide +kernel) ⟨Nat.le_of_ble_eq_true rfl, Nat.le_of_ble_eq_true rfl⟩, rfl, (hts _ tw_97)⟩ ⟨fun a U g mk q => by obtain ⟨q0, q1, qP, qK, qD, qZ⟩ := q; exact ⟨q0, q1, qP, va_K.moved (u := U) (U := U.calling g mk a) (Vm.Alike.refl U.vm) qK, qD, nz_same (u := U) (U := U.calling g mk a) rfl qZ⟩, fun U hU hW => ⟨rfl, by rw [hU], by rw [hU]; exact hPc, va_K.moved hW.alike hK, hDc.weaken (fun _ _ _ _ => trivial), nz_warm hW hZ⟩⟩ rfl rfl hl.1 rfl (lv_room (Nat.le_of_ble_eq_true rfl)) nd_Main_init_35 ⟨Nat.le_of_ble_eq_true rfl, Nat.le_of_ble_eq_true rfl⟩) hS (fun q _ h => hFc q h) hFc (fun u_6 t H1 locs ht hvm hw hB hz1 hk1 hS => ?_)
  obtain ⟨hP1, hK1, hD1⟩ := hB
  rw [ht] at hP1
  try dsimp only at hw
  subst hw
  obtain ⟨hP, hD⟩ := va_join (wr := [(h0, .inr (4, [.ref (u_2 0), .ref (u_4 0), .null, .null, .null, .long 0]))] ++ cw_Plan cI cZ cO u_2 (fun _ _ => 0) ++ cw_Board cI cZ cO u_4 u_2 (fun _ _ => 0)) (w1 := cw_Locks cI cZ cO u_6 (fun _ _ => 0)) hP hD [24] [0, 1, 2, 3, 4, 5, 6, 7, 8, 9, 10, 11, 12, 13, 14, 15, 16, 17, 18, 19, 20, 21, 22, 23] rfl rfl (by decide) (by decide) hk1 hFc hP1 hD1
  generalize H1 = H at hP hS ⊢
  have hP : va_P (dC, dI) vwCl ([(h0, .inr (4, [.ref (u_2 0), .ref (u_4 0), .null, .null, .null, .long 0]))] ++ cw_Plan cI cZ cO u_2 (fun _ _ => 0) ++ cw_Board cI cZ cO u_4 u_2 (fun _ _ => 0) ++ cw_Locks cI cZ cO u_6 (fun _ _ => 0)) H := hP
  have hD : va_D A ([(h0, .inr (4, [.ref (u_2 0), .ref (u_4 0), .null, .null, .null, .long 0]))] ++ cw_Plan cI cZ cO u_2 (fun _ _ => 0) ++ cw_Board cI cZ cO u_4 u_2 (fun _ _ => 0) ++ cw_Locks cI cZ cO u_6 (fun _ _ => 0)) := hD
  refine W.widen (k := 27) (n := 236) (by decide) (by decide) ?_
  refine va_putF (D := (dC, dI)) (ci := 4) (v := .ref (u_6 0)) (ty := (.object "CeilingRows$Locks")) (C := "CeilingRows") (T := nf_Main) (N := 6) hx hb hts nin_Main nt_Main nto_Main nno_Main hown hK hP hD hS 0 rfl rfl 2 (by decide) (hts _ tw_140) (fun _ h9 => h9) rfl hin rfl (by decide +kernel) rfl rfl (Nat.le_of_ble_eq_true rfl) nd_Main_init_38 (fun H locs hP hD hS => ?_)
  have hP : va_P (dC, dI) vwCl ([(h0, .inr (4, [.ref (u_2 0), .ref (u_4 0), .ref (u_6 0), .null, .null, .long 0]))] ++ cw_Plan cI cZ cO u_2 (fun _ _ => 0) ++ cw_Board cI cZ cO u_4 u_2 (fun _ _ => 0) ++ cw_Locks cI cZ cO u_6 (fun _ _ => 0)) H := hP
  have hD : va_D A ([(h0, .inr (4, [.ref (u_2 0), .ref (u_4 0), .ref (u_6 0), .null, .null, .long 0]))] ++ cw_Plan cI cZ cO u_2 (fun _ _ => 0) ++ cw_Board cI cZ cO u_4 u_2 (fun _ _ => 0) ++ cw_Locks cI cZ cO u_6 (fun _ _ => 0)) := hD
  refine lv_aload_n hx hb nd_Main_init_41 rfl (lv_at hl 0 rfl) ?_
  refine va_new (ci := 3) (fs := [.null, .null, .null, .null, .int 0]) (C := "CeilingRows$Trial") (T := nf_Trial) (N := 5) hx hb hts nin_Trial nt_Trial nto_Trial hown (hts _ tw_113) (hts _ tw_114) (hts _ tw_5) hK hP hD hS hA rfl (fun j hj => by rcases (show j = 0 ∨ j = 1 ∨ j = 2 ∨ j = 3 ∨ j = 4 by omega) with rfl | rfl | rfl | rfl | rfl <;> rfl) (Nat.le_of_ble_eq_true rfl) (Nat.le_of_ble_eq_true rfl) nd_Main_init_42 (fun q_7 H hP hD hS => ?_)
  have hP : va_P (dC, dI) vwCl ([(h0, .inr (4, [.ref (u_2 0), .ref (u_4 0), .ref (u_6 0), .null, .null, .long 0]))] ++ cw_Plan cI cZ cO u_2 (fun _ _ => 0) ++ cw_Board cI cZ cO u_4 u_2 (fun _ _ => 0) ++ cw_Locks cI cZ cO u_6 (fun _ _ => 0) ++ [(q_7, .inr (3, [.null, .null, .null, .null, .int 0]))]) H := hP
  have hD : va_D A ([(h0, .inr (4, [.ref (u_2 0), .ref (u_4 0), .ref (u_6 0), .null, .null, .long 0]))] ++ cw_Plan cI cZ cO u_2 (fun _ _ => 0) ++ cw_Board cI cZ cO u_4 u_2 (fun _ _ => 0) ++ cw_Locks cI cZ cO u_6 (fun _ _ => 0) ++ [(q_7, .inr (3, [.null, .null, .null, .null, .int 0]))]) := hD
  refine W.widen (k := 28) (n := 241) (by decide) (by decide) ?_
  refine lv_dup hx hb nd_Main_init_45 rfl ?_
  refine lv_aload_n hx hb nd_Main_init_46 rfl (lv_at hl 0 rfl) ?_
  refine va_get (D := (dC, dI)) (ci := 4) (v := .ref (u_2 0)) (C := "CeilingRows") (T := nf_Main) (N := 6) hx hb hts nin_Main hown hK hP 0 rfl rfl 0 (by decide) (hts _ tw_138) (fun _ h9 => h9) rfl nd_Main_init_47 ?_
  have hPc := hP.sub (ws' := [(q_7, .inr (3, [.null, .null, .null, .null, .int 0]))]) [28] rfl
  have hDc := hD.sub (ws' := [(q_7, .inr (3, [.null, .null, .null, .null, .int 0]))]) [28] (by decide) rfl
  have hFc := va_free (wc := [(q_7, .inr (3, [.null, .null, .null, .null, .int 0]))]) hD hS hA [28] rfl
  refine va_callv (va_runI (As := [.ref (u_2 0)]) (rest := [.ref q_7, .ref h0]) ⟨hx, hb, hml, hown, hts⟩ (ct_Trial_init l dC dI cI cZ cO u_2 q_7 H.size) (cwI 1 hts (ng_C tw_117) rfl rfl rfl (hts _ tw_5) (hts _ tw_115) (hts _ tw_116) rfl (by decide +kernel) ⟨Nat.le_of_ble_eq_true rfl, Nat.le_of_ble_eq_true rfl⟩) ⟨fun a U g mk q => by obtain ⟨q0, q1, qP, qK, qD, qZ⟩ := q; exact ⟨q0, q1, qP, va_K.moved (u := U) (U := U.calling g mk a) (Vm.Alike.refl U.vm) qK, qD, nz_same (u := U) (U := U.calling g mk a) rfl qZ⟩, fun U hU hW => ⟨rfl, by rw [hU], by rw [hU]; exact hPc, va_K.moved hW.alike hK, hDc.weaken (fun _ _ _ _ => trivial), nz_warm hW hZ⟩⟩ rfl rfl hl.1 rfl (lv_room (Nat.le_of_ble_eq_true rfl)) nd_Main_init_50 ⟨Nat.le_of_ble_eq_true rfl, Nat.le_of_ble_eq_true rfl⟩) hS (fun q _ h => hFc q h) hFc (fun u_8 t H1 locs ht hvm hw hB hz1 hk1 hS => ?_)
  obtain ⟨hP1, hK1, hD1⟩ := hB
  rw [ht] at hP1
  try dsimp only at hw
  subst hw
  obtain ⟨hP, hD⟩ := va_join (wr := [(h0, .inr (4, [.ref (u_2 0), .ref (u_4 0), .ref (u_6 0), .null, .null, .long 0]))] ++ cw_Plan cI cZ cO u_2 (fun _ _ => 0) ++ cw_Board cI cZ cO u_4 u_2 (fun _ _ => 0) ++ cw_Locks cI cZ cO u_6 (fun _ _ => 0)) (w1 := cw_Trial cI cZ cO u_8.1 u_2 u_8.2 (fun _ _ => 0) ++ cw_Board cI cZ cO u_8.2 u_2 (fun _ _ => 0)) hP hD [28] [0, 1, 2, 3, 4, 5, 6, 7, 8, 9, 10, 11, 12, 13, 14, 15, 16, 17, 18, 19, 20, 21, 22, 23, 24, 25, 26, 27] rfl rfl (by decide) (by decide) hk1 hFc hP1 hD1
  generalize H1 = H at hP hS ⊢
  have hP : va_P (dC, dI) vwCl ([(h0, .inr (4, [.ref (u_2 0), .ref (u_4 0), .ref (u_6 0), .null, .null, .long 0]))] ++ cw_Plan cI cZ cO u_2 (fun _ _ => 0) ++ cw_Board cI cZ cO u_4 u_2 (fun _ _ => 0) ++ cw_Locks cI cZ cO u_6 (fun _ _ => 0) ++ cw_Trial cI cZ cO u_8.1 u_2 u_8.2 (fun _ _ => 0) ++ cw_Board cI cZ cO u_8.2 u_2 (fun _ _ => 0)) H := hP
  have hD : va_D A ([(h0, .inr (4, [.ref (u_2 0), .ref (u_4 0), .ref (u_6 0), .null, .null, .long 0]))] ++ cw_Plan cI cZ cO u_2 (fun _ _ => 0) ++ cw_Board cI cZ cO u_4 u_2 (fun _ _ => 0) ++ cw_Locks cI cZ cO u_6 (fun _ _ => 0) ++ cw_Trial cI cZ cO u_8.1 u_2 u_8.2 (fun _ _ => 0) ++ cw_Board cI cZ cO u_8.2 u_2 (fun _ _ => 0)) := hD
  refine W.widen (k := 47) (n := 442) (by decide) (by decide) ?_
  refine va_putF (D := (dC, dI)) (ci := 4) (v := .ref (u_8.1 0)) (ty := (.object "CeilingRows$Trial")) (C := "CeilingRows") (T := nf_Main) (N := 6) hx hb hts nin_Main nt_Main nto_Main nno_Main hown hK hP hD hS 0 rfl rfl 3 (by decide) (hts _ tw_141) (fun _ h9 => h9) rfl hin rfl (by decide +kernel) rfl rfl (Nat.le_of_ble_eq_true rfl) nd_Main_init_53 (fun H locs hP hD hS => ?_)
  have hP : va_P (dC, dI) vwCl ([(h0, .inr (4, [.ref (u_2 0), .ref (u_4 0), .ref (u_6 0), .ref (u_8.1 0), .null, .long 0]))] ++ cw_Plan cI cZ cO u_2 (fun _ _ => 0) ++ cw_Board cI cZ cO u_4 u_2 (fun _ _ => 0) ++ cw_Locks cI cZ cO u_6 (fun _ _ => 0) ++ cw_Trial cI cZ cO u_8.1 u_2 u_8.2 (fun _ _ => 0) ++ cw_Board cI cZ cO u_8.2 u_2 (fun _ _ => 0)) H := hP
  have hD : va_D A ([(h0, .inr (4, [.ref (u_2 0), .ref (u_4 0), .ref (u_6 0), .ref (u_8.1 0), .null, .long 0]))] ++ cw_Plan cI cZ cO u_2 (fun _ _ => 0) ++ cw_Board cI cZ cO u_4 u_2 (fun _ _ => 0) ++ cw_Locks cI cZ cO u_6 (fun _ _ => 0) ++ cw_Trial cI cZ cO u_8.1 u_2 u_8.2 (fun _ _ => 0) ++ cw_Board cI cZ cO u_8.2 u_2 (fun _ _ => 0)) := hD
  refine lv_aload_n hx hb nd_Main_init_56 rfl (lv_at hl 0 rfl) ?_
  refine lv_bipush (v := 11) hx hb nd_Main_init_57 (by decide) ?_
  refine va_newa (atype := .boolean) (ty := .boolean) (N' := 11) (a0 := (11, (.inl (fun _ => 0)))) hx hb (hts _ tw_157) rfl hK hP hD hS hA (fun _ => rfl) (by decide) (by decide) (by decide) (Nat.le_of_ble_eq_true rfl) (Nat.le_of_ble_eq_true rfl) nd_Main_init_59 (fun q_9 cA H hK9 hP hD hS => ?_)
  cases cr_same hK9 (i := 1) (j := 3) rfl rfl rfl
  have hP : va_P (dC, dI) vwCl ([(h0, .inr (4, [.ref (u_2 0), .ref (u_4 0), .ref (u_6 0), .ref (u_8.1 0), .null, .long 0]))] ++ cw_Plan cI cZ cO u_2 (fun _ _ => 0) ++ cw_Board cI cZ cO u_4 u_2 (fun _ _ => 0) ++ cw_Locks cI cZ cO u_6 (fun _ _ => 0) ++ cw_Trial cI cZ cO u_8.1 u_2 u_8.2 (fun _ _ => 0) ++ cw_Board cI cZ cO u_8.2 u_2 (fun _ _ => 0) ++ [(q_9, .inl (cZ, 11, .inl (fun _ => 0)))]) H := hP
  have hD : va_D A ([(h0, .inr (4, [.ref (u_2 0), .ref (u_4 0), .ref (u_6 0), .ref (u_8.1 0), .null, .long 0]))] ++ cw_Plan cI cZ cO u_2 (fun _ _ => 0) ++ cw_Board cI cZ cO u_4 u_2 (fun _ _ => 0) ++ cw_Locks cI cZ cO u_6 (fun _ _ => 0) ++ cw_Trial cI cZ cO u_8.1 u_2 u_8.2 (fun _ _ => 0) ++ cw_Board cI cZ cO u_8.2 u_2 (fun _ _ => 0) ++ [(q_9, .inl (cZ, 11, .inl (fun _ => 0)))]) := hD
  refine W.widen (k := 48) (n := 453) (by decide) (by decide) ?_
  refine va_putF (D := (dC, dI)) (ci := 4) (v := .ref q_9) (ty := (.array .boolean)) (C := "CeilingRows") (T := nf_Main) (N := 6) hx hb hts nin_Main nt_Main nto_Main nno_Main hown hK hP hD hS 0 rfl rfl 4 (by decide) (hts _ tw_142) (fun _ h9 => h9) rfl hin rfl (by decide +kernel) rfl rfl (Nat.le_of_ble_eq_true rfl) nd_Main_init_61 (fun H locs hP hD hS => ?_)
  have hP : va_P (dC, dI) vwCl ([(h0, .inr (4, [.ref (u_2 0), .ref (u_4 0), .ref (u_6 0), .ref (u_8.1 0), .ref q_9, .long 0]))] ++ cw_Plan cI cZ cO u_2 (fun _ _ => 0) ++ cw_Board cI cZ cO u_4 u_2 (fun _ _ => 0) ++ cw_Locks cI cZ cO u_6 (fun _ _ => 0) ++ cw_Trial cI cZ cO u_8.1 u_2 u_8.2 (fun _ _ => 0) ++ cw_Board cI cZ cO u_8.2 u_2 (fun _ _ => 0) ++ [(q_9, .inl (cZ, 11, .inl (fun _ => 0)))]) H := hP
  have hD : va_D A ([(h0, .inr (4, [.ref (u_2 0), .ref (u_4 0), .ref (u_6 0), .ref (u_8.1 0), .ref q_9, .long 0]))] ++ cw_Plan cI cZ cO u_2 (fun _ _ => 0) ++ cw_Board cI cZ cO u_4 u_2 (fun _ _ => 0) ++ cw_Locks cI cZ cO u_6 (fun _ _ => 0) ++ cw_Trial cI cZ cO u_8.1 u_2 u_8.2 (fun _ _ => 0) ++ cw_Board cI cZ cO u_8.2 u_2 (fun _ _ => 0) ++ [(q_9, .inl (cZ, 11, .inl (fun _ => 0)))]) := hD
  refine lv_aload_n hx hb nd_Main_init_64 rfl (lv_at hl 0 rfl) ?_
  refine lv_lconst (v := 0) hx hb nd_Main_init_65 (by decide) ?_
  refine va_put (D := (dC, dI)) (ci := 4) (v := .long (0 : Int64)) (ty := .long) (C := "CeilingRows") (T := nf_Main) (N := 6) hx hb hts nin_Main nt_Main nto_Main nno_Main hown hK hP hD hS 0 rfl rfl 5 (by decide) (hts _ tw_143) (fun _ h9 => h9) rfl (by decide +kernel) rfl rfl (Nat.le_of_ble_eq_true rfl) nd_Main_init_66 (fun H locs hP hD hS => ?_)
  have hP : va_P (dC, dI) vwCl ([(h0, .inr (4, [.ref (u_2 0), .ref (u_4 0), .ref (u_6 0), .ref (u_8.1 0), .ref q_9, .long (0 : Int64)]))] ++ cw_Plan cI cZ cO u_2 (fun _ _ => 0) ++ cw_Board cI cZ cO u_4 u_2 (fun _ _ => 0) ++ cw_Locks cI cZ cO u_6 (fun _ _ => 0) ++ cw_Trial cI cZ cO u_8.1 u_2 u_8.2 (fun _ _ => 0) ++ cw_Board cI cZ cO u_8.2 u_2 (fun _ _ => 0) ++ [(q_9, .inl (cZ, 11, .inl (fun _ => 0)))]) H := hP
  have hD : va_D A ([(h0, .inr (4, [.ref (u_2 0), .ref (u_4 0), .ref (u_6 0), .ref (u_8.1 0), .ref q_9, .long (0 : Int64)]))] ++ cw_Plan cI cZ cO u_2 (fun _ _ => 0) ++ cw_Board cI cZ cO u_4 u_2 (fun _ _ => 0) ++ cw_Locks cI cZ cO u_6 (fun _ _ => 0) ++ cw_Trial cI cZ cO u_8.1 u_2 u_8.2 (fun _ _ => 0) ++ cw_Board cI cZ cO u_8.2 u_2 (fun _ _ => 0) ++ [(q_9, .inl (cZ, 11, .inl (fun _ => 0)))]) := hD
  have hP9 := hP.sub (ws' := cw_Main cI cZ cO ((fun k : Nat => match k with | 0 => h0 | 1 => q_9 | _ => 0), u_2, u_4, u_6, u_8.1, u_8.2).1 ((fun k : Nat => match k with | 0 => h0 | 1 => q_9 | _ => 0), u_2, u_4, u_6, u_8.1, u_8.2).2.1 ((fun k : Nat => match k with | 0 => h0 | 1 => q_9 | _ => 0), u_2, u_4, u_6, u_8.1, u_8.2).2.2.1 ((fun k : Nat => match k with | 0 => h0 | 1 => q_9 | _ => 0), u_2, u_4, u_6, u_8.1, u_8.2).2.2.2.1 ((fun k : Nat => match k with | 0 => h0 | 1 => q_9 | _ => 0), u_2, u_4, u_6, u_8.1, u_8.2).2.2.2.2.1 (fun _ _ => 0) 0 ++ cw_Plan cI cZ cO ((fun k : Nat => match k with | 0 => h0 | 1 => q_9 | _ => 0), u_2, u_4, u_6, u_8.1, u_8.2).2.1 (fun _ _ => 0) ++ cw_Board cI cZ cO ((fun k : Nat => match k with | 0 => h0 | 1 => q_9 | _ => 0), u_2, u_4, u_6, u_8.1, u_8.2).2.2.1 ((fun k : Nat => match k with | 0 => h0 | 1 => q_9 | _ => 0), u_2, u_4, u_6, u_8.1, u_8.2).2.1 (fun _ _ => 0) ++ cw_Locks cI cZ cO ((fun k : Nat => match k with | 0 => h0 | 1 => q_9 | _ => 0), u_2, u_4, u_6, u_8.1, u_8.2).2.2.2.1 (fun _ _ => 0) ++ cw_Trial cI cZ cO ((fun k : Nat => match k with | 0 => h0 | 1 => q_9 | _ => 0), u_2, u_4, u_6, u_8.1, u_8.2).2.2.2.2.1 ((fun k : Nat => match k with | 0 => h0 | 1 => q_9 | _ => 0), u_2, u_4, u_6, u_8.1, u_8.2).2.1 ((fun k : Nat => match k with | 0 => h0 | 1 => q_9 | _ => 0), u_2, u_4, u_6, u_8.1, u_8.2).2.2.2.2.2 (fun _ _ => 0) ++ cw_Board cI cZ cO ((fun k : Nat => match k with | 0 => h0 | 1 => q_9 | _ => 0), u_2, u_4, u_6, u_8.1, u_8.2).2.2.2.2.2 ((fun k : Nat => match k with | 0 => h0 | 1 => q_9 | _ => 0), u_2, u_4, u_6, u_8.1, u_8.2).2.1 (fun _ _ => 0)) [0, 48, 1, 2, 3, 4, 5, 6, 7, 8, 9, 10, 11, 12, 13, 14, 15, 16, 17, 18, 19, 20, 21, 22, 23, 24, 25, 26, 27, 28, 29, 30, 31, 32, 33, 34, 35, 36, 37, 38, 39, 40, 41, 42, 43, 44, 45, 46, 47] rfl
  have hD9 := hD.sub (ws' := cw_Main cI cZ cO ((fun k : Nat => match k with | 0 => h0 | 1 => q_9 | _ => 0), u_2, u_4, u_6, u_8.1, u_8.2).1 ((fun k : Nat => match k with | 0 => h0 | 1 => q_9 | _ => 0), u_2, u_4, u_6, u_8.1, u_8.2).2.1 ((fun k : Nat => match k with | 0 => h0 | 1 => q_9 | _ => 0), u_2, u_4, u_6, u_8.1, u_8.2).2.2.1 ((fun k : Nat => match k with | 0 => h0 | 1 => q_9 | _ => 0), u_2, u_4, u_6, u_8.1, u_8.2).2.2.2.1 ((fun k : Nat => match k with | 0 => h0 | 1 => q_9 | _ => 0), u_2, u_4, u_6, u_8.1, u_8.2).2.2.2.2.1 (fun _ _ => 0) 0 ++ cw_Plan cI cZ cO ((fun k : Nat => match k with | 0 => h0 | 1 => q_9 | _ => 0), u_2, u_4, u_6, u_8.1, u_8.2).2.1 (fun _ _ => 0) ++ cw_Board cI cZ cO ((fun k : Nat => match k with | 0 => h0 | 1 => q_9 | _ => 0), u_2, u_4, u_6, u_8.1, u_8.2).2.2.1 ((fun k : Nat => match k with | 0 => h0 | 1 => q_9 | _ => 0), u_2, u_4, u_6, u_8.1, u_8.2).2.1 (fun _ _ => 0) ++ cw_Locks cI cZ cO ((fun k : Nat => match k with | 0 => h0 | 1 => q_9 | _ => 0), u_2, u_4, u_6, u_8.1, u_8.2).2.2.2.1 (fun _ _ => 0) ++ cw_Trial cI cZ cO ((fun k : Nat => match k with | 0 => h0 | 1 => q_9 | _ => 0), u_2, u_4, u_6, u_8.1, u_8.2).2.2.2.2.1 ((fun k : Nat => match k with | 0 => h0 | 1 => q_9 | _ => 0), u_2, u_4, u_6, u_8.1, u_8.2).2.1 ((fun k : Nat => match k with | 0 => h0 | 1 => q_9 | _ => 0), u_2, u_4, u_6, u_8.1, u_8.2).2.2.2.2.2 (fun _ _ => 0) ++ cw_Board cI cZ cO ((fun k : Nat => match k with | 0 => h0 | 1 => q_9 | _ => 0), u_2, u_4, u_6, u_8.1, u_8.2).2.2.2.2.2 ((fun k : Nat => match k with | 0 => h0 | 1 => q_9 | _ => 0), u_2, u_4, u_6, u_8.1, u_8.2).2.1 (fun _ _ => 0)) [0, 48, 1, 2, 3, 4, 5, 6, 7, 8, 9, 10, 11, 12, 13, 14, 15, 16, 17, 18, 19, 20, 21, 22, 23, 24, 25, 26, 27, 28, 29, 30, 31, 32, 33, 34, 35, 36, 37, 38, 39, 40, 41, 42, 43, 44, 45, 46, 47] (by decide) rfl
  refine W.widen (k := 48) (n := 453) (by decide) (by decide) ?_
  exact W.vret hx hb hr (fun t ht hW => ⟨⟨((fun k : Nat => match k with | 0 => h0 | 1 => q_9 | _ => 0), u_2, u_4, u_6, u_8.1, u_8.2), rfl, rfl, by rw [ht]; exact hP9, va_K.moved hW.alike hK, hD9⟩, hS.F ht⟩) hS.2.2 nd_Main_init_69
