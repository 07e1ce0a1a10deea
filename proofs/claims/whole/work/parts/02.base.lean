/-! the pure side's words: a component's numbers (cell, place), stores, ranges -/
abbrev cr_S : Type := Nat → Nat → Int32
def cr_up (σ : cr_S) (k j : Nat) (x : Int32) : cr_S := fun k' => if k' = k then upd (σ k) j x else σ k'
theorem cr_lt {x y : Int32} (h : x < y) : x.toInt < y.toInt := Int32.lt_iff_toInt_lt.mp h
theorem cr_nlt {x y : Int32} (h : ¬ x < y) : y.toInt ≤ x.toInt := by
  rw [Int32.lt_iff_toInt_lt] at h; omega
theorem cr_le {x y : Int32} (h : x ≤ y) : x.toInt ≤ y.toInt := Int32.le_iff_toInt_le.mp h
theorem cr_nle {x y : Int32} (h : ¬ x ≤ y) : y.toInt < x.toInt := by
  rw [Int32.le_iff_toInt_le] at h; omega
theorem cr_eq {x y : Int32} (h : x = y) : x.toInt = y.toInt := by rw [h]
theorem cr_ne {x y : Int32} (h : ¬ x = y) : x.toInt ≠ y.toInt := fun e => h (Int32.toInt_inj.mp e)
theorem cr_nne {x y : Int32} (h : ¬ x ≠ y) : x.toInt = y.toInt := by
  rw [Decidable.not_not.mp h]
theorem cr_bmod {z : Int} (h : -2147483648 ≤ z ∧ z < 2147483648) : z.bmod (2 ^ 32) = z := by
  have : ((2 ^ 32 : Nat) : Int) = 4294967296 := by decide
  simp only [Int.bmod, this]
  split <;> omega
theorem cr_add {x y : Int32} (h : -2147483648 ≤ x.toInt + y.toInt ∧ x.toInt + y.toInt < 2147483648) : (x + y).toInt = x.toInt + y.toInt := by
  rw [Int32.toInt_add]; exact cr_bmod h
theorem cr_sub {x y : Int32} (h : -2147483648 ≤ x.toInt - y.toInt ∧ x.toInt - y.toInt < 2147483648) : (x - y).toInt = x.toInt - y.toInt := by
  rw [Int32.toInt_sub]; exact cr_bmod h
theorem cr_neg {x : Int32} (h : -2147483648 ≤ -x.toInt ∧ -x.toInt < 2147483648) : (-x).toInt = -x.toInt := by
  rw [Int32.toInt_neg]; exact cr_bmod h
theorem cr_ix {x : Int32} {n : Nat} (h : vp_in x n) : x.toNatClampNeg < n := Nat.not_le.mp fun q => h (Or.inr q)
def cr_rg (σ : cr_S) (k : Nat) (hi : Int) : Prop := ∀ j, 0 ≤ (σ k j).toInt ∧ (σ k j).toInt ≤ hi
def cr_rf (σ : cr_S) (k j : Nat) (hi : Int) : Prop := 0 ≤ (σ k j).toInt ∧ (σ k j).toInt ≤ hi
theorem cr_rg_up {σ : cr_S} {k k' j : Nat} {hi : Int} {x : Int32} (h : cr_rg σ k hi) (hx : k = k' → 0 ≤ x.toInt ∧ x.toInt ≤ hi) : cr_rg (cr_up σ k' j x) k hi := by
  intro i
  unfold cr_up
  by_cases e : k = k'
  · rw [if_pos e]
    unfold upd
    by_cases e2 : i = j
    · rw [if_pos e2]; exact hx e
    · rw [if_neg e2, ← e]; exact h i
  · rw [if_neg e]; exact h i
theorem cr_rf_up {σ : cr_S} {k k' i j : Nat} {hi : Int} {x : Int32} (h : cr_rf σ k i hi) (hx : k = k' → i = j → 0 ≤ x.toInt ∧ x.toInt ≤ hi) : cr_rf (cr_up σ k' j x) k i hi := by
  unfold cr_rf cr_up
  by_cases e : k = k'
  · rw [if_pos e]
    unfold upd
    by_cases e2 : i = j
    · rw [if_pos e2]; exact hx e e2
    · rw [if_neg e2, ← e]; exact h
  · rw [if_neg e]; exact h
/-- an array of rows: its n rows are the cells from o on -/
def cr_gr (a : Nat → Nat) (o n : Nat) : Nat → Option Nat := fun i => if i < n then some (a (o + i)) else none
theorem cr_getL {A B : va_W} {k : Nat} {q : Nat × va_E} (h : A[k]? = some q) : (A ++ B)[k]? = some q := by
  rw [List.getElem?_append_left (List.getElem?_eq_some_iff.mp h).1]; exact h
theorem cr_getR {A B : va_W} {o k : Nat} {q : Nat × va_E} (ho : A.length = o) (h : B[k]? = some q) : (A ++ B)[o + k]? = some q := by
  subst ho
  rw [List.getElem?_append_right (Nat.le_add_right _ _), Nat.add_sub_cancel_left]; exact h
theorem cr_setL {A A' B : va_W} {k : Nat} {q : Nat × va_E} (hk : k < A.length) (h : A.set k q = A') : (A ++ B).set k q = A' ++ B := by
  rw [List.set_append_left _ _ hk, h]
theorem cr_setR {A B B' : va_W} {o k : Nat} {q : Nat × va_E} (ho : A.length = o) (h : B.set k q = B') : (A ++ B).set (o + k) q = A ++ B' := by
  subst ho
  rw [List.set_append_right _ _ (Nat.le_add_right _ _), Nat.add_sub_cancel_left, h]
theorem cr_rfo {σ : cr_S} {k j : Nat} {hi : Int} (h : cr_rf σ k j hi) : 0 ≤ (σ k j).toInt ∧ (σ k j).toInt ≤ hi := h
theorem cr_rgo {σ : cr_S} {k : Nat} {hi : Int} (h : cr_rg σ k hi) (j : Nat) : 0 ≤ (σ k j).toInt ∧ (σ k j).toInt ≤ hi := h j
def cr_fl (f : Nat → Int32) (n : Nat) (x : Int32) : Nat → Int32 := fun j => if j < n then x else f j
def cr_fill (σ : cr_S) (k n : Nat) (x : Int32) : cr_S := fun k' => if k' = k then cr_fl (σ k) n x else σ k'
theorem cr_rg_fill {σ : cr_S} {k k' n : Nat} {hi : Int} {x : Int32} (h : cr_rg σ k hi) (hx : k = k' → 0 ≤ x.toInt ∧ x.toInt ≤ hi) : cr_rg (cr_fill σ k' n x) k hi := by
  intro i
  unfold cr_fill
  by_cases e : k = k'
  · rw [if_pos e]
    unfold cr_fl
    by_cases e2 : i < n
    · rw [if_pos e2]; exact hx e
    · rw [if_neg e2, ← e]; exact h i
  · rw [if_neg e]; exact h i
theorem cr_rf_fill {σ : cr_S} {k k' i n : Nat} {hi : Int} {x : Int32} (h : cr_rf σ k i hi) (hx : k = k' → i < n → 0 ≤ x.toInt ∧ x.toInt ≤ hi) : cr_rf (cr_fill σ k' n x) k i hi := by
  unfold cr_rf cr_fill
  by_cases e : k = k'
  · rw [if_pos e]
    unfold cr_fl
    by_cases e2 : i < n
    · rw [if_pos e2]; exact hx e e2
    · rw [if_neg e2, ← e]; exact h
  · rw [if_neg e]; exact h
def cr_max (x y : Int32) : Int32 := if x < y then y else x
def cr_min (x y : Int32) : Int32 := if y < x then y else x
theorem cr_max_t (x y : Int32) : (cr_max x y).toInt = x.toInt ∧ y.toInt ≤ x.toInt ∨ (cr_max x y).toInt = y.toInt ∧ x.toInt < y.toInt := by
  unfold cr_max
  by_cases h : x < y
  · rw [if_pos h]; exact Or.inr ⟨rfl, cr_lt h⟩
  · rw [if_neg h]; exact Or.inl ⟨rfl, cr_nlt h⟩
theorem cr_min_t (x y : Int32) : (cr_min x y).toInt = x.toInt ∧ x.toInt ≤ y.toInt ∨ (cr_min x y).toInt = y.toInt ∧ y.toInt < x.toInt := by
  unfold cr_min
  by_cases h : y < x
  · rw [if_pos h]; exact Or.inr ⟨rfl, cr_lt h⟩
  · rw [if_neg h]; exact Or.inl ⟨rfl, cr_nlt h⟩
/-! one cell given to a callee, and taken back -/
theorem cr_P1 {D : va_G} {cl : List vw_C} {ws : va_W} {H : Heap} {k : Nat} {q : Nat × va_E} (hP : va_P D cl ws H) (he : ws[k]? = some q) : va_P D cl [q] H := by
  intro i q' h
  have h0 : i < 1 := (List.getElem?_eq_some_iff.mp h).1
  rw [show i = 0 by omega] at h
  cases h
  exact hP k _ he
theorem cr_D1 {q : Nat × va_E} : va_D (fun _ => True) [q] := by
  refine ⟨fun i j p q h1 h2 _ => ?_, fun _ _ _ => trivial⟩
  have h3 := (List.getElem?_eq_some_iff.mp h1).1
  have h4 := (List.getElem?_eq_some_iff.mp h2).1
  simp only [List.length_cons, List.length_nil] at h3 h4
  omega
theorem cr_F1 {A0 : Nat → Prop} {ws : va_W} {H0 H : Heap} {locs : List Loc} {k : Nat} {q : Nat × va_E} (hD : va_D A0 ws) (hS : va_S A0 H0 H locs) (hA : ∀ q, H0.size ≤ q → A0 q) (he : ws[k]? = some q) : ∀ x, va_A [q] H.size x → A0 x :=
  va_free (wc := [q]) hD hS hA [k] (by rw [List.map_cons, he]; rfl)
theorem cr_Dw {A A0 : Nat → Prop} {ws : va_W} (h : va_D A ws) (hF : ∀ q, A q → A0 q) : va_D A0 ws := ⟨h.1, fun k q hk => hF _ (h.2 k q hk)⟩
theorem cr_join1 {A0 : Nat → Prop} {D : va_G} {cl : List vw_C} {ws : va_W} {H H1 : Heap} {k a : Nat} {e e' : va_E} (hP : va_P D cl ws H) (hD : va_D A0 ws) (he : ws[k]? = some (a, e))
    (hk : ∀ q : Nat, q < H.size → ¬ va_A [(a, e)] H.size q → H1[q]? = H[q]?) (hP1 : va_P D cl [(a, e')] H1) : va_P D cl (ws.set k (a, e')) H1 ∧ va_D A0 (ws.set k (a, e')) := by
  have hkl := (List.getElem?_eq_some_iff.mp he).1
  refine ⟨fun i q h => ?_, fun i j p q h1 h2 h3 => ?_, fun i q h => ?_⟩
  · by_cases hi : i = k
    · subst hi
      rw [List.getElem?_set_self hkl] at h
      cases h
      exact hP1 0 _ rfl
    · rw [List.getElem?_set_ne (Ne.symm hi)] at h
      have hq := hP i q h
      refine hq.kept (hk q.1 hq.lt ?_)
      rintro (⟨z, e9, h9⟩ | h9)
      · have h0 : z < 1 := (List.getElem?_eq_some_iff.mp h9).1
        rw [show z = 0 by omega] at h9
        have h8 : (a, e) = (q.1, e9) := Option.some.inj h9
        exact hi (hD.1 i k q (a, e) h he (by rw [Prod.mk.inj h8 |>.1]))
      · exact absurd hq.lt (by omega)
  · have g : ∀ (i : Nat) (p : Nat × va_E), (ws.set k (a, e'))[i]? = some p → ∃ p', ws[i]? = some p' ∧ p'.1 = p.1 := by
      intro i p h
      by_cases hi : i = k
      · subst hi
        rw [List.getElem?_set_self hkl] at h
        cases h
        exact ⟨_, he, rfl⟩
      · rw [List.getElem?_set_ne (Ne.symm hi)] at h
        exact ⟨p, h, rfl⟩
    obtain ⟨p', a1, a2⟩ := g i p h1
    obtain ⟨q', b1, b2⟩ := g j q h2
    exact hD.1 i j p' q' a1 b1 (by rw [a2, b2, h3])
  · by_cases hi : i = k
    · subst hi
      rw [List.getElem?_set_self hkl] at h
      cases h
      exact hD.2 i (a, e) he
    · rw [List.getElem?_set_ne (Ne.symm hi)] at h
      exact hD.2 i q h
section CRG
variable {p : Program} {l : Launch} {e : Env} {R : Room} {s : State} {m : MethodId} {args : Array Value} {below : List Frame} {meth : Method} {c : Code} {H : Heap} {locs : List Loc} {cells slots : Nat} {Q : State → Prop}
variable {cc : ByteArray} {pc : Nat} {ls : Array Slot} {rest : List Value} {D : va_G} {cl : List vw_C} {A : Nat → Prop} {a : Nat} {tys : List (ClassId × FieldType)} {ws : va_W} {H0 : Heap}
theorem ga_ald (hexec : p.tables.exec = Jvm.exec) (hb : c.code = cc) (hK : va_K D cl tys s) (hP : va_P D cl ws H) (q0 t0 : Nat) {cA : ClassId} {t : FieldType} {n o : Nat} {ar : Nat → Nat} (ha : ws[q0]? = some (a, .inl (cA, n, .inr (.inr (.inr (.inr (cr_gr ar o n))))))) (ht : tys[t0]? = some (cA, .array t)) {i : Int32} (hin : vp_in i n) (hlt : i.toNatClampNeg < n) (hdg : decode cc pc = .ok (.aaload, 1))
    (kk : W p l e R s m args below meth c H locs cells slots Q (F0 m (pc + 1) ls (.ref (ar (o + i.toNatClampNeg)) :: rest))) : W p l e R s m args below meth c H locs cells slots Q (F0 m pc ls (.int i :: .ref a :: rest)) := by
  have e : va_rf (cr_gr ar o n i.toNatClampNeg) = .ref (ar (o + i.toNatClampNeg)) := by
    unfold cr_gr
    rw [if_pos hlt]
    rfl
  exact W.aald (v := .ref (ar (o + i.toNatClampNeg))) (ty := .array t) hexec hb (hP q0 _ ha) ((hK.2 t0 _ ht).1 n (fun j => va_rf (cr_gr ar o n j))) rfl (fun q => by cases q) (by show ¬ (i < 0 ∨ (arrV _ _ _).slots.size ≤ _); rw [arrV_size]; exact hin) (by show (arrV _ _ _).slots[_]? = _; rw [arrV_read _ _ hlt, e]) rfl rfl hdg kk
end CRG
theorem cr_same {D : va_G} {cl : List vw_C} {tys : List (ClassId × FieldType)} {U : State} {c1 c2 : ClassId} {t : FieldType} {i j : Nat} (hK : va_K D cl tys U) (hi : tys[i]? = some (c1, t)) (hj : tys[j]? = some (c2, t)) (ht : (match t with | .object _ => false | _ => true) = true) : c2 = c1 := by
  have h1 := (hK.2 i _ hi).2
  have h2 := (hK.2 j _ hj).2
  cases t with
  | object C => simp at ht
  | _ => exact Option.some.inj (Eq.trans (Eq.symm h2) h1)
def cr_RPlan (σ : cr_S) : Prop := cr_rf σ 0 0 10 ∧ cr_rf σ 0 1 8 ∧ cr_rg σ 2 3
def cr_RBoard (σ : cr_S) : Prop := cr_rg σ 3 8 ∧ cr_rg σ 5 8
def cr_RLocks (σ : cr_S) : Prop := cr_rg σ 1 3 ∧ cr_rg σ 2 8
abbrev cw_Plan (cI cZ cO : ClassId) (a : Nat → Nat) (σ : cr_S) : va_W := [(a 0, .inr (0, [.int (σ 0 0), .int (σ 0 1), .ref (a 1), .ref (a 2), .ref (a 3), .ref (a 4), .ref (a 5)])), (a 1, .inl (cI, 11, .inl (σ 1))), (a 2, .inl (cI, 11, .inl (σ 2))), (a 3, .inl (cI, 9, .inl (σ 3))), (a 4, .inl (cI, 9, .inl (σ 4))), (a 5, .inl (cO, 11, .inr (.inr (.inr (.inr (cr_gr a 6 11)))))), (a 6, .inl (cI, 9, .inl (σ 6))), (a 7, .inl (cI, 9, .inl (σ 7))), (a 8, .inl (cI, 9, .inl (σ 8))), (a 9, .inl (cI, 9, .inl (σ 9))), (a 10, .inl (cI, 9, .inl (σ 10))), (a 11, .inl (cI, 9, .inl (σ 11))), (a 12, .inl (cI, 9, .inl (σ 12))), (a 13, .inl (cI, 9, .inl (σ 13))), (a 14, .inl (cI, 9, .inl (σ 14))), (a 15, .inl (cI, 9, .inl (σ 15))), (a 16, .inl (cI, 9, .inl (σ 16)))]
theorem cg_Plan_6 (cI cZ cO : ClassId) (a : Nat → Nat) (σ : cr_S) : ∀ (k : Nat), k < 11 → (cw_Plan cI cZ cO a σ)[6 + k]? = some (a (6 + k), .inl (cI, 9, .inl (σ (6 + k))))
  | 0, _ => rfl
  | 1, _ => rfl
  | 2, _ => rfl
  | 3, _ => rfl
  | 4, _ => rfl
  | 5, _ => rfl
  | 6, _ => rfl
  | 7, _ => rfl
  | 8, _ => rfl
  | 9, _ => rfl
  | 10, _ => rfl
  | k + 11, h => absurd h (by omega)
theorem cf_Plan_6 (cI cZ cO : ClassId) (a : Nat → Nat) (σ : cr_S) (x : Int32) : ∀ (k : Nat), k < 11 → (cw_Plan cI cZ cO a σ).set (6 + k) (a (6 + k), .inl (cI, 9, .inl (cr_fl (σ (6 + k)) 9 x))) = cw_Plan cI cZ cO a (cr_fill σ (6 + k) 9 x)
  | 0, _ => rfl
  | 1, _ => rfl
  | 2, _ => rfl
  | 3, _ => rfl
  | 4, _ => rfl
  | 5, _ => rfl
  | 6, _ => rfl
  | 7, _ => rfl
  | 8, _ => rfl
  | 9, _ => rfl
  | 10, _ => rfl
  | k + 11, h => absurd h (by omega)
theorem cs_Plan_6 (cI cZ cO : ClassId) (a : Nat → Nat) (σ : cr_S) (j : Nat) (x : Int32) : ∀ (k : Nat), k < 11 → (cw_Plan cI cZ cO a σ).set (6 + k) (a (6 + k), .inl (cI, 9, .inl (upd (σ (6 + k)) j x))) = cw_Plan cI cZ cO a (cr_up σ (6 + k) j x)
  | 0, _ => rfl
  | 1, _ => rfl
  | 2, _ => rfl
  | 3, _ => rfl
  | 4, _ => rfl
  | 5, _ => rfl
  | 6, _ => rfl
  | 7, _ => rfl
  | 8, _ => rfl
  | 9, _ => rfl
  | 10, _ => rfl
  | k + 11, h => absurd h (by omega)
abbrev cw_Board (cI cZ cO : ClassId) (a op : Nat → Nat) (σ : cr_S) : va_W := [(a 0, .inr (1, [.ref (op 0), .ref (a 1), .ref (a 2), .int (σ 0 0), .ref (a 3), .ref (a 4), .ref (a 5)])), (a 1, .inl (cI, 11, .inl (σ 1))), (a 2, .inl (cI, 11, .inl (σ 2))), (a 3, .inl (cI, 11, .inl (σ 3))), (a 4, .inl (cI, 9, .inl (σ 4))), (a 5, .inl (cI, 9, .inl (σ 5)))]
abbrev cw_Locks (cI cZ cO : ClassId) (a : Nat → Nat) (σ : cr_S) : va_W := [(a 0, .inr (2, [.ref (a 1), .ref (a 2), .ref (a 3), .int (σ 0 0)])), (a 1, .inl (cI, 9, .inl (σ 1))), (a 2, .inl (cI, 4, .inl (σ 2))), (a 3, .inl (cI, 4, .inl (σ 3)))]
abbrev cw_Trial (cI cZ cO : ClassId) (a op otb : Nat → Nat) (σ : cr_S) : va_W := [(a 0, .inr (3, [.ref (op 0), .ref (otb 0), .ref (a 1), .ref (a 2), .int (σ 0 0)])), (a 1, .inl (cI, 11, .inl (σ 1))), (a 2, .inl (cO, 11, .inr (.inr (.inr (.inr (cr_gr a 3 11)))))), (a 3, .inl (cI, 11, .inl (σ 3))), (a 4, .inl (cI, 11, .inl (σ 4))), (a 5, .inl (cI, 11, .inl (σ 5))), (a 6, .inl (cI, 11, .inl (σ 6))), (a 7, .inl (cI, 11, .inl (σ 7))), (a 8, .inl (cI, 11, .inl (σ 8))), (a 9, .inl (cI, 11, .inl (σ 9))), (a 10, .inl (cI, 11, .inl (σ 10))), (a 11, .inl (cI, 11, .inl (σ 11))), (a 12, .inl (cI, 11, .inl (σ 12))), (a 13, .inl (cI, 11, .inl (σ 13)))]
theorem cg_Trial_3 (cI cZ cO : ClassId) (a op otb : Nat → Nat) (σ : cr_S) : ∀ (k : Nat), k < 11 → (cw_Trial cI cZ cO a op otb σ)[3 + k]? = some (a (3 + k), .inl (cI, 11, .inl (σ (3 + k))))
  | 0, _ => rfl
  | 1, _ => rfl
  | 2, _ => rfl
  | 3, _ => rfl
  | 4, _ => rfl
  | 5, _ => rfl
  | 6, _ => rfl
  | 7, _ => rfl
  | 8, _ => rfl
  | 9, _ => rfl
  | 10, _ => rfl
  | k + 11, h => absurd h (by omega)
theorem cf_Trial_3 (cI cZ cO : ClassId) (a op otb : Nat → Nat) (σ : cr_S) (x : Int32) : ∀ (k : Nat), k < 11 → (cw_Trial cI cZ cO a op otb σ).set (3 + k) (a (3 + k), .inl (cI, 11, .inl (cr_fl (σ (3 + k)) 11 x))) = cw_Trial cI cZ cO a op otb (cr_fill σ (3 + k) 11 x)
  | 0, _ => rfl
  | 1, _ => rfl
  | 2, _ => rfl
  | 3, _ => rfl
  | 4, _ => rfl
  | 5, _ => rfl
  | 6, _ => rfl
  | 7, _ => rfl
  | 8, _ => rfl
  | 9, _ => rfl
  | 10, _ => rfl
  | k + 11, h => absurd h (by omega)
theorem cs_Trial_3 (cI cZ cO : ClassId) (a op otb : Nat → Nat) (σ : cr_S) (j : Nat) (x : Int32) : ∀ (k : Nat), k < 11 → (cw_Trial cI cZ cO a op otb σ).set (3 + k) (a (3 + k), .inl (cI, 11, .inl (upd (σ (3 + k)) j x))) = cw_Trial cI cZ cO a op otb (cr_up σ (3 + k) j x)
  | 0, _ => rfl
  | 1, _ => rfl
  | 2, _ => rfl
  | 3, _ => rfl
  | 4, _ => rfl
  | 5, _ => rfl
  | 6, _ => rfl
  | 7, _ => rfl
  | 8, _ => rfl
  | 9, _ => rfl
  | 10, _ => rfl
  | k + 11, h => absurd h (by omega)
abbrev cw_Main (cI cZ cO : ClassId) (a op ob ok ot : Nat → Nat) (σ : cr_S) (lt : Int64) : va_W := [(a 0, .inr (4, [.ref (op 0), .ref (ob 0), .ref (ok 0), .ref (ot 0), .ref (a 1), .long lt])), (a 1, .inl (cZ, 11, .inl (σ 1)))]
