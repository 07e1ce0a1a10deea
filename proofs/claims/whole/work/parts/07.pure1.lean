/-! the pure side: counters, loops, the locks -/
theorem pu_ix {x : Int32} {k : Nat} (h : x.toInt = (k : Int)) : x.toNatClampNeg = k := by
  show x.toInt.toNat = k
  omega
theorem pu_lt {x y : Int32} : x < y ↔ x.toInt < y.toInt := Int32.lt_iff_toInt_lt
theorem pu_le {x y : Int32} : x ≤ y ↔ x.toInt ≤ y.toInt := Int32.le_iff_toInt_le
theorem pu_eq {x y : Int32} : x = y ↔ x.toInt = y.toInt := Int32.toInt_inj.symm
theorem pu_up_same (σ : cr_S) (k j : Nat) (x : Int32) : cr_up σ k j x k j = x := by simp [cr_up, upd]
theorem pu_up_cell (σ : cr_S) {k k' : Nat} (j : Nat) (x : Int32) (h : k' ≠ k) : cr_up σ k j x k' = σ k' := by simp [cr_up, h]
theorem pu_up_place (σ : cr_S) (k : Nat) {j j' : Nat} (x : Int32) (h : j' ≠ j) : cr_up σ k j x k j' = σ k j' := by simp [cr_up, upd, h]
theorem pu_up_fn (σ : cr_S) (k j : Nat) (x : Int32) : cr_up σ k j x k = upd (σ k) j x := by simp [cr_up]
/-- the locks of both sides: owners and wishes are the same, ranges, the core 0 wishes nothing -/
def ps_L0 (lk rf : cr_S) : Prop := lk 1 = rf 9 ∧ lk 2 = rf 11 ∧ cr_rg lk 1 3 ∧ cr_rg lk 2 8 ∧ lk 2 0 = 0
def ps_nx (lk : cr_S) (a : Int32) : Int32 := if lk 2 a.toNatClampNeg = 0 then 0 else lk 1 (lk 2 a.toNatClampNeg).toNatClampNeg
theorem ps_nxR {lk rf : cr_S} (h : ps_L0 lk rf) (a : Int32) : (if rf 11 a.toNatClampNeg ≤ 0 then (0 : Int32) else rf 9 (rf 11 a.toNatClampNeg).toNatClampNeg) = ps_nx lk a := by
  obtain ⟨h1, h2, h3, h4, h5⟩ := h
  unfold ps_nx
  rw [← h1, ← h2]
  have := h4 a.toNatClampNeg
  have k0 : (0 : Int32).toInt = 0 := by decide
  by_cases e : lk 2 a.toNatClampNeg = 0
  · rw [if_pos e, if_pos (by rw [e]; decide)]
  · rw [if_neg e, if_neg (by rw [pu_le]; rw [pu_eq] at e; omega)]
