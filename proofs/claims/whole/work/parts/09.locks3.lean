/-! locks: taking one -/
def ps_LC (N : Nat) (lk rf : cr_S) : Prop := 0 ≤ (lk 0 0).toInt ∧ (lk 0 0).toInt ≤ N ∧ 0 ≤ (rf 0 3).toInt ∧ (rf 0 3).toInt ≤ N
def ps_LS (lk rf : cr_S) : Prop := ∀ c : Nat, 1 ≤ c → c ≤ 3 → lk 2 c ≠ 0 → (lk 3 c).toInt ≤ (lk 0 0).toInt ∧ (rf 12 c).toInt ≤ (rf 0 3).toInt
def ps_LH (rf : cr_S) : Prop := ∀ n : Nat, 1 ≤ n → n ≤ 8 → rf 9 n ≠ 0 → (rf 10 n).toInt ≤ (rf 0 3).toInt
def ps_LW (lk : cr_S) : Prop := ∀ c n : Nat, 1 ≤ c → c ≤ 3 → 1 ≤ n → n ≤ 8 → lk 2 c ≠ 0 → (lk 1 n).toInt = (c : Int) → (n : Int) < (lk 2 c).toInt
def ps_L (N : Nat) (lk rf : cr_S) : Prop := ps_L0 lk rf ∧ ps_rise rf ∧ ps_SO lk rf ∧ ps_LC N lk rf ∧ ps_LS lk rf ∧ ps_LH rf ∧ ps_LW lk
theorem ps_L_mono {N : Nat} {lk rf : cr_S} (h : ps_L N lk rf) : ps_L (N + 1) lk rf := by
  obtain ⟨a, b, c, ⟨d1, d2, d3, d4⟩, e, f, g⟩ := h
  exact ⟨a, b, c, ⟨d1, by omega, d3, by omega⟩, e, f, g⟩
theorem ps_add1 {x : Int32} {N : Nat} (h0 : 0 ≤ x.toInt) (h : x.toInt ≤ N) (hN : N ≤ 100000) : (x + 1).toInt = x.toInt + 1 := by
  have k1 : (1 : Int32).toInt = 1 := by decide
  have := cr_add (x := x) (y := 1) (by omega)
  omega
theorem ps_ne0 {x : Int32} (h : x.toInt ≠ 0) : x ≠ 0 := fun e => h (by rw [e]; decide)
/-- a free lock is taken -/
theorem ps_have {N : Nat} {lk rf : cr_S} (h : ps_L N lk rf) (hN : N < 512) (lat : Int64) (ln : Nat → Int64) {c x : Nat} (hc1 : 1 ≤ c) (hc3 : c ≤ 3) (hx1 : 1 ≤ x) (hx8 : x ≤ 8) (hs : lk 2 c = 0) (hfree : ∀ m, x < m → m ≤ 8 → rf 9 m ≠ nI c) : ps_L (N + 1) (cr_up lk 1 x (nI c)) (md_Ref_have rf lat ln (nI c) (nI x)) := by
  obtain ⟨⟨a1, a2, a3, a4, a5⟩, b, sO, ⟨d1, d2, d3, d4⟩, sS, sH, sW⟩ := h
  have ct := ps_nI_t (k := c) (by omega)
  have p1 := ps_add1 d3 d4 (by omega)
  have r9 : md_Ref_have rf lat ln (nI c) (nI x) 9 = upd (rf 9) x (nI c) := by simp [md_Ref_have, cr_up, upd, ps_nI_c (k := x) (by omega)]
  have r10 : md_Ref_have rf lat ln (nI c) (nI x) 10 = upd (rf 10) x (rf 0 3 + 1) := by simp [md_Ref_have, cr_up, upd, ps_nI_c (k := x) (by omega)]
  have r03 : md_Ref_have rf lat ln (nI c) (nI x) 0 3 = rf 0 3 + 1 := by simp [md_Ref_have, cr_up, upd]
  have r11 : md_Ref_have rf lat ln (nI c) (nI x) 11 = rf 11 := by simp [md_Ref_have, cr_up]
  have r12 : md_Ref_have rf lat ln (nI c) (nI x) 12 = rf 12 := by simp [md_Ref_have, cr_up]
  have l1 : cr_up lk 1 x (nI c) 1 = upd (lk 1) x (nI c) := pu_up_fn ..
  have l2 : cr_up lk 1 x (nI c) 2 = lk 2 := pu_up_cell _ _ _ (by decide)
  have l3 : cr_up lk 1 x (nI c) 3 = lk 3 := pu_up_cell _ _ _ (by decide)
  have l0 : cr_up lk 1 x (nI c) 0 = lk 0 := pu_up_cell _ _ _ (by decide)
  have hc0 : nI c ≠ 0 := ps_ne0 (by omega)
  have ux : ∀ (f : Nat → Int32) (v : Int32), upd f x v x = v := fun f v => by simp [upd]
  have un : ∀ (f : Nat → Int32) (v : Int32) (j : Nat), j ≠ x → upd f x v j = f j := fun f v j hj => by simp [upd, hj]
  refine ⟨⟨by rw [l1, r9, a1], by rw [l2, r11, a2], cr_rg_up a3 (fun _ => by omega), cr_rg_up a4 (fun e => absurd e (by decide)), by rw [l2]; exact a5⟩, ?_, ?_, ⟨by rw [l0]; exact d1, by rw [l0]; omega, by rw [r03]; omega, by rw [r03]; omega⟩, ?_, ?_, ?_⟩
  · intro n m h1 h2 h3 h4 h5
    rw [r9] at h4 h5
    rw [r10]
    by_cases en : n = x
    · subst en
      rw [ux, un _ _ m (by omega)] at h4
      exact absurd h4.symm (hfree m h2 h3)
    · rw [un _ _ n en] at h4 h5 ⊢
      by_cases em : m = x
      · subst em
        rw [ux] at h4 ⊢
        have := sH n h1 (by omega) h5
        omega
      · rw [un _ _ m em] at h4 ⊢
        exact b n m h1 h2 h3 h4 h5
  · intro c1 c2 g1 g2 g3 g4 g5 g6
    rw [l2] at g5 g6
    rw [l3, r12]
    exact sO c1 c2 g1 g2 g3 g4 g5 g6
  · intro c1 g1 g2 g3
    rw [l2] at g3
    rw [l3, l0, r12, r03]
    have := sS c1 g1 g2 g3
    omega
  · intro n g1 g2 g3
    rw [r9] at g3
    rw [r10, r03]
    by_cases en : n = x
    · subst en
      rw [ux]
      omega
    · rw [un _ _ n en] at g3 ⊢
      have := sH n g1 g2 g3
      omega
  · intro c1 n g1 g2 g3 g4 g5 g6
    rw [l2] at g5 ⊢
    rw [l1] at g6
    by_cases en : n = x
    · subst en
      rw [ux] at g6
      exact absurd (show lk 2 c1 = 0 by rw [show c1 = c by omega]; exact hs) g5
    · rw [un _ _ n en] at g6
      exact sW c1 n g1 g2 g3 g4 g5 g6
