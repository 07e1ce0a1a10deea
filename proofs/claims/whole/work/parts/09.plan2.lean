/-! the plan's relation; ceiling -/
def ps_PR (pl : cr_S) (T : Nat) : Prop := ∀ t : Nat, 1 ≤ t → t ≤ T → 1 ≤ (pl 1 t).toInt ∧ (pl 1 t).toInt ≤ 20 ∧ 1 ≤ (pl 2 t).toInt ∧ (pl 2 t).toInt ≤ 3
def ps_PU (pl : cr_S) (T R : Nat) : Prop := ∀ t r : Nat, t ≤ 10 → r ≤ 8 → ps_us pl t r → 1 ≤ t ∧ t ≤ T ∧ 1 ≤ r ∧ r ≤ R
def ps_PC (pl : cr_S) (T : Nat) : Prop := ∀ r : Nat, r ≤ 8 → ps_mx pl (T + 1) r (pl 3 r)
def ps_PO (pl : cr_S) : Prop := ∀ r : Nat, r ≤ 8 → (pl 4 r = 0 ∧ ∀ t, t ≤ 10 → ¬ ps_us pl t r) ∨ (pl 4 r ≠ 0 ∧ (∃ t, t ≤ 10 ∧ ps_us pl t r) ∧ ∀ t, t ≤ 10 → ps_us pl t r → pl 2 t = pl 4 r)
def ps_PN (pl rf : cr_S) (T R : Nat) : Prop := T ≤ 10 ∧ R ≤ 8 ∧ pl 0 0 = nI T ∧ rf 0 0 = nI T ∧ pl 0 1 = nI R ∧ rf 0 2 = nI R ∧ pl 1 = rf 1 ∧ pl 2 = rf 2 ∧ cr_rg pl 2 3
def ps_P (pl rf : cr_S) (ln : Nat → Int64) : Prop := ∃ T R : Nat, ps_PN pl rf T R ∧ ps_PL pl ln ∧ ps_PR pl T ∧ ps_PU pl T R ∧ ps_PC pl T ∧ ps_PO pl
theorem ps_ceilE {pl rf : cr_S} {ln : Nat → Int64} (h : ps_P pl rf ln) (lat : Int64) {r : Nat} (hr : r ≤ 8) : md_Ref_ceilingOf rf lat ln (nI r) = pl 3 r := by
  obtain ⟨T, R, ⟨a1, a2, a3, a4, a5, a6, a7, a8, a9⟩, b, c, d, e, f⟩ := h
  exact ps_mx_u (ps_ceil lat b a7 a1 a4 hr) (e r hr)
/-- a number asked for: it is none on both sides, or one of the tasks (resources) -/
theorem ps_hasT {pl rf : cr_S} {T R : Nat} (h : ps_PN pl rf T R) (lat : Int64) (ln : Nat → Int64) (x : Int32) : (md_Plan_hasTask pl x = 0 ∧ md_Ref_isTask rf lat ln x = 0) ∨ (md_Plan_hasTask pl x = 1 ∧ md_Ref_isTask rf lat ln x = 1 ∧ ∃ k, 1 ≤ k ∧ k ≤ T ∧ x = nI k) := by
  obtain ⟨a1, a2, a3, a4, a5, a6, a7, a8, a9⟩ := h
  have k1 : (1 : Int32).toInt = 1 := by decide
  have Tt := ps_nI_t (k := T) (by omega)
  unfold md_Plan_hasTask md_Ref_isTask
  rw [a3, a4]
  by_cases c1 : x < 1
  · rw [if_pos c1]; exact Or.inl ⟨rfl, rfl⟩
  · rw [if_neg c1]
    by_cases c2 : nI T < x
    · rw [if_pos c2]; exact Or.inl ⟨rfl, rfl⟩
    · rw [if_neg c2]
      rw [pu_lt] at c1 c2
      exact Or.inr ⟨rfl, rfl, ps_nat (by omega) (by omega) (by omega)⟩
theorem ps_hasR {pl rf : cr_S} {T R : Nat} (h : ps_PN pl rf T R) (lat : Int64) (ln : Nat → Int64) (x : Int32) : (md_Plan_hasResource pl x = 0 ∧ md_Ref_isResource rf lat ln x = 0) ∨ (md_Plan_hasResource pl x = 1 ∧ md_Ref_isResource rf lat ln x = 1 ∧ ∃ k, 1 ≤ k ∧ k ≤ R ∧ x = nI k) := by
  obtain ⟨a1, a2, a3, a4, a5, a6, a7, a8, a9⟩ := h
  have k1 : (1 : Int32).toInt = 1 := by decide
  have Rt := ps_nI_t (k := R) (by omega)
  unfold md_Plan_hasResource md_Ref_isResource
  rw [a5, a6]
  by_cases c1 : x < 1
  · rw [if_pos c1]; exact Or.inl ⟨rfl, rfl⟩
  · rw [if_neg c1]
    by_cases c2 : nI R < x
    · rw [if_pos c2]; exact Or.inl ⟨rfl, rfl⟩
    · rw [if_neg c2]
      rw [pu_lt] at c1 c2
      exact Or.inr ⟨rfl, rfl, ps_nat (by omega) (by omega) (by omega)⟩
theorem ps_ceiling {pl rf : cr_S} {ln : Nat → Int64} (h : ps_P pl rf ln) (mn : cr_S) (lt : Int64) (bd lk tr tb : cr_S) (lat : Int64) (x : Int32) : md_Main_ceiling mn lt pl bd lk tr tb x = md_Ref_ceiling rf lat ln x := by
  have n1 : ¬ (1 : Int32) = 0 := by decide
  obtain ⟨T, R, hN, hrest⟩ := id h
  unfold md_Main_ceiling md_Ref_ceiling
  rcases ps_hasR hN lat ln x with ⟨q1, q2⟩ | ⟨q1, q2, k, g1, g2, rfl⟩
  · rw [q1, q2, if_pos rfl, if_pos rfl]
  · have k8 : k ≤ 8 := Nat.le_trans g2 hN.2.1
    rw [q1, q2, if_neg n1, if_neg n1, ps_nI_c (by omega), ps_ceilE h lat k8]
theorem ps_holder {pl bd rf : cr_S} {ln : Nat → Int64} (h : ps_P pl rf ln) (hb : bd 4 = rf 7) (mn : cr_S) (lt : Int64) (lk tr tb : cr_S) (lat : Int64) (x : Int32) : md_Main_holder mn lt pl bd lk tr tb x = md_Ref_holder rf lat ln x := by
  have n1 : ¬ (1 : Int32) = 0 := by decide
  obtain ⟨T, R, hN, hrest⟩ := h
  unfold md_Main_holder md_Ref_holder
  rw [hb]
  rcases ps_hasR hN lat ln x with ⟨q1, q2⟩ | ⟨q1, q2, -⟩
  · rw [q1, q2]
  · rw [q1, q2]
