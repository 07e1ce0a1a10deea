/-! the trial: what a task does at its own tick -/
theorem ps_ra_any (pl tr tb tr' tb' : cr_S) (x1 x2 : Int32) : ∀ (n : Nat) (a b : Int32), lo_Trial_resourceAt_5 pl tr tb x1 x2 n a b = lo_Trial_resourceAt_5 pl tr' tb' x1 x2 n a b
  | 0, _, _ => rfl
  | n + 1, a, b => by
    have ih := ps_ra_any pl tr tb tr' tb' x1 x2 n
    rw [lo_Trial_resourceAt_5, lo_Trial_resourceAt_5]
    simp only [md_Trial_ticksWith, ih]
    rfl
theorem ps_to_any (pl tr tb tr' tb' : cr_S) (x1 : Int32) : ∀ (n : Nat) (a b : Int32), lo_Trial_ticksOf_4 pl tr tb x1 n a b = lo_Trial_ticksOf_4 pl tr' tb' x1 n a b
  | 0, _, _ => rfl
  | n + 1, a, b => by
    have ih := ps_to_any pl tr tb tr' tb' x1 n
    rw [lo_Trial_ticksOf_4, lo_Trial_ticksOf_4]
    simp only [md_Trial_ticksWith, ih]
def ps_z : cr_S := fun _ _ => 0
def ps_ra (pl : cr_S) (x y : Int32) : Int32 := md_Trial_resourceAt pl ps_z ps_z x y
def ps_to (pl : cr_S) (x : Int32) : Int32 := md_Trial_ticksOf pl ps_z ps_z x
theorem ps_raE (pl tr tb : cr_S) (x y : Int32) : md_Trial_resourceAt pl tr tb x y = ps_ra pl x y := ps_ra_any pl tr tb ps_z ps_z x y 9 1 1
theorem ps_toE (pl tr tb : cr_S) (x : Int32) : md_Trial_ticksOf pl tr tb x = ps_to pl x := ps_to_any pl tr tb ps_z ps_z x 9 1 1
theorem ps_tw {pl : cr_S} {ln : Nat → Int64} (h : ps_PL pl ln) {t r : Nat} (ht : t ≤ 10) (hr : r ≤ 8) (hu : ps_us pl t r) : 1 ≤ (md_Trial_ticksWith pl ps_z ps_z (nI t) (nI r)).toInt ∧ (md_Trial_ticksWith pl ps_z ps_z (nI t) (nI r)).toInt ≤ 3 ∧ (0 ≤ lg_cmp (ln ((9 : Int32) * nI t + nI r).toNatClampNeg) 3 → (3 : Int32) = md_Trial_ticksWith pl ps_z ps_z (nI t) (nI r)) ∧ (¬ 0 ≤ lg_cmp (ln ((9 : Int32) * nI t + nI r).toNatClampNeg) 3 → (ln ((9 : Int32) * nI t + nI r).toNatClampNeg).toInt32 = md_Trial_ticksWith pl ps_z ps_z (nI t) (nI r)) := by
  have k3 : (3 : Int32).toInt = 3 := by decide
  have j3 : (3 : Int64).toInt = 3 := by decide
  have l := h t r ht hr
  have i := ps_i64 (pl (6 + t) r)
  unfold ps_us at hu
  unfold md_Trial_ticksWith
  rw [ps_ix9 ht hr, ps_nI_c (k := t) (by omega), ps_nI_c (k := r) (by omega), l.1, lg_cmp_ge, Int64.le_iff_toInt_le, i, j3]
  have m := cr_min_t (pl (6 + t) r) 3
  refine ⟨by omega, by omega, fun q => ?_, fun q => ?_⟩
  · rw [pu_eq]
    omega
  · have : (pl (6 + t) r).toInt64.toInt32 = pl (6 + t) r := by simp
    rw [this, pu_eq]
    omega
theorem ps_ra0 {pl : cr_S} {ln : Nat → Int64} (h : ps_PL pl ln) {R t : Nat} (hR : R ≤ 8) (e1 : pl 0 1 = nI R) (ht : t ≤ 10) (own : Int32) : ∀ (d k : Nat) (f : Int32), 1 ≤ k → k ≤ R + 1 → 9 < d + k → own.toInt < f.toInt → 0 ≤ f.toInt → f.toInt ≤ 1000 + 4 * k → lo_Trial_resourceAt_5 pl ps_z ps_z (nI t) own d f (nI k) = 0
  | 0, k, f, _, a, b, _, _, _ => absurd b (by omega)
  | d + 1, k, f, h1, hk, hd, ho, hf0, hf => by
    have kt := ps_nI_t (k := k) (by omega)
    have Rt := ps_nI_t (k := R) (by omega)
    have k1 : (1 : Int32).toInt = 1 := by decide
    have n1 : ¬ (1 : Int32) = 0 := by decide
    rw [lo_Trial_resourceAt_5, e1]
    by_cases e : k = R + 1
    · have lt : nI R < nI k := by rw [pu_lt]; omega
      rw [if_pos lt]
    · have nlt : ¬ nI R < nI k := by rw [pu_lt]; omega
      rw [if_neg nlt, show nI k + 1 = nI (k + 1) from nI_1 k]
      have us := ps_us0 h (t := t) (r := k) ht (by omega)
      have a1 : 1 ≤ k + 1 := by omega
      have a2 : k + 1 ≤ R + 1 := by omega
      have a3 : 9 < d + (k + 1) := by omega
      by_cases u : ps_us pl t k
      · have tw := ps_tw h ht (show k ≤ 8 by omega) u
        have s1 : (f + md_Trial_ticksWith pl ps_z ps_z (nI t) (nI k)).toInt = f.toInt + (md_Trial_ticksWith pl ps_z ps_z (nI t) (nI k)).toInt := cr_add (by omega)
        have s2 : (f + md_Trial_ticksWith pl ps_z ps_z (nI t) (nI k) + 1).toInt = f.toInt + (md_Trial_ticksWith pl ps_z ps_z (nI t) (nI k)).toInt + 1 := by
          rw [cr_add (by omega), s1, k1]
        rw [(us.1 u).1, if_neg n1, if_pos (show own < f by rw [pu_lt]; omega)]
        exact ps_ra0 h hR e1 ht own d (k + 1) _ a1 a2 a3 (by omega) (by omega) (by omega)
      · rw [(us.2 u).1, if_pos rfl]
        exact ps_ra0 h hR e1 ht own d (k + 1) f a1 a2 a3 ho hf0 (by omega)
theorem ps_toB {pl : cr_S} {ln : Nat → Int64} (h : ps_PL pl ln) {R t : Nat} (hR : R ≤ 8) (e1 : pl 0 1 = nI R) (ht : t ≤ 10) : ∀ (d k : Nat) (f : Int32), 1 ≤ k → k ≤ R + 1 → 9 < d + k → 0 ≤ f.toInt → f.toInt ≤ 1000 + 4 * k → f.toInt ≤ (lo_Trial_ticksOf_4 pl ps_z ps_z (nI t) d f (nI k)).toInt ∧ (lo_Trial_ticksOf_4 pl ps_z ps_z (nI t) d f (nI k)).toInt ≤ f.toInt + 4 * ((R + 1 - k : Nat) : Int)
  | 0, k, f, _, a, b, _, _ => absurd b (by omega)
  | d + 1, k, f, h1, hk, hd, hf0, hf => by
    have kt := ps_nI_t (k := k) (by omega)
    have Rt := ps_nI_t (k := R) (by omega)
    have k1 : (1 : Int32).toInt = 1 := by decide
    have n1 : ¬ (1 : Int32) = 0 := by decide
    rw [lo_Trial_ticksOf_4, e1]
    by_cases e : k = R + 1
    · have lt : nI R < nI k := by rw [pu_lt]; omega
      rw [if_pos lt]
      omega
    · have nlt : ¬ nI R < nI k := by rw [pu_lt]; omega
      rw [if_neg nlt, show nI k + 1 = nI (k + 1) from nI_1 k]
      have us := ps_us0 h (t := t) (r := k) ht (by omega)
      have a1 : 1 ≤ k + 1 := by omega
      have a2 : k + 1 ≤ R + 1 := by omega
      have a3 : 9 < d + (k + 1) := by omega
      by_cases u : ps_us pl t k
      · have tw := ps_tw h ht (show k ≤ 8 by omega) u
        have s1 : (md_Trial_ticksWith pl ps_z ps_z (nI t) (nI k) + 1).toInt = (md_Trial_ticksWith pl ps_z ps_z (nI t) (nI k)).toInt + 1 := by
          rw [cr_add (by omega), k1]
        have s2 : (f + (md_Trial_ticksWith pl ps_z ps_z (nI t) (nI k) + 1)).toInt = f.toInt + (md_Trial_ticksWith pl ps_z ps_z (nI t) (nI k)).toInt + 1 := by
          rw [cr_add (by omega), s1]
          omega
        rw [(us.1 u).1, if_neg n1]
        have ih := ps_toB h hR e1 ht d (k + 1) (f + (md_Trial_ticksWith pl ps_z ps_z (nI t) (nI k) + 1)) a1 a2 a3 (by omega) (by omega)
        omega
      · rw [(us.2 u).1, if_pos rfl]
        have ih := ps_toB h hR e1 ht d (k + 1) f a1 a2 a3 hf0 (by omega)
        omega
theorem ps_tkL {pl rf : cr_S} {ln : Nat → Int64} {T R : Nat} (hP : ps_Pl pl rf ln T R) (lat : Int64) {t : Nat} (ht : t ≤ 10) (x own : Int32) (ho : own.toInt ≤ 100) : ∀ (d k : Nat) (f l : Int32), 1 ≤ k → k ≤ R + 1 → 9 < d + k → 1 ≤ f.toInt → f.toInt ≤ own.toInt → f.toInt ≤ 4 * k → l.toInt = own.toInt - f.toInt → (∃ r, (r = 0 ∨ (1 ≤ r ∧ r ≤ R ∧ ps_us pl t r)) ∧ lo_Ref_tickOf_14 rf lat ln (nI t) x d l (nI k) = nI r ∧ lo_Trial_resourceAt_5 pl ps_z ps_z (nI t) own d f (nI k) = nI r ∧ own.toInt < (lo_Trial_ticksOf_4 pl ps_z ps_z (nI t) d f (nI k)).toInt) ∨ (lo_Ref_tickOf_14 rf lat ln (nI t) x d l (nI k) = -1 ∧ lo_Trial_resourceAt_5 pl ps_z ps_z (nI t) own d f (nI k) = 0 ∧ (lo_Trial_ticksOf_4 pl ps_z ps_z (nI t) d f (nI k)).toInt ≤ own.toInt) := by
  obtain ⟨⟨a1, a2, a3, a4, a5, a6, a7, a8, a9⟩, pL, -⟩ := hP
  have k1 : (1 : Int32).toInt = 1 := by decide
  have n1 : ¬ (1 : Int32) = 0 := by decide
  intro d
  induction d with
  | zero => exact fun k f l _ a b => absurd b (by omega)
  | succ d ih =>
    intro k f l h1 hk hd hf1 hfo hf4 hl
    have kt := ps_nI_t (k := k) (by omega)
    have Rt := ps_nI_t (k := R) (by omega)
    rw [lo_Ref_tickOf_14, lo_Trial_resourceAt_5, lo_Trial_ticksOf_4, a5, a6]
    by_cases e : k = R + 1
    · have lt : nI R < nI k := by rw [pu_lt]; omega
      rw [if_pos lt, if_pos lt, if_pos lt]
      exact Or.inr ⟨rfl, rfl, hfo⟩
    · have nlt : ¬ nI R < nI k := by rw [pu_lt]; omega
      rw [if_neg nlt, if_neg nlt, if_neg nlt, show nI k + 1 = nI (k + 1) from nI_1 k]
      have k8 : k ≤ 8 := by omega
      have kR : k ≤ R := by omega
      have us := ps_us0 pL (t := t) (r := k) ht k8
      have b1 : 1 ≤ k + 1 := by omega
      have b2 : k + 1 ≤ R + 1 := by omega
      have b3 : 9 < d + (k + 1) := by omega
      by_cases u : ps_us pl t k
      · obtain ⟨w1, w2, w3, w4⟩ := ps_tw pL ht k8 u
        have g1 : (1 : Int32) = 0 ↔ False := ⟨n1, False.elim⟩
        rw [(us.1 u).1, if_neg n1, if_neg n1, if_neg (us.1 u).2]
        have nn : ∀ (X Y : Int32), (if 0 ≤ lg_cmp (ln ((9 : Int32) * nI t + nI k).toNatClampNeg) 3 then (if (3 : Int32) ≤ l then (if l = (3 : Int32) then X else lo_Ref_tickOf_14 rf lat ln (nI t) x d (l - ((3 : Int32) + (1 : Int32))) (nI (k + 1))) else Y) else (if (ln ((9 : Int32) * nI t + nI k).toNatClampNeg).toInt32 ≤ l then (if l = (ln ((9 : Int32) * nI t + nI k).toNatClampNeg).toInt32 then X else lo_Ref_tickOf_14 rf lat ln (nI t) x d (l - ((ln ((9 : Int32) * nI t + nI k).toNatClampNeg).toInt32 + (1 : Int32))) (nI (k + 1))) else Y)) = (if md_Trial_ticksWith pl ps_z ps_z (nI t) (nI k) ≤ l then (if l = md_Trial_ticksWith pl ps_z ps_z (nI t) (nI k) then X else lo_Ref_tickOf_14 rf lat ln (nI t) x d (l - (md_Trial_ticksWith pl ps_z ps_z (nI t) (nI k) + (1 : Int32))) (nI (k + 1))) else Y) := fun X Y => by
          by_cases q : 0 ≤ lg_cmp (ln ((9 : Int32) * nI t + nI k).toNatClampNeg) 3
          · rw [if_pos q, ← w3 q]
          · rw [if_neg q, w4 q]
        rw [nn]
        clear nn w3 w4
        generalize md_Trial_ticksWith pl ps_z ps_z (nI t) (nI k) = n at w1 w2 ⊢
        have s1 : (f + n).toInt = f.toInt + n.toInt := cr_add (by omega)
        have s2 : (n + 1).toInt = n.toInt + 1 := by rw [cr_add (by omega), k1]
        have s3 : (f + (n + 1)).toInt = f.toInt + n.toInt + 1 := by
          rw [cr_add (by omega), s2]
          omega
        have s4 : f + n + 1 = f + (n + 1) := by
          rw [pu_eq, s3, cr_add (by omega), s1, k1]
        have s5 : (l - (n + 1)).toInt = l.toInt - n.toInt - 1 := by
          rw [cr_sub (by omega), s2]
          omega
        rw [if_neg (show ¬ own < f by rw [pu_lt]; omega), s4]
        have tb := (ps_toB pL a2 a5 ht d (k + 1) (f + (n + 1)) b1 b2 b3 (by omega) (by omega)).1
        by_cases c1 : l.toInt < n.toInt
        · rw [if_neg (show ¬ n ≤ l by rw [pu_le]; omega), if_neg (show ¬ f + n ≤ own by rw [pu_le]; omega)]
          exact Or.inl ⟨k, Or.inr ⟨h1, kR, u⟩, rfl, rfl, by omega⟩
        · rw [if_pos (show n ≤ l by rw [pu_le]; omega), if_pos (show f + n ≤ own by rw [pu_le]; omega)]
          by_cases c2 : l = n
          · have c2' := cr_eq c2
            rw [if_pos c2, ps_ra0 pL a2 a5 ht own d (k + 1) (f + (n + 1)) b1 b2 b3 (by omega) (by omega) (by omega)]
            exact Or.inl ⟨0, Or.inl rfl, rfl, rfl, by omega⟩
          · have c2' := cr_ne c2
            rw [if_neg c2]
            exact ih (k + 1) (f + (n + 1)) (l - (n + 1)) b1 b2 b3 (by omega) (by omega) (by omega) (by omega)
      · rw [(us.2 u).1, if_pos rfl, if_pos rfl, if_pos (us.2 u).2]
        exact ih (k + 1) f l b1 b2 b3 hf1 hfo (by omega) hl
theorem ps_tick {pl rf : cr_S} {ln : Nat → Int64} {T R : Nat} (hP : ps_Pl pl rf ln T R) (lat : Int64) {t d : Nat} (ht : t ≤ 10) (hd : d ≤ 100) : (∃ r, (r = 0 ∨ (1 ≤ r ∧ r ≤ R ∧ ps_us pl t r)) ∧ md_Ref_tickOf rf lat ln (nI t) (nI d) = nI r ∧ ps_ra pl (nI t) (nI d) = nI r ∧ (d : Int) < (ps_to pl (nI t)).toInt) ∨ (md_Ref_tickOf rf lat ln (nI t) (nI d) = -1 ∧ ps_ra pl (nI t) (nI d) = 0 ∧ (ps_to pl (nI t)).toInt ≤ d) := by
  obtain ⟨⟨a1, a2, a3, a4, a5, a6, a7, a8, a9⟩, pL, -⟩ := id hP
  have dt := ps_nI_t (k := d) (by omega)
  have k1 : (1 : Int32).toInt = 1 := by decide
  have tb : (1 : Int32).toInt ≤ (ps_to pl (nI t)).toInt := (ps_toB pL a2 a5 ht 9 1 1 (by omega) (by omega) (by omega) (by omega) (by omega)).1
  by_cases z : d = 0
  · subst z
    refine Or.inl ⟨0, Or.inl rfl, ?_, ?_, by omega⟩
    · unfold md_Ref_tickOf
      exact if_pos rfl
    · exact ps_ra0 pL a2 a5 ht (nI 0) 9 1 1 (by omega) (by omega) (by omega) (by omega) (by omega) (by omega)
  · have e : md_Ref_tickOf rf lat ln (nI t) (nI d) = lo_Ref_tickOf_14 rf lat ln (nI t) (nI d) 9 (nI (d - 1)) 1 := by
      unfold md_Ref_tickOf
      rw [if_neg (ps_nz (by omega) (by omega)), sb_m1 (by omega)]
    have lt := ps_nI_t (k := d - 1) (by omega)
    rw [e]
    have q := ps_tkL hP lat ht (nI d) (nI d) (by omega) 9 1 1 (nI (d - 1)) (by omega) (by omega) (by omega) (by omega) (by omega) (by omega) (by omega)
    rw [dt] at q
    exact q
theorem ps_to33 {pl rf : cr_S} {ln : Nat → Int64} {T R : Nat} (hP : ps_Pl pl rf ln T R) {t : Nat} (ht : t ≤ 10) : 1 ≤ (ps_to pl (nI t)).toInt ∧ (ps_to pl (nI t)).toInt ≤ 33 := by
  obtain ⟨⟨a1, a2, a3, a4, a5, a6, a7, a8, a9⟩, pL, -⟩ := hP
  have k1 : (1 : Int32).toInt = 1 := by decide
  have tb : (1 : Int32).toInt ≤ (ps_to pl (nI t)).toInt ∧ (ps_to pl (nI t)).toInt ≤ (1 : Int32).toInt + 4 * ((R + 1 - 1 : Nat) : Int) := ps_toB pL a2 a5 ht 9 1 1 (by omega) (by omega) (by omega) (by omega) (by omega)
  omega
