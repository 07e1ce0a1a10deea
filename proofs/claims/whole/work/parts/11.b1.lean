/-! the board: a task's rank now as a number, and the first of a set of ready tasks -/
def ps_rn (pl : cr_S) (f : Nat → Int32) (t : Nat) : Nat → Int
  | 0 => (pl 1 t).toInt
  | r + 1 => if f (r + 1) = nI t ∧ ps_rn pl f t r < (pl 3 (r + 1)).toInt then (pl 3 (r + 1)).toInt else ps_rn pl f t r
theorem ps_rn_ge (pl : cr_S) (f : Nat → Int32) (t : Nat) : ∀ R : Nat, (pl 1 t).toInt ≤ ps_rn pl f t R
  | 0 => Int.le_refl _
  | R + 1 => by
    have ih := ps_rn_ge pl f t R
    rw [ps_rn]
    by_cases c : f (R + 1) = nI t ∧ ps_rn pl f t R < (pl 3 (R + 1)).toInt
    · rw [if_pos c]
      exact Int.le_trans ih (Int.le_of_lt c.2)
    · rw [if_neg c]
      exact ih
theorem ps_rn_c (pl : cr_S) (f : Nat → Int32) (t : Nat) : ∀ R r : Nat, 1 ≤ r → r ≤ R → f r = nI t → (pl 3 r).toInt ≤ ps_rn pl f t R
  | 0, r, a, b, _ => absurd b (by omega)
  | R + 1, r, a, b, h => by
    rw [ps_rn]
    have z : (pl 3 r).toInt ≤ ps_rn pl f t R ∨ r = R + 1 := by
      rcases Nat.lt_or_ge R r with w | w
      · exact Or.inr (by omega)
      · exact Or.inl (ps_rn_c pl f t R r a w h)
    by_cases c : f (R + 1) = nI t ∧ ps_rn pl f t R < (pl 3 (R + 1)).toInt
    · rw [if_pos c]
      rcases z with z | z
      · exact Int.le_trans z (Int.le_of_lt c.2)
      · rw [z]
        exact Int.le_refl _
    · rw [if_neg c]
      rcases z with z | z
      · exact z
      · subst z
        exact Int.not_lt.mp (fun q => c ⟨h, q⟩)
theorem ps_rn_le {pl : cr_S} {f : Nat → Int32} {t : Nat} {m : Int} (h0 : (pl 1 t).toInt ≤ m) : ∀ R : Nat, (∀ r : Nat, 1 ≤ r → r ≤ R → f r = nI t → (pl 3 r).toInt ≤ m) → ps_rn pl f t R ≤ m
  | 0, _ => h0
  | R + 1, h => by
    have ih := ps_rn_le h0 R (fun r a b c => h r a (by omega) c)
    rw [ps_rn]
    by_cases c : f (R + 1) = nI t ∧ ps_rn pl f t R < (pl 3 (R + 1)).toInt
    · rw [if_pos c]
      exact h (R + 1) (by omega) (Nat.le_refl _) c.1
    · rw [if_neg c]
      exact ih
theorem ps_rn_mono {pl : cr_S} {f g : Nat → Int32} {t : Nat} (R : Nat) (h : ∀ r : Nat, g r = nI t → f r = nI t) : ps_rn pl g t R ≤ ps_rn pl f t R :=
  ps_rn_le (ps_rn_ge pl f t R) R (fun r a b c => ps_rn_c pl f t R r a b (h r c))
theorem ps_rn_free {pl : cr_S} {f : Nat → Int32} {t : Nat} (R : Nat) (h : ∀ r : Nat, f r ≠ nI t) : ps_rn pl f t R = (pl 1 t).toInt :=
  Int.le_antisymm (ps_rn_le (Int.le_refl _) R (fun r _ _ c => absurd c (h r))) (ps_rn_ge pl f t R)
theorem ps_rnL (pl bd : cr_S) {R : Nat} (hR : R ≤ 8) (e1 : pl 0 1 = nI R) (t : Nat) : ∀ (d j : Nat) (v : Int32), j ≤ R → 9 ≤ d + j → v.toInt = ps_rn pl (bd 4) t j → (lo_Board_rankNow_12 pl bd (nI t) d v (nI (j + 1))).toInt = ps_rn pl (bd 4) t R
  | 0, j, v, a, b, _ => absurd b (by omega)
  | d + 1, j, v, hj, hd, hv => by
    have jt := ps_nI_t (k := j + 1) (by omega)
    have Rt := ps_nI_t (k := R) (by omega)
    rw [lo_Board_rankNow_12, e1]
    by_cases e : j = R
    · have lt : nI R < nI (j + 1) := by rw [pu_lt]; omega
      rw [if_pos lt, hv, e]
    · have nlt : ¬ nI R < nI (j + 1) := by rw [pu_lt]; omega
      rw [if_neg nlt, ps_nI_c (k := j + 1) (by omega), show nI (j + 1) + 1 = nI (j + 1 + 1) from nI_1 (j + 1)]
      have hj1 : j + 1 ≤ R := by omega
      have hd1 : 9 ≤ d + (j + 1) := by omega
      by_cases u : bd 4 (j + 1) = nI t
      · rw [if_pos u]
        refine ps_rnL pl bd hR e1 t d (j + 1) _ hj1 hd1 ?_
        rw [ps_rn]
        have m := cr_max_t v (pl 3 (j + 1))
        by_cases g : ps_rn pl (bd 4) t j < (pl 3 (j + 1)).toInt
        · rw [if_pos (show bd 4 (j + 1) = nI t ∧ ps_rn pl (bd 4) t j < (pl 3 (j + 1)).toInt from ⟨u, g⟩)]
          omega
        · rw [if_neg (show ¬ (bd 4 (j + 1) = nI t ∧ ps_rn pl (bd 4) t j < (pl 3 (j + 1)).toInt) from fun q => g q.2)]
          omega
      · rw [if_neg u]
        refine ps_rnL pl bd hR e1 t d (j + 1) v hj1 hd1 ?_
        rw [ps_rn, if_neg (show ¬ (bd 4 (j + 1) = nI t ∧ ps_rn pl (bd 4) t j < (pl 3 (j + 1)).toInt) from fun q => u q.1)]
        exact hv
theorem ps_rnM {pl : cr_S} (bd : cr_S) {R t : Nat} (hR : R ≤ 8) (e1 : pl 0 1 = nI R) (ht : t ≤ 10) : (md_Board_rankNow pl bd (nI t)).toInt = ps_rn pl (bd 4) t R := by
  unfold md_Board_rankNow
  rw [ps_nI_c (k := t) (by omega)]
  exact ps_rnL pl bd hR e1 t 9 0 _ (by omega) (by omega) rfl
/-- f is the first among those below k: 0 if there is none -/
def ps_best (rd : Nat → Prop) (rk od : Nat → Int) (k f : Nat) : Prop := (f = 0 ∧ ∀ t, 1 ≤ t → t < k → ¬ rd t) ∨ (1 ≤ f ∧ f < k ∧ rd f ∧ ∀ t, 1 ≤ t → t < k → rd t → t ≠ f → rk t < rk f ∨ (rk t = rk f ∧ od f < od t))
theorem ps_best_1 (rd : Nat → Prop) (rk od : Nat → Int) : ps_best rd rk od 1 0 := Or.inl ⟨rfl, fun t a b => absurd b (by omega)⟩
theorem ps_best_s {rd : Nat → Prop} {rk od : Nat → Int} {k f : Nat} (h : ps_best rd rk od k f) (n : ¬ rd k) : ps_best rd rk od (k + 1) f := by
  rcases h with ⟨h0, h1⟩ | ⟨h0, h1, h2, h3⟩
  · refine Or.inl ⟨h0, fun t a b => ?_⟩
    rcases Nat.lt_or_ge t k with w | w
    · exact h1 t a w
    · rw [show t = k by omega]
      exact n
  · refine Or.inr ⟨h0, by omega, h2, fun t a b c e => ?_⟩
    rcases Nat.lt_or_ge t k with w | w
    · exact h3 t a w c e
    · rw [show t = k by omega] at c
      exact absurd c n
theorem ps_best_k {rd : Nat → Prop} {rk od : Nat → Int} {k f : Nat} (h : ps_best rd rk od k f) (hf : f ≠ 0) (g : rk k < rk f ∨ (rk k = rk f ∧ od f < od k)) : ps_best rd rk od (k + 1) f := by
  rcases h with ⟨h0, h1⟩ | ⟨h0, h1, h2, h3⟩
  · exact absurd h0 hf
  · refine Or.inr ⟨h0, by omega, h2, fun t a b c e => ?_⟩
    rcases Nat.lt_or_ge t k with w | w
    · exact h3 t a w c e
    · rw [show t = k by omega]
      exact g
theorem ps_best_n {rd : Nat → Prop} {rk od : Nat → Int} {k f : Nat} (h : ps_best rd rk od k f) (hk : 1 ≤ k) (r : rd k) (g : f = 0 ∨ rk f < rk k ∨ (rk f = rk k ∧ od k < od f)) : ps_best rd rk od (k + 1) k := by
  refine Or.inr ⟨hk, by omega, r, fun t a b c e => ?_⟩
  have w : t < k := by omega
  rcases h with ⟨h0, h1⟩ | ⟨h0, h1, h2, h3⟩
  · exact absurd c (h1 t a w)
  · by_cases q : t = f
    · subst q
      rcases g with g | g | ⟨g, g'⟩
      · exact absurd g (by omega)
      · exact Or.inl g
      · exact Or.inr ⟨g, g'⟩
    · have z := h3 t a w c q
      rcases g with g | g | ⟨g, g'⟩
      · exact absurd g (by omega)
      · exact Or.inl (by omega)
      · rcases z with z | ⟨z, z'⟩
        · exact Or.inl (by omega)
        · exact Or.inr ⟨by omega, by omega⟩
theorem ps_best_u {rd : Nat → Prop} {rk od : Nat → Int} {k f f' : Nat} (h : ps_best rd rk od k f) (g : ps_best rd rk od k f') : f = f' := by
  rcases h with ⟨h0, h1⟩ | ⟨h0, h1, h2, h3⟩ <;> rcases g with ⟨g0, g1⟩ | ⟨g0, g1, g2, g3⟩
  · rw [h0, g0]
  · exact absurd g2 (h1 f' g0 g1)
  · exact absurd h2 (g1 f h0 h1)
  · by_cases q : f = f'
    · exact q
    · have a := h3 f' g0 g1 g2 (fun e => q e.symm)
      have b := g3 f h0 h1 h2 q
      exact absurd a (by omega)
theorem ps_best_c {rd rd' : Nat → Prop} {rk rk' od od' : Nat → Int} {k f : Nat} (hr : ∀ t, 1 ≤ t → t < k → (rd t ↔ rd' t)) (hk : ∀ t, 1 ≤ t → t < k → rd t → rk t = rk' t) (ho : ∀ t, 1 ≤ t → t < k → rd t → od t = od' t) (h : ps_best rd rk od k f) : ps_best rd' rk' od' k f := by
  rcases h with ⟨h0, h1⟩ | ⟨h0, h1, h2, h3⟩
  · exact Or.inl ⟨h0, fun t a b c => h1 t a b ((hr t a b).mpr c)⟩
  · refine Or.inr ⟨h0, h1, (hr f h0 h1).mp h2, fun t a b c e => ?_⟩
    have c' := (hr t a b).mpr c
    rw [← hk t a b c', ← hk f h0 h1 h2, ← ho t a b c', ← ho f h0 h1 h2]
    exact h3 t a b c' e
theorem ps_best_r {rd : Nat → Prop} {rk od : Nat → Int} {k f : Nat} (h : ps_best rd rk od k f) (hf : f ≠ 0) : 1 ≤ f ∧ f < k ∧ rd f := by
  rcases h with ⟨h0, h1⟩ | ⟨h0, h1, h2, h3⟩
  · exact absurd h0 hf
  · exact ⟨h0, h1, h2⟩
theorem ps_best_b {rd : Nat → Prop} {rk od : Nat → Int} {k f : Nat} (h : ps_best rd rk od k f) (hk : 1 ≤ k) : f < k := by
  rcases h with ⟨h0, h1⟩ | ⟨h0, h1, h2, h3⟩
  · omega
  · exact h1
def ps_rd (pl bd : cr_S) (c : Int32) (t : Nat) : Prop := pl 2 t = c ∧ bd 1 t = 1
def ps_fs (pl bd : cr_S) (R : Nat) (c : Int32) (k f : Nat) : Prop := ps_best (ps_rd pl bd c) (fun t => ps_rn pl (bd 4) t R) (fun t => (bd 2 t).toInt) k f
/-- ready tasks have different numbers -/
def ps_dif (bd : cr_S) : Prop := ∀ t u : Nat, bd 1 t = 1 → bd 1 u = 1 → t ≠ u → (bd 2 t).toInt ≠ (bd 2 u).toInt
theorem ps_fstL {pl bd : cr_S} {T R : Nat} (hT : T ≤ 10) (hR : R ≤ 8) (e0 : pl 0 0 = nI T) (e1 : pl 0 1 = nI R) (c : Int32) (hr : ∀ t, 1 ≤ t → t ≤ T → 1 ≤ (pl 1 t).toInt) (hd : ps_dif bd) : ∀ (d k f : Nat) (v : Int32), 1 ≤ k → k ≤ T + 1 → 11 < d + k → ps_fs pl bd R c k f → ((f = 0 ∧ v.toInt = 0) ∨ (f ≠ 0 ∧ v.toInt = ps_rn pl (bd 4) f R)) → ∃ g, lo_Board_firstOn_7 pl bd c d (nI f) v (nI k) = nI g ∧ ps_fs pl bd R c (T + 1) g
  | 0, k, f, v, _, a, b, _, _ => absurd b (by omega)
  | d + 1, k, f, v, h1, hk, hdk, hb, hv => by
    have kt := ps_nI_t (k := k) (by omega)
    have Tt := ps_nI_t (k := T) (by omega)
    have fk := ps_best_b hb h1
    have a1 : 1 ≤ k + 1 := by omega
    have a3 : 11 < d + (k + 1) := by omega
    rw [lo_Board_firstOn_7, e0]
    by_cases e : k = T + 1
    · have lt : nI T < nI k := by rw [pu_lt]; omega
      rw [if_pos lt]
      exact ⟨f, rfl, by rw [← e]; exact hb⟩
    · have nlt : ¬ nI T < nI k := by rw [pu_lt]; omega
      have a2 : k + 1 ≤ T + 1 := by omega
      have kT : k ≤ T := by omega
      rw [if_neg nlt, ps_nI_c (k := k) (by omega), ps_nI_c (k := f) (by omega), show nI k + 1 = nI (k + 1) from nI_1 k]
      have ih := fun f' v' => ps_fstL hT hR e0 e1 c hr hd d (k + 1) f' v' a1 a2 a3
      by_cases c1 : pl 2 k = c
      · rw [if_pos c1]
        by_cases c2 : bd 1 k = 1
        · rw [if_pos c2]
          have rk := ps_rnM (pl := pl) bd (t := k) hR e1 (by omega)
          have r1 := hr k h1 kT
          have r2 := ps_rn_ge pl (bd 4) k R
          have nw : (f = 0 ∨ ps_rn pl (bd 4) f R < ps_rn pl (bd 4) k R ∨ (ps_rn pl (bd 4) f R = ps_rn pl (bd 4) k R ∧ (bd 2 k).toInt < (bd 2 f).toInt)) → ∃ g, lo_Board_firstOn_7 pl bd c d (nI k) (md_Board_rankNow pl bd (nI k)) (nI (k + 1)) = nI g ∧ ps_fs pl bd R c (T + 1) g := fun q =>
            ih k _ (ps_best_n hb h1 ⟨c1, c2⟩ q) (Or.inr ⟨by omega, rk⟩)
          have kp : f ≠ 0 → (ps_rn pl (bd 4) k R < ps_rn pl (bd 4) f R ∨ (ps_rn pl (bd 4) k R = ps_rn pl (bd 4) f R ∧ (bd 2 f).toInt < (bd 2 k).toInt)) → ∃ g, lo_Board_firstOn_7 pl bd c d (nI f) v (nI (k + 1)) = nI g ∧ ps_fs pl bd R c (T + 1) g := fun z q =>
            ih f v (ps_best_k hb z q) hv
          have df : f ≠ 0 → (bd 2 f).toInt ≠ (bd 2 k).toInt := fun z => hd f k (ps_best_r hb z).2.2.2 c2 (by omega)
          clear ih hr hd hb
          by_cases c3 : bd 2 f ≤ bd 2 k
          · rw [if_pos c3]
            have c3' := cr_le c3
            by_cases c4 : v < md_Board_rankNow pl bd (nI k)
            · rw [if_pos c4]
              have c4' := cr_lt c4
              refine nw ?_
              rcases hv with ⟨z, _⟩ | ⟨_, z⟩
              · exact Or.inl z
              · exact Or.inr (Or.inl (by omega))
            · rw [if_neg c4, ite_self]
              have c4' := cr_nlt c4
              have z : f ≠ 0 := by
                rcases hv with ⟨_, y⟩ | ⟨y, _⟩
                · omega
                · exact y
              have y := df z
              refine kp z ?_
              rcases hv with ⟨x, _⟩ | ⟨_, x⟩
              · exact absurd x z
              · rcases Int.lt_or_le (ps_rn pl (bd 4) k R) (ps_rn pl (bd 4) f R) with w | w
                · exact Or.inl w
                · exact Or.inr ⟨by omega, by omega⟩
          · rw [if_neg c3]
            have c3' := cr_nle c3
            by_cases c4 : v < md_Board_rankNow pl bd (nI k)
            · rw [if_pos c4]
              have c4' := cr_lt c4
              refine nw ?_
              rcases hv with ⟨z, _⟩ | ⟨_, z⟩
              · exact Or.inl z
              · exact Or.inr (Or.inl (by omega))
            · rw [if_neg c4]
              have c4' := cr_nlt c4
              by_cases c5 : md_Board_rankNow pl bd (nI k) = v
              · rw [if_pos c5]
                have c5' := cr_eq c5
                refine nw ?_
                rcases hv with ⟨z, _⟩ | ⟨_, z⟩
                · exact Or.inl z
                · exact Or.inr (Or.inr ⟨by omega, c3'⟩)
              · rw [if_neg c5]
                have c5' := cr_ne c5
                have z : f ≠ 0 := by
                  rcases hv with ⟨_, y⟩ | ⟨y, _⟩
                  · omega
                  · exact y
                refine kp z ?_
                rcases hv with ⟨x, _⟩ | ⟨_, x⟩
                · exact absurd x z
                · exact Or.inl (by omega)
        · rw [if_neg c2]
          exact ih f v (ps_best_s hb (fun q => c2 q.2)) hv
      · rw [if_neg c1]
        exact ih f v (ps_best_s hb (fun q => c1 q.1)) hv
theorem ps_fst {pl bd : cr_S} {T R : Nat} (hT : T ≤ 10) (hR : R ≤ 8) (e0 : pl 0 0 = nI T) (e1 : pl 0 1 = nI R) (c : Int32) (hr : ∀ t, 1 ≤ t → t ≤ T → 1 ≤ (pl 1 t).toInt) (hd : ps_dif bd) : ∃ g, md_Board_firstOn pl bd c = nI g ∧ ps_fs pl bd R c (T + 1) g :=
  ps_fstL hT hR e0 e1 c hr hd 11 1 0 0 (by omega) (by omega) (by omega) (ps_best_1 _ _ _) (Or.inl ⟨rfl, by decide⟩)
