/-! what a task has taken: the class's chain against the reference's numbers (g = rf 8) -/
theorem ps_us_s (f : Nat → Int32) (k : Nat) (x : Int32) : upd f k x k = x := by simp [upd]
theorem ps_us_n (f : Nat → Int32) {k j : Nat} (x : Int32) (h : j ≠ k) : upd f k x j = f j := by simp [upd, h]
def ps_C0 (N : Nat) (bd : cr_S) (g : Nat → Int32) : Prop := ∀ j : Nat, bd 4 j ≠ 0 → 1 ≤ (g j).toInt ∧ (g j).toInt ≤ N
def ps_C1 (bd : cr_S) (g : Nat → Int32) : Prop := ∀ t : Nat, 1 ≤ t → t ≤ 10 → (bd 3 t = 0 ∧ ∀ j, bd 4 j ≠ nI t) ∨ ∃ r, 1 ≤ r ∧ r ≤ 8 ∧ bd 3 t = nI r ∧ bd 4 r = nI t ∧ ∀ j, bd 4 j = nI t → j ≠ r → (g j).toInt < (g r).toInt
def ps_C2 (bd : cr_S) (g : Nat → Int32) : Prop := ∀ r t : Nat, 1 ≤ t → t ≤ 10 → bd 4 r = nI t → (bd 5 r = 0 ∧ ∀ j, bd 4 j = nI t → j ≠ r → (g r).toInt < (g j).toInt) ∨ ∃ p, 1 ≤ p ∧ p ≤ 8 ∧ bd 5 r = nI p ∧ bd 4 p = nI t ∧ (g p).toInt < (g r).toInt ∧ ∀ j, bd 4 j = nI t → j ≠ r → j ≠ p → (g j).toInt < (g p).toInt ∨ (g r).toInt < (g j).toInt
def ps_Ch (N : Nat) (bd : cr_S) (g : Nat → Int32) : Prop := ps_C0 N bd g ∧ ps_C1 bd g ∧ ps_C2 bd g
theorem ps_Ch_mono {N : Nat} {bd : cr_S} {g : Nat → Int32} (h : ps_Ch N bd g) : ps_Ch (N + 1) bd g := by
  refine ⟨fun j hj => ?_, h.2⟩
  have := h.1 j hj
  omega
/-- a chain speaks of the cells 3, 4, 5 alone -/
theorem ps_Ch_cells {N : Nat} {bd bd' : cr_S} {g : Nat → Int32} (h : ps_Ch N bd g) (e3 : bd' 3 = bd 3) (e4 : bd' 4 = bd 4) (e5 : bd' 5 = bd 5) : ps_Ch N bd' g := by
  unfold ps_Ch ps_C0 ps_C1 ps_C2 at h ⊢
  rw [e3, e4, e5]
  exact h
theorem ps_Ch_inj {N : Nat} {bd : cr_S} {g : Nat → Int32} (h : ps_Ch N bd g) {t i j : Nat} (t1 : 1 ≤ t) (t2 : t ≤ 10) (hi : bd 4 i = nI t) (hj : bd 4 j = nI t) (ne : i ≠ j) : (g i).toInt ≠ (g j).toInt := by
  rcases h.2.2 i t t1 t2 hi with ⟨_, w⟩ | ⟨p, p1, p2, p3, p4, p5, p6⟩
  · have := w j hj (fun q => ne q.symm)
    omega
  · by_cases q : j = p
    · rw [q]
      omega
    · have := p6 j hj (fun q => ne q.symm) q
      omega
theorem ps_Ch_give {N : Nat} {bd bd' : cr_S} {g : Nat → Int32} (h : ps_Ch N bd g) {t r : Nat} (t1 : 1 ≤ t) (t2 : t ≤ 10) (r1 : 1 ≤ r) (r2 : r ≤ 8) (e : bd 3 t = nI r) (er : bd 4 r = nI t) (e3 : bd' 3 t = bd 5 r) (e3' : ∀ u, u ≠ t → bd' 3 u = bd 3 u) (e4 : bd' 4 r = 0) (e4' : ∀ j, j ≠ r → bd' 4 j = bd 4 j) (e5' : ∀ j, j ≠ r → bd' 5 j = bd 5 j) : ps_Ch N bd' g := by
  obtain ⟨c0, c1, c2⟩ := h
  have hold : ∀ u j, 1 ≤ u → u ≤ 10 → bd' 4 j = nI u → j ≠ r ∧ bd 4 j = nI u := fun u j x1 x2 x3 => by
    by_cases w : j = r
    · rw [w, e4] at x3
      exact absurd x3.symm (ps_nz x1 (by omega))
    · exact ⟨w, by rw [← e4' j w]; exact x3⟩
  have mx : ∀ j, bd 4 j = nI t → j ≠ r → (g j).toInt < (g r).toInt := by
    rcases c1 t t1 t2 with ⟨z, _⟩ | ⟨r0, a1, a2, a3, a4, a5⟩
    · rw [e] at z
      exact absurd z (ps_nz r1 (by omega))
    · have : r = r0 := ps_inj (e.symm.trans a3) (by omega) (by omega)
      subst this
      exact a5
  refine ⟨fun j hj => ?_, fun u u1 u2 => ?_, fun s u u1 u2 hs => ?_⟩
  · by_cases w : j = r
    · rw [w, e4] at hj
      exact absurd rfl hj
    · rw [e4' j w] at hj
      exact c0 j hj
  · by_cases w : u = t
    · subst w
      rcases c2 r u t1 t2 er with ⟨z, mn⟩ | ⟨p, p1, p2, p3, p4, p5, p6⟩
      · refine Or.inl ⟨e3.trans z, fun j hj => ?_⟩
        obtain ⟨n, o⟩ := hold u j t1 t2 hj
        have x := mn j o n
        have y := mx j o n
        omega
      · have pr : p ≠ r := fun q => by rw [q] at p5; exact absurd p5 (Int.lt_irrefl _)
        refine Or.inr ⟨p, p1, p2, e3.trans p3, (e4' p pr).trans p4, fun j hj ne => ?_⟩
        obtain ⟨n, o⟩ := hold u j t1 t2 hj
        have x := p6 j o n ne
        have y := mx j o n
        omega
    · rcases c1 u u1 u2 with ⟨z, z'⟩ | ⟨r0, a1, a2, a3, a4, a5⟩
      · exact Or.inl ⟨(e3' u w).trans z, fun j hj => z' j (hold u j u1 u2 hj).2⟩
      · have rr : r0 ≠ r := fun q => by
          rw [q, er] at a4
          exact w (ps_inj a4 (by omega) (by omega)).symm
        exact Or.inr ⟨r0, a1, a2, (e3' u w).trans a3, (e4' r0 rr).trans a4, fun j hj ne => a5 j (hold u j u1 u2 hj).2 ne⟩
  · obtain ⟨n, o⟩ := hold u s u1 u2 hs
    rcases c2 s u u1 u2 o with ⟨z, z'⟩ | ⟨p, p1, p2, p3, p4, p5, p6⟩
    · exact Or.inl ⟨(e5' s n).trans z, fun j hj ne => z' j (hold u j u1 u2 hj).2 ne⟩
    · have pr : p ≠ r := fun q => by
        rw [q, er] at p4
        have : t = u := ps_inj p4 (by omega) (by omega)
        subst this
        have y := mx s o n
        rw [q] at p5
        omega
      exact Or.inr ⟨p, p1, p2, (e5' s n).trans p3, (e4' p pr).trans p4, p5, fun j hj n1 n2 => p6 j (hold u j u1 u2 hj).2 n1 n2⟩
theorem ps_Ch_take {N : Nat} {bd bd' : cr_S} {g g' : Nat → Int32} (h : ps_Ch N bd g) {t r : Nat} (t1 : 1 ≤ t) (t2 : t ≤ 10) (r1 : 1 ≤ r) (r2 : r ≤ 8) (h0 : bd 4 r = 0) (e3 : bd' 3 t = nI r) (e3' : ∀ u, u ≠ t → bd' 3 u = bd 3 u) (e4 : bd' 4 r = nI t) (e4' : ∀ j, j ≠ r → bd' 4 j = bd 4 j) (e5 : bd' 5 r = bd 3 t) (e5' : ∀ j, j ≠ r → bd' 5 j = bd 5 j) (eg' : ∀ j, j ≠ r → g' j = g j) (hg : 1 ≤ (g' r).toInt ∧ (g' r).toInt ≤ ((N + 1 : Nat) : Int)) (hm : ∀ j, bd 4 j = nI t → (g j).toInt < (g' r).toInt) : ps_Ch (N + 1) bd' g' := by
  obtain ⟨c0, c1, c2⟩ := h
  have nh : ∀ u j, 1 ≤ u → u ≤ 10 → bd 4 j = nI u → j ≠ r := fun u j x1 x2 x3 q => by
    rw [q, h0] at x3
    exact absurd x3.symm (ps_nz x1 (by omega))
  have hold : ∀ u j, u ≠ t → u ≤ 10 → bd' 4 j = nI u → j ≠ r ∧ bd 4 j = nI u := fun u j x1 x2 x3 => by
    by_cases w : j = r
    · rw [w, e4] at x3
      exact absurd (ps_inj x3 (by omega) (by omega)).symm x1
    · exact ⟨w, by rw [← e4' j w]; exact x3⟩
  have oldt : ∀ u j, j ≠ r → bd' 4 j = nI u → bd 4 j = nI u := fun u j w x3 => by rw [← e4' j w]; exact x3
  refine ⟨fun j hj => ?_, fun u u1 u2 => ?_, fun s u u1 u2 hs => ?_⟩
  · by_cases w : j = r
    · rw [w]
      exact hg
    · rw [e4' j w] at hj
      rw [eg' j w]
      have := c0 j hj
      omega
  · by_cases w : u = t
    · subst w
      refine Or.inr ⟨r, r1, r2, e3, e4, fun j hj ne => ?_⟩
      rw [eg' j ne]
      exact hm j (oldt u j ne hj)
    · rcases c1 u u1 u2 with ⟨z, z'⟩ | ⟨r0, a1, a2, a3, a4, a5⟩
      · exact Or.inl ⟨(e3' u w).trans z, fun j hj => z' j (hold u j w u2 hj).2⟩
      · have rr := nh u r0 u1 u2 a4
        refine Or.inr ⟨r0, a1, a2, (e3' u w).trans a3, (e4' r0 rr).trans a4, fun j hj ne => ?_⟩
        obtain ⟨n, o⟩ := hold u j w u2 hj
        rw [eg' j n, eg' r0 rr]
        exact a5 j o ne
  · by_cases w : s = r
    · subst w
      have ut : t = u := ps_inj (e4.symm.trans hs) (by omega) (by omega)
      subst ut
      rcases c1 t t1 t2 with ⟨z, z'⟩ | ⟨r0, a1, a2, a3, a4, a5⟩
      · exact Or.inl ⟨e5.trans z, fun j hj ne => absurd (oldt t j ne hj) (z' j)⟩
      · have rr := nh t r0 t1 t2 a4
        refine Or.inr ⟨r0, a1, a2, e5.trans a3, (e4' r0 rr).trans a4, ?_, fun j hj n1 n2 => Or.inl ?_⟩
        · rw [eg' r0 rr]
          exact hm r0 a4
        · rw [eg' j n1, eg' r0 rr]
          exact a5 j (oldt t j n1 hj) n2
    · have o := oldt u s w hs
      rcases c2 s u u1 u2 o with ⟨z, z'⟩ | ⟨p, p1, p2, p3, p4, p5, p6⟩
      · refine Or.inl ⟨(e5' s w).trans z, fun j hj ne => ?_⟩
        rw [eg' s w]
        by_cases jr : j = r
        · subst jr
          have ut : t = u := ps_inj (e4.symm.trans hj) (by omega) (by omega)
          subst ut
          exact hm s o
        · rw [eg' j jr]
          exact z' j (oldt u j jr hj) ne
      · have pr := nh u p u1 u2 p4
        refine Or.inr ⟨p, p1, p2, (e5' s w).trans p3, (e4' p pr).trans p4, ?_, fun j hj n1 n2 => ?_⟩
        · rw [eg' p pr, eg' s w]
          exact p5
        · rw [eg' p pr, eg' s w]
          by_cases jr : j = r
          · subst jr
            have ut : t = u := ps_inj (e4.symm.trans hj) (by omega) (by omega)
            subst ut
            exact Or.inr (hm s o)
          · rw [eg' j jr]
            exact p6 j (oldt u j jr hj) n1 n2
/-- the reference's last: the greatest number -/
theorem ps_lstL {rf : cr_S} (lat : Int64) (ln : Nat → Int64) {R t : Nat} (hR : R ≤ 8) (e0 : rf 0 2 = nI R) (inj : ∀ i j, rf 7 i = nI t → rf 7 j = nI t → i ≠ j → (rf 8 i).toInt ≠ (rf 8 j).toInt) : ∀ (d k f : Nat), 1 ≤ k → k ≤ R + 1 → 9 < d + k → ps_best (fun j => rf 7 j = nI t) (fun j => (rf 8 j).toInt) (fun _ => 0) k f → ∃ g, lo_Ref_last_4 rf lat ln (nI t) d (nI f) (nI k) = nI g ∧ ps_best (fun j => rf 7 j = nI t) (fun j => (rf 8 j).toInt) (fun _ => 0) (R + 1) g
  | 0, k, f, _, a, b, _ => absurd b (by omega)
  | d + 1, k, f, h1, hkR, hdk, hb => by
    have kt := ps_nI_t (k := k) (by omega)
    have Rt := ps_nI_t (k := R) (by omega)
    have k0 : (0 : Int32).toInt = 0 := by decide
    have fk := ps_best_b hb h1
    have ft := ps_nI_t (k := f) (by omega)
    have a1 : 1 ≤ k + 1 := by omega
    have a3 : 9 < d + (k + 1) := by omega
    rw [lo_Ref_last_4, e0]
    by_cases e : k = R + 1
    · have lt : nI R < nI k := by rw [pu_lt]; omega
      rw [if_pos lt]
      exact ⟨f, rfl, by rw [← e]; exact hb⟩
    · have nlt : ¬ nI R < nI k := by rw [pu_lt]; omega
      have a2 : k + 1 ≤ R + 1 := by omega
      rw [if_neg nlt, ps_nI_c (k := k) (by omega), ps_nI_c (k := f) (by omega), show nI k + 1 = nI (k + 1) from nI_1 k]
      have ih := fun f' => ps_lstL lat ln hR e0 inj d (k + 1) f' a1 a2 a3
      by_cases c1 : rf 7 k = nI t
      · rw [if_pos c1]
        by_cases z : f = 0
        · have z' : nI f = 0 := by rw [z]; rfl
          rw [if_pos z']
          exact ih k (ps_best_n hb h1 c1 (Or.inl z))
        · have z' : ¬ nI f = 0 := by rw [pu_eq, ft, k0]; omega
          rw [if_neg z']
          have fr := ps_best_r hb z
          have df := inj k f c1 fr.2.2 (by omega)
          by_cases c2 : rf 8 k ≤ rf 8 f
          · rw [if_pos c2]
            have c2' := cr_le c2
            exact ih f (ps_best_k hb z (Or.inl (by show (rf 8 k).toInt < (rf 8 f).toInt; omega)))
          · rw [if_neg c2]
            have c2' := cr_nle c2
            exact ih k (ps_best_n hb h1 c1 (Or.inr (Or.inl (by show (rf 8 f).toInt < (rf 8 k).toInt; omega))))
      · rw [if_neg c1]
        exact ih f (ps_best_s hb c1)
theorem ps_lst {N : Nat} {pl bd rf : cr_S} (lat : Int64) (ln : Nat → Int64) {T R t : Nat} (hT : T ≤ 10) (hR : R ≤ 8) (e0 : rf 0 2 = nI R) (hb : bd 4 = rf 7) (b4 : ps_B4 pl bd T R) (h : ps_Ch N bd (rf 8)) (t1 : 1 ≤ t) (t2 : t ≤ 10) : md_Ref_last rf lat ln (nI t) = bd 3 t := by
  obtain ⟨g, e, hg⟩ := ps_lstL lat ln (t := t) hR e0 (fun i j hi hj ne => ps_Ch_inj h t1 t2 (by rw [hb]; exact hi) (by rw [hb]; exact hj) ne) 9 1 0 (by omega) (by omega) (by omega) (ps_best_1 _ _ _)
  have e' : md_Ref_last rf lat ln (nI t) = nI g := e
  rw [e']
  rcases h.2.1 t t1 t2 with ⟨z, w⟩ | ⟨r0, a1, a2, a3, a4, a5⟩
  · rw [hb] at w
    have y : ps_best (fun j => rf 7 j = nI t) (fun j => (rf 8 j).toInt) (fun _ => 0) (R + 1) 0 := Or.inl ⟨rfl, fun j _ _ => w j⟩
    rw [ps_best_u hg y, z]
    rfl
  · have x := ps_B4h b4 hT t1 t2 a4
    rw [hb] at a4 a5
    have y : ps_best (fun j => rf 7 j = nI t) (fun j => (rf 8 j).toInt) (fun _ => 0) (R + 1) r0 := Or.inr ⟨a1, by omega, a4, fun j _ _ hj ne => Or.inl (a5 j hj ne)⟩
    rw [ps_best_u hg y, a3]
