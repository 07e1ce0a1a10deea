/-! putting to sleep: at most eight are given back -/
def ps_cnt (f : Nat → Int32) (x : Int32) : Nat → Nat
  | 0 => 0
  | n + 1 => ps_cnt f x n + (if f (n + 1) = x then 1 else 0)
theorem ps_cnt_le (f : Nat → Int32) (x : Int32) : ∀ n : Nat, ps_cnt f x n ≤ n
  | 0 => Nat.le_refl _
  | n + 1 => by
    have ih := ps_cnt_le f x n
    rw [ps_cnt]
    by_cases c : f (n + 1) = x
    · rw [if_pos c]
      omega
    · rw [if_neg c]
      omega
theorem ps_cnt_pos (f : Nat → Int32) (x : Int32) {j : Nat} (h1 : 1 ≤ j) (hj : f j = x) : ∀ n : Nat, j ≤ n → 1 ≤ ps_cnt f x n
  | 0, h => absurd h (by omega)
  | n + 1, h => by
    rw [ps_cnt]
    by_cases c : j = n + 1
    · rw [← c, if_pos hj]
      omega
    · have ih := ps_cnt_pos f x h1 hj n (by omega)
      omega
theorem ps_cnt_same {f f' : Nat → Int32} (x : Int32) : ∀ n : Nat, (∀ j, 1 ≤ j → j ≤ n → f' j = f j) → ps_cnt f' x n = ps_cnt f x n
  | 0, _ => rfl
  | n + 1, h => by
    rw [ps_cnt, ps_cnt, ps_cnt_same x n (fun j a b => h j a (by omega)), h (n + 1) (by omega) (Nat.le_refl _)]
theorem ps_cnt_iff {f f' : Nat → Int32} (x : Int32) : ∀ n : Nat, (∀ j, 1 ≤ j → j ≤ n → (f' j = x ↔ f j = x)) → ps_cnt f' x n = ps_cnt f x n
  | 0, _ => rfl
  | n + 1, h => by
    have e := h (n + 1) (by omega) (Nat.le_refl _)
    rw [ps_cnt, ps_cnt, ps_cnt_iff x n (fun j a b => h j a (by omega))]
    by_cases c : f (n + 1) = x
    · rw [if_pos c, if_pos (e.mpr c)]
    · rw [if_neg c, if_neg (fun q => c (e.mp q))]
theorem ps_cnt_all {f : Nat → Int32} {x : Int32} : ∀ n : Nat, n ≤ ps_cnt f x n → ∀ j, 1 ≤ j → j ≤ n → f j = x
  | 0, _, j, a, b => absurd b (by omega)
  | n + 1, h, j, a, b => by
    rw [ps_cnt] at h
    have le := ps_cnt_le f x n
    by_cases c : f (n + 1) = x
    · rw [if_pos c] at h
      by_cases w : j = n + 1
      · rw [w]
        exact c
      · exact ps_cnt_all n (by omega) j a (by omega)
    · rw [if_neg c] at h
      omega
theorem ps_cnt_full {f : Nat → Int32} {x : Int32} : ∀ n : Nat, (∀ j, 1 ≤ j → j ≤ n → f j = x) → ps_cnt f x n = n
  | 0, _ => rfl
  | n + 1, h => by
    rw [ps_cnt, ps_cnt_full n (fun j a b => h j a (by omega)), if_pos (h (n + 1) (by omega) (Nat.le_refl _))]
theorem ps_cnt_dec {f f' : Nat → Int32} {x : Int32} {r : Nat} (r1 : 1 ≤ r) (hr : f r = x) (hr' : f' r ≠ x) (ho : ∀ j, j ≠ r → f' j = f j) : ∀ n : Nat, r ≤ n → ps_cnt f' x n + 1 = ps_cnt f x n
  | 0, h => absurd h (by omega)
  | n + 1, h => by
    rw [ps_cnt, ps_cnt]
    by_cases c : r = n + 1
    · have s := ps_cnt_same (f := f) (f' := f') x n (fun j _ b => ho j (by omega))
      rw [← c, if_pos hr, if_neg hr', s]
    · have ih := ps_cnt_dec r1 hr hr' ho n (by omega)
      rw [ho (n + 1) (by omega)]
      omega
theorem ps_gbE {bd : cr_S} (pl : cr_S) {t r : Nat} (ht : t ≤ 10) (r1 : 1 ≤ r) (r2 : r ≤ 8) (h : bd 3 t = nI r) : md_Board_giveBackLast pl bd (nI t) = cr_up (cr_up (cr_up bd 3 t (bd 5 r)) 5 r 0) 4 r 0 := by
  unfold md_Board_giveBackLast
  rw [ps_nI_c (k := t) (by omega), h, if_neg (ps_nz r1 (by omega)), ps_nI_c (k := r) (by omega)]
/-- giving back the last one: the cells, the chain, the ranges -/
theorem ps_gb {N : Nat} {bd : cr_S} {g : Nat → Int32} (pl : cr_S) (h : ps_Ch N bd g) (hb : cr_RBoard bd) {t r : Nat} (t1 : 1 ≤ t) (t2 : t ≤ 10) (r1 : 1 ≤ r) (r2 : r ≤ 8) (e : bd 3 t = nI r) (er : bd 4 r = nI t) : ps_Ch N (md_Board_giveBackLast pl bd (nI t)) g ∧ cr_RBoard (md_Board_giveBackLast pl bd (nI t)) ∧ md_Board_giveBackLast pl bd (nI t) 0 = bd 0 ∧ md_Board_giveBackLast pl bd (nI t) 1 = bd 1 ∧ md_Board_giveBackLast pl bd (nI t) 2 = bd 2 ∧ md_Board_giveBackLast pl bd (nI t) 4 = upd (bd 4) r 0 := by
  have z : 0 ≤ (0 : Int32).toInt ∧ (0 : Int32).toInt ≤ 8 := by decide
  rw [ps_gbE pl t2 r1 r2 e]
  have c3 : (cr_up (cr_up (cr_up bd 3 t (bd 5 r)) 5 r 0) 4 r 0) 3 = upd (bd 3) t (bd 5 r) := by simp [cr_up]
  have c4 : (cr_up (cr_up (cr_up bd 3 t (bd 5 r)) 5 r 0) 4 r 0) 4 = upd (bd 4) r 0 := by simp [cr_up]
  have c5 : (cr_up (cr_up (cr_up bd 3 t (bd 5 r)) 5 r 0) 4 r 0) 5 = upd (bd 5) r 0 := by simp [cr_up]
  refine ⟨ps_Ch_give h t1 t2 r1 r2 e er ?_ (fun u hu => ?_) ?_ (fun j hj => ?_) (fun j hj => ?_), ⟨?_, ?_⟩, by simp [cr_up], by simp [cr_up], by simp [cr_up], c4⟩
  · rw [c3, ps_us_s]
  · rw [c3, ps_us_n _ _ hu]
  · rw [c4, ps_us_s]
  · rw [c4, ps_us_n _ _ hj]
  · rw [c5, ps_us_n _ _ hj]
  · exact cr_rg_up (cr_rg_up (cr_rg_up hb.1 (fun _ => hb.2 r)) (fun q => absurd q (by decide))) (fun q => absurd q (by decide))
  · exact cr_rg_up (cr_rg_up (cr_rg_up hb.2 (fun q => absurd q (by decide))) (fun _ => z)) (fun q => absurd q (by decide))
def ps_Sl (bd bd' : cr_S) (t : Nat) : Prop := bd' 0 = bd 0 ∧ bd' 1 = upd (bd 1) t 0 ∧ bd' 2 = bd 2 ∧ ∀ j, bd' 4 j = if bd 4 j = nI t then 0 else bd 4 j
theorem ps_slL {N : Nat} {g : Nat → Int32} (pl : cr_S) {t : Nat} (t1 : 1 ≤ t) (t2 : t ≤ 10) : ∀ (d k : Nat) (bd : cr_S), d + k = 9 → k ≤ 8 → ps_Ch N bd g → cr_RBoard bd → (∀ j, bd 4 j = nI t → 1 ≤ j ∧ j ≤ 8) → ps_cnt (bd 4) (nI t) 8 + k ≤ 8 → ps_Sl bd (lo_Board_putToSleep_2 pl (nI t) d bd (nI k)) t ∧ ps_Ch N (lo_Board_putToSleep_2 pl (nI t) d bd (nI k)) g ∧ cr_RBoard (lo_Board_putToSleep_2 pl (nI t) d bd (nI k))
  | 0, k, bd, a, b, _, _, _, _ => absurd a (by omega)
  | d + 1, k, bd, hdk, hk, hc, hb, hj, hn => by
    have kt := ps_nI_t (k := k) (by omega)
    have k8 : (8 : Int32).toInt = 8 := by decide
    have done : (∀ j, bd 4 j ≠ nI t) → ps_Sl bd (cr_up bd 1 t 0) t ∧ ps_Ch N (cr_up bd 1 t 0) g ∧ cr_RBoard (cr_up bd 1 t 0) := fun no => by
      have q4 : (cr_up bd 1 t 0) 4 = bd 4 := by simp [cr_up]
      refine ⟨⟨by simp [cr_up], by simp [cr_up], by simp [cr_up], fun j => ?_⟩, ps_Ch_cells hc (by simp [cr_up]) q4 (by simp [cr_up]), cr_rg_up hb.1 (fun q => absurd q (by decide)), cr_rg_up hb.2 (fun q => absurd q (by decide))⟩
      rw [q4, if_neg (no j)]
    rw [lo_Board_putToSleep_2, ps_nI_c (k := t) (by omega)]
    by_cases e : k = 8
    · have le : (8 : Int32) ≤ nI k := by rw [pu_le]; omega
      rw [if_pos le]
      refine done (fun j q => ?_)
      have := ps_cnt_pos (bd 4) (nI t) (hj j q).1 q 8 (hj j q).2
      omega
    · have nle : ¬ (8 : Int32) ≤ nI k := by rw [pu_le]; omega
      rw [if_neg nle]
      have n1 : ¬ (1 : Int32) = 0 := by decide
      rcases hc.2.1 t t1 t2 with ⟨z, w⟩ | ⟨r, a1, a2, a3, a4, a5⟩
      · have : md_Board_holdsAny pl bd (nI t) = 0 := by
          unfold md_Board_holdsAny
          rw [ps_nI_c (k := t) (by omega), z, if_pos rfl]
        rw [if_pos this]
        exact done w
      · have : md_Board_holdsAny pl bd (nI t) = 1 := by
          unfold md_Board_holdsAny
          rw [ps_nI_c (k := t) (by omega), a3, if_neg (ps_nz a1 (by omega))]
        rw [this, if_neg n1, show nI k + 1 = nI (k + 1) from nI_1 k]
        obtain ⟨g1, g2, g3, g4, g5, g6⟩ := ps_gb pl hc hb t1 t2 a1 a2 a3 a4
        have dec := ps_cnt_dec (f := bd 4) (f' := md_Board_giveBackLast pl bd (nI t) 4) (x := nI t) a1 a4 (by rw [g6, ps_us_s]; exact fun q => ps_nz t1 (by omega) q.symm) (fun j q => by rw [g6, ps_us_n _ _ q]) 8 a2
        have hj' : ∀ j, md_Board_giveBackLast pl bd (nI t) 4 j = nI t → 1 ≤ j ∧ j ≤ 8 := fun j q => by
          by_cases w : j = r
          · rw [w]
            exact ⟨a1, a2⟩
          · rw [g6, ps_us_n _ _ w] at q
            exact hj j q
        obtain ⟨⟨s0, s1, s2, s4⟩, sc, sb⟩ := ps_slL pl t1 t2 d (k + 1) (md_Board_giveBackLast pl bd (nI t)) (by omega) (by omega) g1 g2 hj' (by omega)
        refine ⟨⟨s0.trans g3, by rw [s1, g4], s2.trans g5, fun j => ?_⟩, sc, sb⟩
        rw [s4 j, g6]
        by_cases w : j = r
        · rw [w, ps_us_s, a4, if_pos rfl]
          exact if_neg (fun q => ps_nz t1 (by omega) q.symm)
        · rw [ps_us_n _ _ w]
theorem ps_sl {N : Nat} {bd : cr_S} {g : Nat → Int32} (pl : cr_S) {t : Nat} (t1 : 1 ≤ t) (t2 : t ≤ 10) (hc : ps_Ch N bd g) (hb : cr_RBoard bd) (hj : ∀ j, bd 4 j = nI t → 1 ≤ j ∧ j ≤ 8) : ps_Sl bd (md_Board_putToSleep pl bd (nI t)) t ∧ ps_Ch N (md_Board_putToSleep pl bd (nI t)) g ∧ cr_RBoard (md_Board_putToSleep pl bd (nI t)) :=
  ps_slL pl t1 t2 9 0 bd (by omega) (by omega) hc hb hj (ps_cnt_le (bd 4) (nI t) 8)
