/-! the board's own laws: what is held, and the two laws that keep a resource free for the one that runs -/
theorem ps_inj {a b : Nat} (h : nI a = nI b) (ha : a < 100000) (hb : b < 100000) : a = b := by
  have x := ps_nI_t (k := a) ha
  have y := ps_nI_t (k := b) hb
  rw [h] at x
  omega
theorem ps_nz {a : Nat} (h : 1 ≤ a) (ha : a < 100000) : nI a ≠ 0 := fun e => by
  have := ps_inj (a := a) (b := 0) e ha (by omega)
  omega
def ps_B1 (bd : cr_S) (T : Nat) : Prop := ∀ t : Nat, bd 1 t = 0 ∨ (1 ≤ t ∧ t ≤ T ∧ (bd 1 t = 1 ∨ bd 1 t = 2))
def ps_B2 (bd : cr_S) : Prop := ∀ t : Nat, bd 1 t = 1 → 1 ≤ (bd 2 t).toInt ∧ (bd 2 t).toInt ≤ (bd 0 0).toInt
def ps_B4 (pl bd : cr_S) (T R : Nat) : Prop := ∀ j : Nat, bd 4 j = 0 ∨ ∃ t, 1 ≤ t ∧ t ≤ T ∧ bd 4 j = nI t ∧ bd 1 t = 1 ∧ 1 ≤ j ∧ j ≤ R ∧ ps_us pl t j
def ps_I1 (pl bd : cr_S) (T : Nat) : Prop := ∀ a b j : Nat, 1 ≤ a → a ≤ T → bd 4 j = nI a → bd 1 b = 1 → pl 2 a = pl 2 b → (bd 2 b).toInt < (bd 2 a).toInt → (pl 1 b).toInt < (pl 1 a).toInt
def ps_I3 (pl bd : cr_S) (T R : Nat) : Prop := ∀ a b i j : Nat, a ≠ b → 1 ≤ a → a ≤ T → 1 ≤ b → b ≤ T → bd 4 i = nI a → bd 4 j = nI b → pl 2 a = pl 2 b → ps_rn pl (bd 4) a R < (pl 1 b).toInt ∨ ps_rn pl (bd 4) b R < (pl 1 a).toInt
def ps_Bd (pl bd : cr_S) (T R : Nat) : Prop := ps_B1 bd T ∧ ps_B2 bd ∧ ps_dif bd ∧ ps_B4 pl bd T R ∧ ps_I1 pl bd T ∧ ps_I3 pl bd T R
/-- a holder is ready and one of the tasks -/
theorem ps_B4h {pl bd : cr_S} {T R : Nat} (h : ps_B4 pl bd T R) (hT : T ≤ 10) {a j : Nat} (a1 : 1 ≤ a) (a2 : a ≤ 10) (e : bd 4 j = nI a) : a ≤ T ∧ bd 1 a = 1 ∧ 1 ≤ j ∧ j ≤ R ∧ ps_us pl a j := by
  rcases h j with q | ⟨t, q1, q2, q3, q4, q5, q6, q7⟩
  · rw [q] at e
    exact absurd e.symm (ps_nz a1 (by omega))
  · have z : a = t := ps_inj (e.symm.trans q3) (by omega) (by omega)
    subst z
    exact ⟨q2, q4, q5, q6, q7⟩
theorem ps_freeR {pl bd : cr_S} {T R : Nat} (h : ps_Bd pl bd T R) (hT : T ≤ 10) (hR : R ≤ 8) (hC : ps_PC pl T) (hO : ps_PO pl) {t r : Nat} (hf : ps_fs pl bd R (pl 2 t) (T + 1) t) (ht : 1 ≤ t) (hr : r ≤ 8) (hu : ps_us pl t r) : bd 4 r = 0 ∨ bd 4 r = nI t := by
  obtain ⟨b1, b2, b3, b4, i1, i3⟩ := h
  rcases b4 r with q | ⟨a, q1, q2, q3, q4, q5, q6, q7⟩
  · exact Or.inl q
  · by_cases e : a = t
    · subst e
      exact Or.inr q3
    · exfalso
      have tr := ps_best_r hf (by omega)
      have tT : t ≤ T := by omega
      have co : pl 2 a = pl 2 t := by
        rcases hO r hr with ⟨_, w⟩ | ⟨_, _, w⟩
        · exact absurd q7 (w a (by omega))
        · rw [w a (by omega) q7, w t (by omega) hu]
      have c1 : (pl 1 t).toInt ≤ (pl 3 r).toInt := (hC r hr).2.1 t ht (by omega) hu
      have c2 := ps_rn_c pl (bd 4) a R r q5 q6 q3
      have c3 := ps_rn_ge pl (bd 4) a R
      have bs : ps_rn pl (bd 4) a R < ps_rn pl (bd 4) t R ∨ (ps_rn pl (bd 4) a R = ps_rn pl (bd 4) t R ∧ (bd 2 t).toInt < (bd 2 a).toInt) := by
        rcases hf with ⟨w, _⟩ | ⟨_, _, _, w⟩
        · omega
        · exact w a q1 (by omega) ⟨co, q4⟩ e
      by_cases hh : ∃ i, bd 4 i = nI t
      · obtain ⟨i, hi⟩ := hh
        have := i3 a t r i e q1 q2 ht tT q3 hi co
        omega
      · have c4 := ps_rn_free (pl := pl) (f := bd 4) (t := t) R (fun i hi => hh ⟨i, hi⟩)
        clear hh
        have z : (bd 2 t).toInt < (bd 2 a).toInt := by
          rcases bs with w | ⟨_, w⟩
          · exact absurd w (by omega)
          · exact w
        have := i1 a t r q1 q2 q3 tr.2.2.2 co z
        omega
/-- who holds something on the core of the one that runs has a rank now below its rank -/
theorem ps_above {pl bd : cr_S} {T R : Nat} (h : ps_Bd pl bd T R) (hT : T ≤ 10) {t : Nat} (hf : ps_fs pl bd R (pl 2 t) (T + 1) t) (ht : 1 ≤ t) {b j : Nat} (hb : b ≠ t) (b1 : 1 ≤ b) (b2 : b ≤ T) (hj : bd 4 j = nI b) (co : pl 2 b = pl 2 t) : ps_rn pl (bd 4) b R < (pl 1 t).toInt := by
  obtain ⟨B1, B2, B3, B4, i1, i3⟩ := h
  have tr := ps_best_r hf (by omega)
  have tT : t ≤ T := by omega
  have bh := ps_B4h B4 hT b1 (by omega) hj
  have c3 := ps_rn_ge pl (bd 4) b R
  have bs : ps_rn pl (bd 4) b R < ps_rn pl (bd 4) t R ∨ (ps_rn pl (bd 4) b R = ps_rn pl (bd 4) t R ∧ (bd 2 t).toInt < (bd 2 b).toInt) := by
    rcases hf with ⟨w, _⟩ | ⟨_, _, _, w⟩
    · omega
    · exact w b b1 (by omega) ⟨co, bh.2.1⟩ hb
  by_cases hh : ∃ i, bd 4 i = nI t
  · obtain ⟨i, hi⟩ := hh
    have := i3 b t j i hb b1 b2 ht tT hj hi co
    omega
  · have c4 := ps_rn_free (pl := pl) (f := bd 4) (t := t) R (fun i hi => hh ⟨i, hi⟩)
    clear hh
    rcases bs with w | ⟨w, w'⟩
    · omega
    · have := i1 b t j b1 b2 hj tr.2.2.2 co w'
      omega
theorem ps_Bd_take {pl bd bd' : cr_S} {T R : Nat} (h : ps_Bd pl bd T R) (hT : T ≤ 10) {t r : Nat} (hf : ps_fs pl bd R (pl 2 t) (T + 1) t) (ht : 1 ≤ t) (r1 : 1 ≤ r) (r2 : r ≤ R) (hu : ps_us pl t r) (h0 : bd 4 r = 0) (e0 : bd' 0 0 = bd 0 0) (e1 : bd' 1 = bd 1) (e2 : bd' 2 = bd 2) (e4 : bd' 4 r = nI t) (e4' : ∀ j, j ≠ r → bd' 4 j = bd 4 j) : ps_Bd pl bd' T R := by
  have ab := fun (b j : Nat) (x1 : b ≠ t) (x2 : 1 ≤ b) (x3 : b ≤ T) (x4 : bd 4 j = nI b) (x5 : pl 2 b = pl 2 t) => ps_above h hT hf ht x1 x2 x3 x4 x5
  obtain ⟨B1, B2, B3, B4, i1, i3⟩ := h
  have tr := ps_best_r hf (by omega)
  have tT : t ≤ T := by omega
  -- who holds in the new board and is not t held in the old one
  have old : ∀ a j, a ≠ t → a ≤ 10 → bd' 4 j = nI a → bd 4 j = nI a := fun a j x1 x2 x3 => by
    by_cases w : j = r
    · rw [w, e4] at x3
      exact absurd (ps_inj x3 (by omega) (by omega)) (fun q => x1 q.symm)
    · rw [← e4' j w]
      exact x3
  have mono : ∀ a, a ≠ t → a ≤ 10 → ps_rn pl (bd' 4) a R ≤ ps_rn pl (bd 4) a R := fun a x1 x2 => ps_rn_mono R (fun j x3 => old a j x1 x2 x3)
  refine ⟨fun u => ?_, fun u => ?_, fun u w => ?_, fun j => ?_, fun a b j a1 a2 hj hb co od => ?_, fun a b i j ne a1 a2 b1 b2 hi hj co => ?_⟩
  · rw [e1]
    exact B1 u
  · rw [e1, e2, e0]
    exact B2 u
  · rw [e1, e2]
    exact B3 u w
  · by_cases w : j = r
    · subst w
      exact Or.inr ⟨t, ht, tT, e4, by rw [e1]; exact tr.2.2.2, r1, r2, hu⟩
    · rw [e4' j w, e1]
      exact B4 j
  · rw [e1] at hb
    rw [e2] at od
    by_cases w : a = t
    · subst w
      by_cases hh : ∃ i, bd 4 i = nI a
      · obtain ⟨i, hi⟩ := hh
        exact i1 a b i a1 a2 hi hb co od
      · have c4 := ps_rn_free (pl := pl) (f := bd 4) (t := a) R (fun i hi => hh ⟨i, hi⟩)
        clear hh
        have c3 := ps_rn_ge pl (bd 4) b R
        have ba : b ≠ a := fun q => by rw [q] at od; exact absurd od (Int.lt_irrefl _)
        have bT : 1 ≤ b ∧ b ≤ T := by
          rcases B1 b with q | q
          · rw [q] at hb
            exact absurd hb (by decide)
          · exact ⟨q.1, q.2.1⟩
        rcases hf with ⟨w, _⟩ | ⟨_, _, _, w⟩
        · omega
        · have z := w b bT.1 (by omega) ⟨co.symm, hb⟩ ba
          have z' : ps_rn pl (bd 4) b R < ps_rn pl (bd 4) a R ∨ (ps_rn pl (bd 4) b R = ps_rn pl (bd 4) a R ∧ (bd 2 a).toInt < (bd 2 b).toInt) := z
          clear z w
          omega
    · exact i1 a b j a1 a2 (old a j w (by omega) hj) hb co od
  · by_cases w : a = t
    · subst w
      refine Or.inr (Int.lt_of_le_of_lt (mono b (fun q => ne q.symm) (by omega)) ?_)
      exact ab b j (fun q => ne q.symm) b1 b2 (old b j (fun q => ne q.symm) (by omega) hj) co.symm
    · by_cases w2 : b = t
      · subst w2
        refine Or.inl (Int.lt_of_le_of_lt (mono a ne (by omega)) ?_)
        exact ab a i ne a1 a2 (old a i ne (by omega) hi) co
      · have m1 := mono a w (by omega)
        have m2 := mono b w2 (by omega)
        have := i3 a b i j ne a1 a2 b1 b2 (old a i w (by omega) hi) (old b j w2 (by omega) hj) co
        omega
/-- less is held, tasks that hold nothing sleep or wait -/
theorem ps_Bd_drop {pl bd bd' : cr_S} {T R : Nat} (h : ps_Bd pl bd T R) (hT : T ≤ 10) (e0 : bd' 0 0 = bd 0 0) (e2 : bd' 2 = bd 2) (e4 : ∀ j, bd' 4 j = bd 4 j ∨ bd' 4 j = 0) (e1 : ∀ u, bd' 1 u = bd 1 u ∨ ((bd' 1 u = 0 ∨ (bd' 1 u = 2 ∧ 1 ≤ u ∧ u ≤ T)) ∧ ∀ j, bd' 4 j ≠ nI u)) : ps_Bd pl bd' T R := by
  obtain ⟨B1, B2, B3, B4, i1, i3⟩ := h
  have n01 : ¬ (0 : Int32) = 1 := by decide
  have n21 : ¬ (2 : Int32) = 1 := by decide
  have rdy : ∀ u, bd' 1 u = 1 → bd 1 u = 1 := fun u hu => by
    rcases e1 u with q | ⟨q | ⟨q, _⟩, _⟩
    · rw [← q]
      exact hu
    · rw [q] at hu
      exact absurd hu n01
    · rw [q] at hu
      exact absurd hu n21
  have old : ∀ a j, 1 ≤ a → a ≤ 10 → bd' 4 j = nI a → bd 4 j = nI a := fun a j x1 x2 x3 => by
    rcases e4 j with q | q
    · rw [← q]
      exact x3
    · rw [q] at x3
      exact absurd x3.symm (ps_nz x1 (by omega))
  have mono : ∀ a, 1 ≤ a → a ≤ 10 → ps_rn pl (bd' 4) a R ≤ ps_rn pl (bd 4) a R := fun a x1 x2 => ps_rn_mono R (fun j x3 => old a j x1 x2 x3)
  refine ⟨fun u => ?_, fun u hu => ?_, fun u w hu hw ne => ?_, fun j => ?_, fun a b j a1 a2 hj hb co od => ?_, fun a b i j ne a1 a2 b1 b2 hi hj co => ?_⟩
  · rcases e1 u with q | ⟨q | ⟨q, q1, q2⟩, _⟩
    · rw [q]
      exact B1 u
    · exact Or.inl q
    · exact Or.inr ⟨q1, q2, Or.inr q⟩
  · rw [e2, e0]
    exact B2 u (rdy u hu)
  · rw [e2]
    exact B3 u w (rdy u hu) (rdy w hw) ne
  · rcases e4 j with q | q
    · rcases B4 j with z | ⟨a, q1, q2, q3, q4, q5, q6, q7⟩
      · exact Or.inl (q.trans z)
      · refine Or.inr ⟨a, q1, q2, q.trans q3, ?_, q5, q6, q7⟩
        rcases e1 a with z | ⟨_, z⟩
        · rw [z]
          exact q4
        · exact absurd (q.trans q3) (z j)
    · exact Or.inl q
  · rw [e2] at od
    exact i1 a b j a1 a2 (old a j a1 (by omega) hj) (rdy b hb) co od
  · have m1 := mono a a1 (by omega)
    have m2 := mono b b1 (by omega)
    have := i3 a b i j ne a1 a2 b1 b2 (old a i a1 (by omega) hi) (old b j b1 (by omega) hj) co
    omega
theorem ps_Bd_ready {pl bd bd' : cr_S} {T R : Nat} (h : ps_Bd pl bd T R) (hT : T ≤ 10) {x : Nat} (x1 : 1 ≤ x) (x2 : x ≤ T) (hx : bd 1 x ≠ 1) (hn : 0 ≤ (bd 0 0).toInt) (e0 : (bd' 0 0).toInt = (bd 0 0).toInt + 1) (e1 : bd' 1 x = 1) (e1' : ∀ u, u ≠ x → bd' 1 u = bd 1 u) (e2 : bd' 2 x = bd' 0 0) (e2' : ∀ u, u ≠ x → bd' 2 u = bd 2 u) (e4 : bd' 4 = bd 4) : ps_Bd pl bd' T R := by
  obtain ⟨B1, B2, B3, B4, i1, i3⟩ := h
  have nh : ∀ j, bd 4 j ≠ nI x := fun j hj => hx (ps_B4h B4 hT x1 (by omega) hj).2.1
  refine ⟨fun u => ?_, fun u hu => ?_, fun u w hu hw ne => ?_, fun j => ?_, fun a b j a1 a2 hj hb co od => ?_, fun a b i j ne a1 a2 b1 b2 hi hj co => ?_⟩
  · by_cases w : u = x
    · subst w
      exact Or.inr ⟨x1, x2, Or.inl e1⟩
    · rw [e1' u w]
      exact B1 u
  · by_cases w : u = x
    · subst w
      rw [e2]
      omega
    · rw [e1' u w] at hu
      have := B2 u hu
      rw [e2' u w]
      omega
  · by_cases w1 : u = x
    · subst w1
      have w2 : w ≠ u := fun q => ne q.symm
      rw [e1' w w2] at hw
      have := B2 w hw
      rw [e2, e2' w w2]
      omega
    · rw [e1' u w1] at hu
      by_cases w2 : w = x
      · subst w2
        have := B2 u hu
        rw [e2, e2' u w1]
        omega
      · rw [e1' w w2] at hw
        rw [e2' u w1, e2' w w2]
        exact B3 u w hu hw ne
  · rw [e4]
    rcases B4 j with z | ⟨a, q1, q2, q3, q4, q5, q6, q7⟩
    · exact Or.inl z
    · refine Or.inr ⟨a, q1, q2, q3, ?_, q5, q6, q7⟩
      by_cases w : a = x
      · rw [w]
        exact e1
      · rw [e1' a w]
        exact q4
  · rw [e4] at hj
    have w : a ≠ x := fun q => nh j (by rw [← q]; exact hj)
    rw [e2' a w] at od
    by_cases w2 : b = x
    · subst w2
      rw [e2] at od
      have := B2 a (ps_B4h B4 hT a1 (by omega) hj).2.1
      omega
    · rw [e1' b w2] at hb
      rw [e2' b w2] at od
      exact i1 a b j a1 a2 hj hb co od
  · rw [e4] at hi hj ⊢
    exact i3 a b i j ne a1 a2 b1 b2 hi hj co
/-- another plan: nothing changes for those that are ready and what they hold -/
theorem ps_Bd_plan {pl pl' bd : cr_S} {T R T' R' : Nat} (h : ps_Bd pl bd T R) (hT : T ≤ T') (hT' : T' ≤ 10) (hR : R ≤ R') (e1 : ∀ u, bd 1 u = 1 → pl' 1 u = pl 1 u ∧ pl' 2 u = pl 2 u) (e3 : ∀ u j, 1 ≤ u → u ≤ T → bd 1 u = 1 → bd 4 j = nI u → ps_us pl u j → ps_us pl' u j ∧ pl' 3 j = pl 3 j) : ps_Bd pl' bd T' R' := by
  obtain ⟨B1, B2, B3, B4, i1, i3⟩ := h
  have hd : ∀ a j, 1 ≤ a → a ≤ 10 → bd 4 j = nI a → a ≤ T ∧ bd 1 a = 1 ∧ 1 ≤ j ∧ j ≤ R ∧ ps_us pl a j := fun a j x1 x2 x3 => ps_B4h B4 (by omega) x1 x2 x3
  have le : ∀ a j, 1 ≤ a → a ≤ 10 → bd 4 j = nI a → ps_rn pl' (bd 4) a R' ≤ ps_rn pl (bd 4) a R := fun a j x1 x2 x3 => by
    have y := hd a j x1 x2 x3
    refine ps_rn_le ?_ R' (fun r c1 c2 c3 => ?_)
    · rw [(e1 a y.2.1).1]
      exact ps_rn_ge pl (bd 4) a R
    · have y' := hd a r x1 x2 c3
      rw [(e3 a r x1 y'.1 y'.2.1 c3 y'.2.2.2.2).2]
      exact ps_rn_c pl (bd 4) a R r c1 y'.2.2.2.1 c3
  refine ⟨fun u => ?_, B2, B3, fun j => ?_, fun a b j a1 a2 hj hb co od => ?_, fun a b i j ne a1 a2 b1 b2 hi hj co => ?_⟩
  · rcases B1 u with q | ⟨q1, q2, q3⟩
    · exact Or.inl q
    · exact Or.inr ⟨q1, by omega, q3⟩
  · rcases B4 j with z | ⟨a, q1, q2, q3, q4, q5, q6, q7⟩
    · exact Or.inl z
    · exact Or.inr ⟨a, q1, by omega, q3, q4, q5, by omega, (e3 a j q1 q2 q4 q3 q7).1⟩
  · have y := hd a j a1 (by omega) hj
    rw [(e1 a y.2.1).2, (e1 b hb).2] at co
    rw [(e1 a y.2.1).1, (e1 b hb).1]
    exact i1 a b j a1 y.1 hj hb co od
  · have y := hd a i a1 (by omega) hi
    have y' := hd b j b1 (by omega) hj
    rw [(e1 a y.2.1).2, (e1 b y'.2.1).2] at co
    have m1 := le a i a1 (by omega) hi
    have m2 := le b j b1 (by omega) hj
    have := i3 a b i j ne a1 y.1 b1 y'.1 hi hj co
    rw [(e1 a y.2.1).1, (e1 b y'.2.1).1]
    omega
