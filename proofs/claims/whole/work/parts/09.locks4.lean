/-! locks: giving back, ceasing to spin, beginning to spin -/
theorem ps_free {N : Nat} {lk rf : cr_S} (h : ps_L N lk rf) (x : Nat) : ps_L N (cr_up lk 1 x 0) (cr_up rf 9 x 0) := by
  obtain ⟨⟨a1, a2, a3, a4, a5⟩, b, sO, ⟨d1, d2, d3, d4⟩, sS, sH, sW⟩ := h
  have k0 : (0 : Int32).toInt = 0 := by decide
  have r9 : cr_up rf 9 x 0 9 = upd (rf 9) x 0 := pu_up_fn ..
  have r10 : cr_up rf 9 x 0 10 = rf 10 := pu_up_cell _ _ _ (by decide)
  have r0 : cr_up rf 9 x 0 0 = rf 0 := pu_up_cell _ _ _ (by decide)
  have r11 : cr_up rf 9 x 0 11 = rf 11 := pu_up_cell _ _ _ (by decide)
  have r12 : cr_up rf 9 x 0 12 = rf 12 := pu_up_cell _ _ _ (by decide)
  have l1 : cr_up lk 1 x 0 1 = upd (lk 1) x 0 := pu_up_fn ..
  have l2 : cr_up lk 1 x 0 2 = lk 2 := pu_up_cell _ _ _ (by decide)
  have l3 : cr_up lk 1 x 0 3 = lk 3 := pu_up_cell _ _ _ (by decide)
  have l0 : cr_up lk 1 x 0 0 = lk 0 := pu_up_cell _ _ _ (by decide)
  have ux : ∀ (f : Nat → Int32) (v : Int32), upd f x v x = v := fun f v => by simp [upd]
  have un : ∀ (f : Nat → Int32) (v : Int32) (j : Nat), j ≠ x → upd f x v j = f j := fun f v j hj => by simp [upd, hj]
  refine ⟨⟨by rw [l1, r9, a1], by rw [l2, r11, a2], cr_rg_up a3 (fun _ => by omega), cr_rg_up a4 (fun e => absurd e (by decide)), by rw [l2]; exact a5⟩, ?_, ?_, ⟨by rw [l0]; exact d1, by rw [l0]; exact d2, by rw [r0]; exact d3, by rw [r0]; exact d4⟩, ?_, ?_, ?_⟩
  · intro n m h1 h2 h3 h4 h5
    rw [r9] at h4 h5
    rw [r10]
    by_cases en : n = x
    · subst en; rw [ux] at h5; exact absurd rfl h5
    · rw [un _ _ n en] at h4 h5
      by_cases em : m = x
      · subst em; rw [ux] at h4; exact absurd h4 h5
      · rw [un _ _ m em] at h4
        exact b n m h1 h2 h3 h4 h5
  · intro c1 c2 g1 g2 g3 g4 g5 g6
    rw [l2] at g5 g6
    rw [l3, r12]
    exact sO c1 c2 g1 g2 g3 g4 g5 g6
  · intro c1 g1 g2 g3
    rw [l2] at g3
    rw [l3, l0, r12, r0]
    exact sS c1 g1 g2 g3
  · intro n g1 g2 g3
    rw [r9] at g3
    rw [r10, r0]
    by_cases en : n = x
    · subst en; rw [ux] at g3; exact absurd rfl g3
    · rw [un _ _ n en] at g3
      exact sH n g1 g2 g3
  · intro c1 n g1 g2 g3 g4 g5 g6
    rw [l2] at g5 ⊢
    rw [l1] at g6
    by_cases en : n = x
    · subst en; rw [ux] at g6; omega
    · rw [un _ _ n en] at g6
      exact sW c1 n g1 g2 g3 g4 g5 g6
theorem ps_stop {N : Nat} {lk rf : cr_S} (h : ps_L N lk rf) {t : Nat} (ht : 1 ≤ t) : ps_L N (cr_up lk 2 t 0) (cr_up rf 11 t 0) := by
  obtain ⟨⟨a1, a2, a3, a4, a5⟩, b, sO, ⟨d1, d2, d3, d4⟩, sS, sH, sW⟩ := h
  have k0 : (0 : Int32).toInt = 0 := by decide
  have r9 : cr_up rf 11 t 0 9 = rf 9 := pu_up_cell _ _ _ (by decide)
  have r10 : cr_up rf 11 t 0 10 = rf 10 := pu_up_cell _ _ _ (by decide)
  have r0 : cr_up rf 11 t 0 0 = rf 0 := pu_up_cell _ _ _ (by decide)
  have r11 : cr_up rf 11 t 0 11 = upd (rf 11) t 0 := pu_up_fn ..
  have r12 : cr_up rf 11 t 0 12 = rf 12 := pu_up_cell _ _ _ (by decide)
  have l1 : cr_up lk 2 t 0 1 = lk 1 := pu_up_cell _ _ _ (by decide)
  have l2 : cr_up lk 2 t 0 2 = upd (lk 2) t 0 := pu_up_fn ..
  have l3 : cr_up lk 2 t 0 3 = lk 3 := pu_up_cell _ _ _ (by decide)
  have l0 : cr_up lk 2 t 0 0 = lk 0 := pu_up_cell _ _ _ (by decide)
  have un : ∀ (j : Nat), upd (lk 2) t 0 j ≠ 0 → j ≠ t ∧ upd (lk 2) t 0 j = lk 2 j := fun j hj => by
    by_cases e : j = t
    · subst e; exact absurd (by simp [upd]) hj
    · exact ⟨e, by simp [upd, e]⟩
  refine ⟨⟨by rw [l1, r9, a1], by rw [l2, r11, a2], cr_rg_up a3 (fun e => absurd e (by decide)), cr_rg_up a4 (fun _ => by omega), by rw [l2]; simp only [upd, if_neg (show (0 : Nat) ≠ t by omega)]; exact a5⟩, ?_, ?_, ⟨by rw [l0]; exact d1, by rw [l0]; exact d2, by rw [r0]; exact d3, by rw [r0]; exact d4⟩, ?_, ?_, ?_⟩
  · intro n m h1 h2 h3 h4 h5
    rw [r9] at h4 h5
    rw [r10]
    exact b n m h1 h2 h3 h4 h5
  · intro c1 c2 g1 g2 g3 g4 g5 g6
    rw [l2] at g5 g6
    rw [l3, r12]
    have q5 := (un c1 g5).2
    have q6 := (un c2 g6).2
    rw [q5] at g5
    rw [q6] at g6
    exact sO c1 c2 g1 g2 g3 g4 g5 g6
  · intro c1 g1 g2 g3
    rw [l2] at g3
    rw [l3, l0, r12, r0]
    have q := (un c1 g3).2
    rw [q] at g3
    exact sS c1 g1 g2 g3
  · intro n g1 g2 g3
    rw [r9] at g3
    rw [r10, r0]
    exact sH n g1 g2 g3
  · intro c1 n g1 g2 g3 g4 g5 g6
    rw [l2] at g5 ⊢
    rw [l1] at g6
    have q := (un c1 g5).2
    rw [q] at g5 ⊢
    exact sW c1 n g1 g2 g3 g4 g5 g6
theorem ps_begin {N : Nat} {lk rf lk' rf' : cr_S} (h : ps_L N lk rf) (hN : N < 512) {c x : Nat} (hc1 : 1 ≤ c) (hc3 : c ≤ 3) (hx1 : 1 ≤ x) (hx8 : x ≤ 8) (hfree : ∀ m, x ≤ m → m ≤ 8 → rf 9 m ≠ nI c)
    (l1 : lk' 1 = lk 1) (l2 : lk' 2 = upd (lk 2) c (nI x)) (l3 : lk' 3 = upd (lk 3) c (lk 0 0 + 1)) (l0 : lk' 0 0 = lk 0 0 + 1) (r9 : rf' 9 = rf 9) (r10 : rf' 10 = rf 10) (r11 : rf' 11 = upd (rf 11) c (nI x)) (r12 : rf' 12 = upd (rf 12) c (rf 0 3 + 1)) (r0 : rf' 0 3 = rf 0 3 + 1) : ps_L (N + 1) lk' rf' := by
  obtain ⟨⟨a1, a2, a3, a4, a5⟩, b, sO, ⟨d1, d2, d3, d4⟩, sS, sH, sW⟩ := h
  have xt := ps_nI_t (k := x) (by omega)
  have ct := ps_nI_t (k := c) (by omega)
  have p1 := ps_add1 d1 d2 (by omega)
  have p2 := ps_add1 d3 d4 (by omega)
  have ux : ∀ (f : Nat → Int32) (v : Int32), upd f c v c = v := fun f v => by simp [upd]
  have un : ∀ (f : Nat → Int32) (v : Int32) (j : Nat), j ≠ c → upd f c v j = f j := fun f v j hj => by simp [upd, hj]
  refine ⟨⟨by rw [l1, r9, a1], by rw [l2, r11, a2], fun j => by rw [l1]; exact a3 j, fun j => ?_, by rw [l2, un _ _ 0 (by omega)]; exact a5⟩, ?_, ?_, ⟨by rw [l0]; omega, by rw [l0]; omega, by rw [r0]; omega, by rw [r0]; omega⟩, ?_, ?_, ?_⟩
  · rw [l2]
    by_cases e : j = c
    · subst e; rw [ux]; omega
    · rw [un _ _ j e]; exact a4 j
  · intro n m h1 h2 h3 h4 h5
    rw [r9] at h4 h5
    rw [r10]
    exact b n m h1 h2 h3 h4 h5
  · intro c1 c2 g1 g2 g3 g4 g5 g6
    rw [l2] at g5 g6
    rw [l3, r12]
    by_cases e1 : c1 = c
    · subst e1
      by_cases e2 : c2 = c1
      · subst e2; rw [ux, ux]; omega
      · rw [un _ _ c2 e2] at g6
        rw [ux, ux, un _ _ c2 e2, un _ _ c2 e2]
        have := sS c2 g3 g4 g6
        omega
    · rw [un _ _ c1 e1] at g5
      by_cases e2 : c2 = c
      · subst e2
        rw [ux, ux, un _ _ c1 e1, un _ _ c1 e1]
        have := sS c1 g1 g2 g5
        omega
      · rw [un _ _ c2 e2] at g6
        rw [un _ _ c1 e1, un _ _ c1 e1, un _ _ c2 e2, un _ _ c2 e2]
        exact sO c1 c2 g1 g2 g3 g4 g5 g6
  · intro c1 g1 g2 g3
    rw [l2] at g3
    rw [l3, l0, r12, r0]
    by_cases e1 : c1 = c
    · subst e1; rw [ux, ux]; omega
    · rw [un _ _ c1 e1] at g3
      rw [un _ _ c1 e1, un _ _ c1 e1]
      have := sS c1 g1 g2 g3
      omega
  · intro n g1 g2 g3
    rw [r9] at g3
    rw [r10, r0]
    have := sH n g1 g2 g3
    omega
  · intro c1 n g1 g2 g3 g4 g5 g6
    rw [l2] at g5 ⊢
    rw [l1] at g6
    by_cases e1 : c1 = c
    · subst e1
      rw [ux]
      rcases Nat.lt_or_ge n x with w | w
      · omega
      · exact absurd (show rf 9 n = nI c1 by rw [← a1, pu_eq]; omega) (hfree n w g4)
    · rw [un _ _ c1 e1] at g5 ⊢
      exact sW c1 n g1 g2 g3 g4 g5 g6
