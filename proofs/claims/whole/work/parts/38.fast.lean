/-! a world in two halves: one is given to a callee and taken back -/
theorem cr_PL {D : va_G} {cl : List vw_C} {X Y : va_W} {H : Heap} (h : va_P D cl (X ++ Y) H) : va_P D cl X H := fun k q hk => h k q (cr_getL hk)
theorem cr_PR {D : va_G} {cl : List vw_C} {X Y : va_W} {H : Heap} (h : va_P D cl (X ++ Y) H) : va_P D cl Y H := fun k q hk => h (X.length + k) q (cr_getR rfl hk)
theorem cr_DL {A : Nat → Prop} {X Y : va_W} (h : va_D A (X ++ Y)) : va_D A X := ⟨fun i j p q h1 h2 h3 => h.1 i j p q (cr_getL h1) (cr_getL h2) h3, fun k q hk => h.2 k q (cr_getL hk)⟩
theorem cr_DR {A : Nat → Prop} {X Y : va_W} (h : va_D A (X ++ Y)) : va_D A Y := ⟨fun i j p q h1 h2 h3 => by have := h.1 (X.length + i) (X.length + j) p q (cr_getR rfl h1) (cr_getR rfl h2) h3; omega, fun k q hk => h.2 (X.length + k) q (cr_getR rfl hk)⟩
theorem cr_FW {A0 : Nat → Prop} {X : va_W} {H0 H : Heap} {locs : List Loc} (hD : va_D A0 X) (hS : va_S A0 H0 H locs) (hA : ∀ q, H0.size ≤ q → A0 q) : ∀ q, va_A X H.size q → A0 q := by
  intro q h
  rcases h with ⟨k, e, h⟩ | h
  · exact hD.2 k _ h
  · exact hA q (Nat.le_trans hS.1 h)
theorem cr_apc {X Y : va_W} {i : Nat} {q : Nat × va_E} (h : (X ++ Y)[i]? = some q) : (i < X.length ∧ X[i]? = some q) ∨ ∃ j, i = X.length + j ∧ Y[j]? = some q := by
  by_cases hi : i < X.length
  · rw [List.getElem?_append_left hi] at h; exact Or.inl ⟨hi, h⟩
  · rw [List.getElem?_append_right (by omega)] at h; exact Or.inr ⟨i - X.length, by omega, h⟩
theorem cr_jL {A0 : Nat → Prop} {D : va_G} {cl : List vw_C} {X X' Y : va_W} {H H1 : Heap} (hP : va_P D cl (X ++ Y) H) (hD : va_D A0 (X ++ Y)) (hk : ∀ q : Nat, q < H.size → ¬ va_A X H.size q → H1[q]? = H[q]?) (hF : ∀ q, va_A X H.size q → A0 q) (hP1 : va_P D cl X' H1) (hD1 : va_D (va_A X H.size) X') : va_P D cl (X' ++ Y) H1 ∧ va_D A0 (X' ++ Y) := by
  have hY : ∀ (j : Nat) (q : Nat × va_E), Y[j]? = some q → q.1 < H.size ∧ ¬ va_A X H.size q.1 := by
    intro j q h
    have hq := (cr_PR hP j q h).lt
    refine ⟨hq, ?_⟩
    rintro (⟨k, e, h9⟩ | h9)
    · have h8 := hD.1 k (X.length + j) (q.1, e) q (cr_getL h9) (cr_getR rfl h) rfl
      have h7 := (List.getElem?_eq_some_iff.mp h9).1
      omega
    · omega
  refine ⟨fun i q h => ?_, fun i j p q h1 h2 h3 => ?_, fun i q h => ?_⟩
  · rcases cr_apc h with ⟨-, h⟩ | ⟨j, -, h⟩
    · exact hP1 i q h
    · exact (cr_PR hP j q h).kept (hk q.1 (hY j q h).1 (hY j q h).2)
  · rcases cr_apc h1 with ⟨-, g1⟩ | ⟨a, rfl, g1⟩ <;> rcases cr_apc h2 with ⟨-, g2⟩ | ⟨b, rfl, g2⟩
    · exact hD1.1 i j p q g1 g2 h3
    · exact absurd (h3 ▸ hD1.2 i p g1) (hY b q g2).2
    · exact absurd (h3.symm ▸ hD1.2 j q g2) (hY a p g1).2
    · have := (cr_DR hD).1 a b p q g1 g2 h3
      omega
  · rcases cr_apc h with ⟨-, h⟩ | ⟨j, -, h⟩
    · exact hF _ (hD1.2 i q h)
    · exact (cr_DR hD).2 j q h
theorem cr_jR {A0 : Nat → Prop} {D : va_G} {cl : List vw_C} {X Y Y' : va_W} {H H1 : Heap} (hP : va_P D cl (X ++ Y) H) (hD : va_D A0 (X ++ Y)) (hk : ∀ q : Nat, q < H.size → ¬ va_A Y H.size q → H1[q]? = H[q]?) (hF : ∀ q, va_A Y H.size q → A0 q) (hP1 : va_P D cl Y' H1) (hD1 : va_D (va_A Y H.size) Y') : va_P D cl (X ++ Y') H1 ∧ va_D A0 (X ++ Y') := by
  have hX : ∀ (j : Nat) (q : Nat × va_E), X[j]? = some q → q.1 < H.size ∧ ¬ va_A Y H.size q.1 := by
    intro j q h
    have hq := (cr_PL hP j q h).lt
    refine ⟨hq, ?_⟩
    rintro (⟨k, e, h9⟩ | h9)
    · have h8 := hD.1 (X.length + k) j (q.1, e) q (cr_getR rfl h9) (cr_getL h) rfl
      have h7 := (List.getElem?_eq_some_iff.mp h).1
      omega
    · omega
  refine ⟨fun i q h => ?_, fun i j p q h1 h2 h3 => ?_, fun i q h => ?_⟩
  · rcases cr_apc h with ⟨-, h⟩ | ⟨j, -, h⟩
    · exact (cr_PL hP i q h).kept (hk q.1 (hX i q h).1 (hX i q h).2)
    · exact hP1 j q h
  · rcases cr_apc h1 with ⟨-, g1⟩ | ⟨a, rfl, g1⟩ <;> rcases cr_apc h2 with ⟨-, g2⟩ | ⟨b, rfl, g2⟩
    · exact (cr_DL hD).1 i j p q g1 g2 h3
    · exact absurd (h3.symm ▸ hD1.2 b q g2) (hX i p g1).2
    · exact absurd (h3 ▸ hD1.2 a p g1) (hX j q g2).2
    · have := hD1.1 a b p q g1 g2 h3
      omega
  · rcases cr_apc h with ⟨-, h⟩ | ⟨j, -, h⟩
    · exact (cr_DL hD).2 i q h
    · exact hF _ (hD1.2 j q h)
