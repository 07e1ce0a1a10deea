/-! ring: both sides walk the same chain -/
theorem ps_nx0 {lk rf : cr_S} (h : ps_L0 lk rf) : ps_nx lk 0 = 0 := by
  unfold ps_nx
  rw [if_pos]
  exact h.2.2.2.2
theorem ps_wZ {lk rf : cr_S} (h : ps_L0 lk rf) (c : Int32) : ∀ (n : Nat) (k : Int32), lo_Locks_waitsForItself_4 lk c n 0 k = 0
  | 0, k => rfl
  | n + 1, k => by
    rw [lo_Locks_waitsForItself_4]
    by_cases e : (3 : Int32) ≤ k
    · rw [if_pos e]
    · rw [if_neg e, if_pos]
      unfold md_Locks_spins
      rw [if_pos]
      exact h.2.2.2.2
theorem ps_wS {lk rf : cr_S} (h : ps_L0 lk rf) {c : Int32} (hc : c ≠ 0) (n : Nat) (a k : Int32) (hk : ¬ (3 : Int32) ≤ k) : lo_Locks_waitsForItself_4 lk c (n + 1) a k = if ps_nx lk a = c then 1 else lo_Locks_waitsForItself_4 lk c n (ps_nx lk a) (k + 1) := by
  rw [lo_Locks_waitsForItself_4, if_neg hk]
  unfold md_Locks_spins
  by_cases e : lk 2 a.toNatClampNeg = 0
  · have e1 : ps_nx lk a = 0 := by unfold ps_nx; rw [if_pos e]
    rw [if_pos e, if_pos rfl, e1, if_neg (fun q => hc q.symm), ps_wZ h]
  · have e1 : ps_nx lk a = lk 1 (lk 2 a.toNatClampNeg).toNatClampNeg := by unfold ps_nx; rw [if_neg e]
    rw [if_neg e, if_neg (by decide), e1]
def ps_ch (lk : cr_S) (c : Int32) : Prop := ps_nx lk c = c ∨ ps_nx lk (ps_nx lk c) = c ∨ ps_nx lk (ps_nx lk (ps_nx lk c)) = c
theorem ps_waits {lk rf : cr_S} (h : ps_L0 lk rf) {c : Int32} (hc : c ≠ 0) : (ps_ch lk c → md_Locks_waitsForItself lk c = 1) ∧ (¬ ps_ch lk c → md_Locks_waitsForItself lk c = 0) := by
  unfold md_Locks_waitsForItself ps_ch
  rw [ps_wS h hc 3 c 0 (by decide), ps_wS h hc 2 _ _ (by decide), ps_wS h hc 1 _ _ (by decide)]
  rw [lo_Locks_waitsForItself_4, if_pos (show (3 : Int32) ≤ 0 + 1 + 1 + 1 by decide)]
  by_cases e1 : ps_nx lk c = c
  · rw [if_pos e1]; exact ⟨fun _ => rfl, fun q => absurd (Or.inl e1) q⟩
  · rw [if_neg e1]
    by_cases e2 : ps_nx lk (ps_nx lk c) = c
    · rw [if_pos e2]; exact ⟨fun _ => rfl, fun q => absurd (Or.inr (Or.inl e2)) q⟩
    · rw [if_neg e2]
      by_cases e3 : ps_nx lk (ps_nx lk (ps_nx lk c)) = c
      · rw [if_pos e3]; exact ⟨fun _ => rfl, fun q => absurd (Or.inr (Or.inr e3)) q⟩
      · rw [if_neg e3]
        refine ⟨fun q => ?_, fun _ => rfl⟩
        rcases q with q | q | q
        · exact absurd q e1
        · exact absurd q e2
        · exact absurd q e3
theorem ps_rS {lk rf : cr_S} (h : ps_L0 lk rf) (lat : Int64) (ln : Nat → Int64) (c : Int32) (n : Nat) (v a k : Int32) (hk : ¬ (3 : Int32) ≤ k) : lo_Ref_ring_14 rf lat ln c (n + 1) v a k = lo_Ref_ring_14 rf lat ln c n (if v = 0 then (if ps_nx lk a = c then 1 else 0) else 1) (ps_nx lk a) (k + 1) := by
  rw [lo_Ref_ring_14, if_neg hk, ← ps_nxR h a]
  by_cases e : rf 11 a.toNatClampNeg ≤ 0
  · rw [if_pos e, if_pos e]
    by_cases ev : v = 0
    · rw [if_pos ev, if_pos ev]
      by_cases ec : (0 : Int32) = c
      · rw [if_pos ec, if_pos ec]
      · rw [if_neg ec, if_neg ec]
    · rw [if_neg ev, if_neg ev]
  · rw [if_neg e, if_neg e]
    by_cases ev : v = 0
    · rw [if_pos ev, if_pos ev]
      by_cases ec : rf 9 (rf 11 a.toNatClampNeg).toNatClampNeg = c
      · rw [if_pos ec, if_pos ec]
      · rw [if_neg ec, if_neg ec]
    · rw [if_neg ev, if_neg ev]
theorem ps_ref14 {lk rf : cr_S} (h : ps_L0 lk rf) (lat : Int64) (ln : Nat → Int64) (c v : Int32) : (v ≠ 0 ∨ ps_ch lk c → lo_Ref_ring_14 rf lat ln c 4 v c 0 = 1) ∧ (v = 0 → ¬ ps_ch lk c → lo_Ref_ring_14 rf lat ln c 4 v c 0 = 0) := by
  unfold ps_ch
  rw [ps_rS h lat ln c 3 v c 0 (by decide), ps_rS h lat ln c 2 _ _ _ (by decide), ps_rS h lat ln c 1 _ _ _ (by decide)]
  rw [lo_Ref_ring_14, if_pos (by decide)]
  have k1 : ¬ (1 : Int32) = 0 := by decide
  by_cases ev : v = 0
  · by_cases e1 : ps_nx lk c = c
    · simp [ev, e1, k1]
    · by_cases e2 : ps_nx lk (ps_nx lk c) = c
      · simp [ev, e1, e2, k1]
      · by_cases e3 : ps_nx lk (ps_nx lk (ps_nx lk c)) = c
        · simp [ev, e1, e2, e3]
        · simp [ev, e1, e2, e3]
  · simp [ev, k1]
theorem ps_ring {lk rf : cr_S} (h : ps_L0 lk rf) (mn : cr_S) (lt : Int64) (pl bd tr tb : cr_S) (lat : Int64) (ln : Nat → Int64) : md_Main_ring mn lt pl bd lk tr tb = md_Ref_ring rf lat ln := by
  have a1 := ps_waits h (c := 1) (by decide)
  have a2 := ps_waits h (c := (1 : Int32) + 1) (by decide)
  have a3 := ps_waits h (c := (1 : Int32) + 1 + 1) (by decide)
  have b1 := fun v => ps_ref14 h lat ln 1 v
  have b2 := fun v => ps_ref14 h lat ln ((1 : Int32) + 1) v
  have b3 := fun v => ps_ref14 h lat ln ((1 : Int32) + 1 + 1) v
  have k1 : ¬ (1 : Int32) = 0 := by decide
  have E : ∀ (n : Nat) (v : Int32), ¬ (3 : Int32) < v → lo_Main_ring_2 mn lt pl bd lk tr tb (n + 1) v = if md_Locks_waitsForItself lk v = 0 then lo_Main_ring_2 mn lt pl bd lk tr tb n (v + 1) else 1 := fun n v hv => by rw [lo_Main_ring_2, if_neg hv]
  have F : ∀ (n : Nat) (w v : Int32), ¬ (4 : Int32) ≤ v → lo_Ref_ring_4 rf lat ln (n + 1) w v = lo_Ref_ring_4 rf lat ln n (lo_Ref_ring_14 rf lat ln v 4 w v 0) (v + 1) := fun n w v hv => by rw [lo_Ref_ring_4, if_neg hv]
  have E4 : lo_Main_ring_2 mn lt pl bd lk tr tb 1 (1 + 1 + 1 + 1) = 0 := by rw [lo_Main_ring_2, if_pos (by decide)]
  have F4 : ∀ w : Int32, lo_Ref_ring_4 rf lat ln 1 w (1 + 1 + 1 + 1) = w := fun w => by rw [lo_Ref_ring_4, if_pos (by decide)]
  unfold md_Main_ring md_Ref_ring
  rw [E 3 1 (by decide), E 2 _ (by decide), E 1 _ (by decide), E4, F 3 0 1 (by decide), F 2 _ _ (by decide), F 1 _ _ (by decide), F4]
  by_cases e1 : ps_ch lk 1
  · rw [a1.1 e1, if_neg k1, (b1 0).1 (Or.inr e1), (b2 1).1 (Or.inl k1), (b3 1).1 (Or.inl k1)]
  · rw [a1.2 e1, if_pos rfl, (b1 0).2 rfl e1]
    by_cases e2 : ps_ch lk ((1 : Int32) + 1)
    · rw [a2.1 e2, if_neg k1, (b2 0).1 (Or.inr e2), (b3 1).1 (Or.inl k1)]
    · rw [a2.2 e2, if_pos rfl, (b2 0).2 rfl e2]
      by_cases e3 : ps_ch lk ((1 : Int32) + 1 + 1)
      · rw [a3.1 e3, if_neg k1, (b3 0).1 (Or.inr e3)]
      · rw [a3.2 e3, if_pos rfl, (b3 0).2 rfl e3]
