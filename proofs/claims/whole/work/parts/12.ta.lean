/-! the trial: phases, and the whole -/
theorem ps_sh (x a : Int64) (b : UInt64) (s : Nat) (hs : s ≤ 60) (ha : (a.toBitVec.smod 64#64).toNat = s) (hb : (b.toBitVec % 64#64).toNat = s) : (x >>> a) &&& (7 : Int64) = (x.toUInt64 >>> b).toInt64 &&& (7 : Int64) := by
  apply Int64.toBitVec_inj.mp
  show (x >>> a).toBitVec &&& 7#64 = (x.toUInt64 >>> b).toBitVec &&& 7#64
  have l : (x >>> a).toBitVec = x.toBitVec.sshiftRight s := by
    rw [← ha]
    exact Int64.toBitVec_shiftRight x a
  have r : (x.toUInt64 >>> b).toBitVec = x.toBitVec >>> s := by
    rw [← hb]
    exact UInt64.toBitVec_shiftRight x.toUInt64 b
  rw [l, r]
  apply BitVec.eq_of_getLsbD_eq
  intro i hi
  rw [BitVec.getLsbD_and, BitVec.getLsbD_and]
  by_cases w : i < 3
  · have e : (x.toBitVec.sshiftRight s).getLsbD i = (x.toBitVec >>> s).getLsbD i := by
      rw [BitVec.getLsbD_sshiftRight, BitVec.getLsbD_ushiftRight]
      have h1 : ¬ 64 ≤ i := by omega
      have h2 : s + i < 64 := by omega
      simp [h1, h2]
    rw [e]
  · have e : (7#64).getLsbD i = false := by
      have : ∀ i, i < 64 → ¬ i < 3 → (7#64).getLsbD i = false := by decide
      exact this i hi w
    rw [e, Bool.and_false, Bool.and_false]
theorem ps_phE (x1 : Int64) (q : Nat) (h1 : 1 ≤ q) (h2 : q ≤ 10) : (x1 >>> (((3 : Int32) * (nI q - (1 : Int32))).toInt64 &&& 63)) &&& (7 : Int64) = ps_ph x1 q := by
  unfold ps_ph
  have A : ∀ q, q < 11 → 1 ≤ q → (((((3 : Int32) * (nI q - (1 : Int32))).toInt64 &&& 63)).toBitVec.smod 64#64).toNat = 3 * (q - 1) := by decide +kernel
  have B : ∀ q, q < 11 → 1 ≤ q → ((((3 : Int32) * (nI q - (1 : Int32))).toInt64.toUInt64 &&& Int64.toUInt64 63).toBitVec % 64#64).toNat = 3 * (q - 1) := by decide +kernel
  exact ps_sh x1 _ _ (3 * (q - 1)) (by omega) (A q (by omega) h1) (B q (by omega) h1)
theorem ps_and7 (x : Int64) : 0 ≤ (x &&& (7 : Int64)).toInt ∧ (x &&& (7 : Int64)).toInt ≤ 7 := by
  have h : (x &&& (7 : Int64)).toBitVec.toNat ≤ 7 := by
    show (x.toBitVec &&& 7#64).toNat ≤ 7
    rw [BitVec.toNat_and]
    exact Nat.and_le_right
  have e : (x &&& (7 : Int64)).toInt = (x &&& (7 : Int64)).toBitVec.toNat := by
    show (x &&& (7 : Int64)).toBitVec.toInt = _
    rw [BitVec.toInt_eq_toNat_of_lt]
    omega
  rw [e]
  omega
theorem ps_phr (x1 : Int64) (q : Nat) : 0 ≤ (ps_ph x1 q).toInt ∧ (ps_ph x1 q).toInt ≤ 7 := ps_and7 _
theorem ps_TZ_of {pl rf tr tb : cr_S} {T R : Nat} (hT : T ≤ 10) (hR : R ≤ 8) (h : ps_TQ pl rf tr tb T R) : ps_TZ tb := by
  refine ⟨h.2.2.2.2.2.2.2.1, fun j hj => ?_, fun j hj => ?_, fun j _ => h.2.2.2.2.2.2.1 j⟩
  · rcases h.1.1 j with q | q
    · exact q
    · omega
  · rcases h.1.2.2.2.1 j with q | ⟨t, q1, q2, q3, q4, q5, q6, q7⟩
    · exact q
    · omega
theorem ps_plain0 {pl tr tb rf : cr_S} {ln : Nat → Int64} {T R : Nat} (hP : ps_Pl pl rf ln T R) (hz : ps_TZ tb) (hh : cr_rh rf 16 (-1) 8) (lat x1 : Int64) : ∃ a rf' tr' tb', md_Trial_mostDelays pl tr tb x1 = (a, tr', tb') ∧ md_Ref_plain rf lat ln x1 = (a, rf') ∧ ps_TZ tb' ∧ cr_rh rf' 16 (-1) 8 ∧ ps_TF rf rf' := by
  obtain ⟨a1, a2, a3, a4, -⟩ := hP.1
  obtain ⟨tr0, tb0, k1, k2, k3, k4, k5, k6, k7, k8, k9, k10⟩ := ps_clear (tr := tr) a1 a3 hz
  obtain ⟨rf1, m1, m2, m3⟩ := ps_r17L lat ln x1 1090 0 rf (by omega) (by omega) (fun i hi => absurd hi (by omega))
  obtain ⟨rf0, n1, n2, n3, n4⟩ := ps_r24L lat ln x1 a1 11 1 rf1 (by rw [m2 0 (by decide)]; exact a4) (by omega) (by omega) (by omega) (fun q q1 q2 => absurd q2 (by omega)) (ps_rh_F hh (m2 16 (by decide)))
  have tf : ps_TF rf rf0 := fun c c1 c2 c3 c4 c5 => (n2 c c1 c3 c4).trans (m2 c c5)
  have hP0 := ps_Pl_TF hP tf
  have Q := ps_TQ0 hP0 k2 k3 k4 k5 k6 k8 k9 k10 (fun i hi => by rw [n2 17 (by decide) (by decide) (by decide)]; exact m3 i hi) n3 n4
  obtain ⟨a, rf', tr', tb', i1, i2, i3, i4⟩ := ps_main lat x1 (fun q q1 q2 => ps_phE x1 q q1 q2) (fun q _ _ => ps_phr x1 q) 339 0 rf0 tr0 tb0 0 hP0 Q (fun q q1 q2 => ⟨fun w => absurd w (by omega), fun _ => by
    rw [(n3 q q1 q2).1]
    have := ps_phr x1 q
    exact ⟨fun _ => this.1, fun _ => rfl⟩⟩) k7 (by decide) (by decide) (by omega) (by omega) (by
    have := ps_sum_nn Q.2.2.1 T (Nat.le_refl _)
    omega)
  refine ⟨a, rf', tr', tb', ?_, ?_, ps_TZ_of a1 a2 i3, i3.2.2.2.2.2.2.2.2, ps_TF_t tf i4⟩
  · unfold md_Trial_mostDelays
    rw [k1]
    exact i1
  · unfold md_Ref_plain
    exact (m1.trans n1).trans i2
theorem ps_plain (N : Nat) (mn : cr_S) (lt : Int64) (pl bd lk tr tb rf : cr_S) (lat : Int64) (ln : Nat → Int64) (y0 : Int64) (hN : N < 512) (h : ps_Sim N mn lt pl bd lk tr tb rf lat ln) : (md_Main_plain mn lt pl bd lk tr tb y0).1 = (md_Ref_plain rf lat ln y0).1 ∧ ps_Sim (N + 1) mn lt pl bd lk (md_Main_plain mn lt pl bd lk tr tb y0).2.1 (md_Main_plain mn lt pl bd lk tr tb y0).2.2 (md_Ref_plain rf lat ln y0).2 lat ln := by
  obtain ⟨T, R, hP, hW, hL, hm, hl, h0, hb, hh⟩ := h
  obtain ⟨a, rf', tr', tb', e1, e2, e3, e4, e5⟩ := ps_plain0 (tr := tr) hP hb hh lat y0
  unfold md_Main_plain
  rw [e1, e2]
  have f := fun k h1 h2 h3 h4 h5 => e5 k h1 h2 h3 h4 h5
  have S : ps_Sim (N + 1) mn lt pl bd lk tr' tb' rf' lat ln := by
    refine ⟨T, R, ps_Pl_TF hP e5, ps_W_cells (ps_W_mono hW) (f 3 (by decide) (by decide) (by decide) (by decide) (by decide)) (f 4 (by decide) (by decide) (by decide) (by decide) (by decide)) (by rw [f 0 (by decide) (by decide) (by decide) (by decide) (by decide)]) (f 7 (by decide) (by decide) (by decide) (by decide) (by decide)) (f 8 (by decide) (by decide) (by decide) (by decide) (by decide)), ps_L_F (ps_L_mono hL) (f 9 (by decide) (by decide) (by decide) (by decide) (by decide)) (f 10 (by decide) (by decide) (by decide) (by decide) (by decide)) (f 11 (by decide) (by decide) (by decide) (by decide) (by decide)) (f 12 (by decide) (by decide) (by decide) (by decide) (by decide)) (by rw [f 0 (by decide) (by decide) (by decide) (by decide) (by decide)]), ?_, hl, h0, e3, e4⟩
    rw [f 5 (by decide) (by decide) (by decide) (by decide) (by decide)]
    exact hm
  exact ⟨rfl, S⟩
