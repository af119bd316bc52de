theorem na_t : FP.Core.b64.tails = 4503599627370496 := by decide
theorem na_e : FP.Core.b64.exps = 2048 := by decide
theorem na_q : FP.Core.b64.qmin = -1074 := by decide
theorem na_x : FP.Core.b64.qmax = 971 := by decide
theorem na_p : 2 ^ FP.Core.b64.p = 9007199254740992 := by decide
theorem na_enc (s : Bool) {c : Nat} {q : Int} (hc : c < 9007199254740992) (hq : q ≤ 971) : ∃ e t, FP.Core.encode FP.Core.b64 (.fin s c q) = (s.toNat * 2048 + e) * 4503599627370496 + t ∧ e ≤ 2046 ∧ t < 4503599627370496 ∧ (¬ c = 0 → ¬ (e = 0 ∧ t = 0)) := by
  simp only [FP.Core.encode, FP.Core.assemble, na_t, na_e, na_q]
  by_cases h : c < 4503599627370496
  · rw [if_pos h]
    exact ⟨0, c, rfl, by omega, h, fun h0 => by omega⟩
  · rw [if_neg h]
    exact ⟨_, _, rfl, by omega, by omega, fun _ => by omega⟩
theorem na_dec {n S e t : Nat} (h : n = (S * 2048 + e) * 4503599627370496 + t) (he : e ≤ 2046) (ht : t < 4503599627370496) : ∃ s c q, FP.Core.decode FP.Core.b64 n = .fin s c q ∧ (¬ (e = 0 ∧ t = 0) → ¬ c = 0) := by
  have h1 : FP.Core.fieldE FP.Core.b64 n = e := by
    unfold FP.Core.fieldE
    rw [na_t, na_e]
    omega
  have h2 : FP.Core.fieldT FP.Core.b64 n = t := by
    unfold FP.Core.fieldT
    rw [na_t]
    omega
  unfold FP.Core.decode
  rw [h1, h2, na_e, na_t, if_neg (show ¬ e = 2048 - 1 by omega)]
  by_cases c : e = 0
  · rw [if_pos c]
    exact ⟨_, _, _, rfl, fun h3 h4 => h3 ⟨c, h4⟩⟩
  · rw [if_neg c]
    exact ⟨_, _, _, rfl, fun _ => by omega⟩
theorem na_st (s : Bool) (c : Nat) (q : Int) : (∃ c' q', FP.Core.settle FP.Core.b64 s c q = .fin s c' q' ∧ c' < 9007199254740992 ∧ q' ≤ 971 ∧ (¬ c = 0 → ¬ c' = 0)) ∨ (FP.Core.settle FP.Core.b64 s c q = .inf s ∧ 970 < q) := by
  unfold FP.Core.settle FP.Core.bound
  rw [na_p, na_x, na_t]
  by_cases h1 : c < 9007199254740992
  · rw [if_pos h1]
    by_cases h2 : q ≤ 971
    · rw [if_pos h2]
      exact Or.inl ⟨_, _, rfl, h1, h2, id⟩
    · rw [if_neg h2]
      exact Or.inr ⟨rfl, by omega⟩
  · rw [if_neg h1]
    by_cases h2 : q + 1 ≤ 971
    · rw [if_pos h2]
      exact Or.inl ⟨_, _, rfl, by decide, h2, fun _ => by decide⟩
    · rw [if_neg h2]
      exact Or.inr ⟨rfl, by omega⟩
theorem na_rr (s : Bool) (c d : Nat) (e : Int) : (∃ c' q', FP.Core.roundRatio FP.Core.b64 s c d e = .fin s c' q' ∧ c' < 9007199254740992 ∧ q' ≤ 971) ∨ FP.Core.roundRatio FP.Core.b64 s c d e = .inf s := by
  unfold FP.Core.roundRatio
  by_cases h : c = 0
  · rw [if_pos h, na_q]
    exact Or.inl ⟨_, _, rfl, by decide, by decide⟩
  · rw [if_neg h]
    unfold FP.Core.roundAt
    rcases na_st s (FP.Core.nearest (FP.Core.unitsNum c e (FP.Core.quantum FP.Core.b64 c d e)) (FP.Core.unitsDen d e (FP.Core.quantum FP.Core.b64 c d e))) (FP.Core.quantum FP.Core.b64 c d e) with ⟨c', q', a1, a2, a3, -⟩ | ⟨a1, -⟩
    · exact Or.inl ⟨c', q', a1, a2, a3⟩
    · exact Or.inr a1
theorem na_qu {c : Nat} (h0 : ¬ c = 0) (h : c < 4294967296) : FP.Core.quantum FP.Core.b64 c 1 0 ≤ 0 := by
  have hl : c.log2 < 32 := (Nat.log2_lt h0).mpr (by omega)
  have h1 : Nat.log2 1 = 0 := by decide
  have hL : FP.Core.leading c 1 ≤ 32 := by
    unfold FP.Core.leading
    rw [h1]
    simp only []
    split <;> omega
  have hp : (FP.Core.b64.p : Int) = 53 := by decide
  unfold FP.Core.quantum
  rw [na_q, hp]
  omega
theorem na_ro {a : Int32} : ∃ s c q, FP.Core.round FP.Core.b64 (FP.Core.ofInt a.toInt) = .fin s c q ∧ c < 9007199254740992 ∧ q ≤ 971 ∧ (¬ a = 0 → ¬ c = 0) := by
  have hl := Int32.le_toInt a
  have hu := Int32.toInt_lt a
  have hn : a.toInt.natAbs < 4294967296 := by omega
  have hz : ¬ a = 0 → ¬ a.toInt.natAbs = 0 := fun h q => h (Int32.toInt_inj.mp (by rw [show (0 : Int32).toInt = 0 from by decide]; omega))
  show ∃ s c q, FP.Core.roundRatio FP.Core.b64 (decide (a.toInt < 0)) a.toInt.natAbs 1 0 = .fin s c q ∧ c < 9007199254740992 ∧ q ≤ 971 ∧ (¬ a = 0 → ¬ c = 0)
  generalize a.toInt.natAbs = c at hn hz
  generalize decide (a.toInt < 0) = s
  unfold FP.Core.roundRatio
  by_cases h : c = 0
  · rw [if_pos h, na_q]
    exact ⟨_, _, _, rfl, by decide, by decide, fun h2 => absurd h (hz h2)⟩
  · rw [if_neg h]
    have hq := na_qu h hn
    unfold FP.Core.roundAt
    generalize FP.Core.quantum FP.Core.b64 c 1 0 = q at hq
    have hd : FP.Core.unitsDen 1 0 q = 1 := by
      unfold FP.Core.unitsDen
      rw [show (q - 0).toNat = 0 by omega]
    have hN : ¬ FP.Core.unitsNum c 0 q = 0 := by
      unfold FP.Core.unitsNum
      exact Nat.mul_ne_zero h (Nat.ne_of_gt (Nat.two_pow_pos _))
    have hne : ¬ FP.Core.nearest (FP.Core.unitsNum c 0 q) (FP.Core.unitsDen 1 0 q) = 0 := by
      rw [hd]
      unfold FP.Core.nearest
      rw [Nat.mod_one, if_pos (by decide), Nat.div_one]
      exact hN
    rcases na_st s (FP.Core.nearest (FP.Core.unitsNum c 0 q) (FP.Core.unitsDen 1 0 q)) q with ⟨c', q', a1, a2, a3, a4⟩ | ⟨-, a2⟩
    · exact ⟨s, c', q', a1, a2, a3, fun _ => a4 hne⟩
    · omega
theorem na_i (a : Int32) : ∃ s c q, FP.Core.decode FP.Core.b64 (FP.i2d a).toNat = .fin s c q ∧ (¬ a = 0 → ¬ c = 0) := by
  obtain ⟨s, c, q, e1, h1, h2, h3⟩ := na_ro (a := a)
  obtain ⟨e, t, e2, h4, h5, h6⟩ := na_enc s h1 h2
  have hs : s.toNat ≤ 1 := Bool.toNat_le s
  have e3 : (FP.i2d a).toNat = (s.toNat * 2048 + e) * 4503599627370496 + t := by
    show (UInt64.ofNat (FP.Core.encode FP.Core.b64 (FP.Core.round FP.Core.b64 (FP.Core.ofInt a.toInt)))).toNat = _
    rw [e1, e2, UInt64.toNat_ofNat']
    omega
  obtain ⟨s', c', q', d1, d2⟩ := na_dec e3 h4 h5
  exact ⟨s', c', q', d1, fun h => d2 (h6 (h3 h))⟩
/-- a quotient of two whole numbers is a number -/
theorem na_div (a : Int32) {b : Int32} (hb : ¬ b = 0) : vf_n64 (FP.ddiv (FP.i2d a) (FP.i2d b)) := by
  obtain ⟨s, c, q, d1, -⟩ := na_i a
  obtain ⟨s2, c2, q2, d2, h2⟩ := na_i b
  have hD : FP.ddiv (FP.i2d a) (FP.i2d b) = UInt64.ofNat (FP.Core.encode FP.Core.b64 (FP.Core.roundRatio FP.Core.b64 (s != s2) c c2 (q - q2))) := by
    show UInt64.ofNat (FP.Core.encode FP.Core.b64 (FP.Core.quotient FP.Core.b64 (FP.Core.decode FP.Core.b64 (FP.i2d a).toNat) (FP.Core.decode FP.Core.b64 (FP.i2d b).toNat))) = _
    rw [d1, d2]
    simp only [FP.Core.quotient]
    rw [if_neg (h2 hb)]
  have hm : ∃ n, FP.Core.encode FP.Core.b64 (FP.Core.roundRatio FP.Core.b64 (s != s2) c c2 (q - q2)) = n ∧ n % 9223372036854775808 ≤ 9218868437227405312 := by
    rcases na_rr (s != s2) c c2 (q - q2) with ⟨c', q', a1, a2, a3⟩ | a1
    · obtain ⟨e, t, e2, h4, h5, -⟩ := na_enc (s != s2) a2 a3
      rw [a1, e2]
      exact ⟨_, rfl, by omega⟩
    · rw [a1]
      simp only [FP.Core.encode, FP.Core.assemble, na_t, na_e]
      exact ⟨_, rfl, by omega⟩
  obtain ⟨n, e1, e2⟩ := hm
  unfold vf_n64
  rw [hD, e1, UInt64.le_iff_toNat_le, UInt64.toNat_and, show (0x7fffffffffffffff : UInt64).toNat = 2 ^ 63 - 1 from rfl, Nat.and_two_pow_sub_one_eq_mod, UInt64.toNat_ofNat', show (0x7ff0000000000000 : UInt64).toNat = 9218868437227405312 from rfl]
  omega
