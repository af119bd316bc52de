/-! the share of received frames lies from 0 to 1 -/
theorem fq_p : (FP.Core.b64.p : Int) = 53 := by decide
theorem fq_dec0 {t : Nat} (h : t < 4503599627370496) : FP.Core.decode FP.Core.b64 t = .fin false t (-1074) := by
  have h1 : FP.Core.fieldE FP.Core.b64 t = 0 := by
    unfold FP.Core.fieldE
    rw [na_t, na_e]
    omega
  have h2 : FP.Core.fieldT FP.Core.b64 t = t := by
    unfold FP.Core.fieldT
    rw [na_t]
    omega
  have h3 : FP.Core.fieldS FP.Core.b64 t = false := by
    unfold FP.Core.fieldS
    rw [na_t, na_e]
    have : t / 4503599627370496 / 2048 % 2 = 0 := by omega
    rw [this]
    rfl
  unfold FP.Core.decode
  rw [h1, h2, h3, na_e, if_neg (show ¬ 0 = 2048 - 1 by omega), if_pos rfl, na_q]
theorem fq_decN {e t : Nat} (h : t < 4503599627370496) (he : 1 ≤ e) (he2 : e ≤ 2046) : FP.Core.decode FP.Core.b64 (e * 4503599627370496 + t) = .fin false (4503599627370496 + t) (-1074 + ((e : Int) - 1)) := by
  have h1 : FP.Core.fieldE FP.Core.b64 (e * 4503599627370496 + t) = e := by
    unfold FP.Core.fieldE
    rw [na_t, na_e]
    omega
  have h2 : FP.Core.fieldT FP.Core.b64 (e * 4503599627370496 + t) = t := by
    unfold FP.Core.fieldT
    rw [na_t]
    omega
  have h3 : FP.Core.fieldS FP.Core.b64 (e * 4503599627370496 + t) = false := by
    unfold FP.Core.fieldS
    rw [na_t, na_e]
    have : (e * 4503599627370496 + t) / 4503599627370496 / 2048 % 2 = 0 := by omega
    rw [this]
    rfl
  unfold FP.Core.decode
  rw [h1, h2, h3, na_e, if_neg (show ¬ e = 2048 - 1 by omega), if_neg (show ¬ e = 0 by omega), na_q, na_t]
/-- out of a datum's bits, the datum again (of a small one the value alone) -/
theorem fq_rt {c : Nat} {q : Int} (hc : c < 9007199254740992) (h1 : -1074 ≤ q) (h2 : q ≤ 971) : FP.Core.decode FP.Core.b64 (UInt64.ofNat (FP.Core.encode FP.Core.b64 (.fin false c q))).toNat = if c < 4503599627370496 then .fin false c (-1074) else .fin false c q := by
  rw [UInt64.toNat_ofNat']
  simp only [FP.Core.encode, FP.Core.assemble, na_t, na_e, na_q]
  by_cases h : c < 4503599627370496
  · rw [if_pos h, if_pos h]
    have e : ((false.toNat * 2048 + 0) * 4503599627370496 + c) % 2 ^ 64 = c := by
      rw [show false.toNat = 0 from rfl]
      omega
    rw [e, fq_dec0 h]
  · rw [if_neg h, if_neg h]
    have e : ((false.toNat * 2048 + ((q - -1074).toNat + 1)) * 4503599627370496 + (c - 4503599627370496)) % 2 ^ 64 = ((q - -1074).toNat + 1) * 4503599627370496 + (c - 4503599627370496) := by
      rw [show false.toNat = 0 from rfl]
      omega
    rw [e, fq_decN (by omega) (by omega) (by omega)]
    rw [show 4503599627370496 + (c - 4503599627370496) = c by omega, show -1074 + ((((q - -1074).toNat + 1 : Nat) : Int) - 1) = q by omega]
theorem fq_near1 (n : Nat) : FP.Core.nearest n 1 = n := by
  unfold FP.Core.nearest
  rw [Nat.mod_one, if_pos (by decide), Nat.div_one]
theorem fq_int {n : Nat} (h0 : 0 < n) (h : n < 2147483648) : ∃ L : Nat, FP.Core.roundRatio FP.Core.b64 false n 1 0 = .fin false (n * 2 ^ (52 - L)) ((L : Int) - 52) ∧ L ≤ 31 ∧ 4503599627370496 ≤ n * 2 ^ (52 - L) ∧ n * 2 ^ (52 - L) < 9007199254740992 := by
  have hl : n.log2 < 31 := (Nat.log2_lt (by omega)).mpr (by omega)
  have hp1 : 2 ^ n.log2 ≤ n := Nat.log2_self_le (by omega)
  have hp2 : n < 2 ^ (n.log2 + 1) := Nat.lt_log2_self
  generalize hL : n.log2 = L at hl hp1 hp2
  have hlead : FP.Core.leading n 1 = (L : Int) := by
    unfold FP.Core.leading
    rw [hL, show Nat.log2 1 = 0 from by decide]
    simp only []
    rw [show ((L : Int) - ((0 : Nat) : Int)).toNat = L by omega, show (-((L : Int) - ((0 : Nat) : Int))).toNat = 0 by omega, if_pos (by omega)]
    omega
  have hq : FP.Core.quantum FP.Core.b64 n 1 0 = (L : Int) - 52 := by
    unfold FP.Core.quantum
    rw [na_q, fq_p, hlead]
    omega
  have e52 : 2 ^ L * 2 ^ (52 - L) = 4503599627370496 := by
    rw [← Nat.pow_add, show L + (52 - L) = 52 by omega]
  have g1 : 4503599627370496 ≤ n * 2 ^ (52 - L) := by
    rw [← e52]
    exact Nat.mul_le_mul_right _ hp1
  have g2 : n * 2 ^ (52 - L) < 9007199254740992 := by
    have h3 : n * 2 ^ (52 - L) < 2 ^ (L + 1) * 2 ^ (52 - L) := Nat.mul_lt_mul_of_pos_right hp2 (Nat.two_pow_pos _)
    rw [Nat.pow_succ] at h3
    have h4 : 2 ^ L * 2 * 2 ^ (52 - L) = 2 * (2 ^ L * 2 ^ (52 - L)) := by rw [Nat.mul_comm (2 ^ L) 2, Nat.mul_assoc]
    omega
  refine ⟨L, ?_, by omega, g1, g2⟩
  unfold FP.Core.roundRatio
  rw [if_neg (by omega), hq]
  unfold FP.Core.roundAt FP.Core.unitsNum FP.Core.unitsDen
  rw [show (0 - ((L : Int) - 52)).toNat = 52 - L by omega, show ((L : Int) - 52 - 0).toNat = 0 by omega, show 1 * 2 ^ 0 = 1 from rfl, fq_near1]
  unfold FP.Core.settle FP.Core.bound
  rw [na_p, na_x, if_pos g2, if_pos (by omega)]
theorem fq_i2d {a : Int32} {n : Nat} (ha : a.toInt = n) : FP.i2d a = UInt64.ofNat (FP.Core.encode FP.Core.b64 (FP.Core.roundRatio FP.Core.b64 false n 1 0)) := by
  show UInt64.ofNat (FP.Core.encode FP.Core.b64 (FP.Core.round FP.Core.b64 (FP.Core.ofInt a.toInt))) = _
  unfold FP.Core.ofInt
  rw [ha, show decide ((n : Int) < 0) = false from decide_eq_false (by omega), Int.natAbs_natCast]
  rfl
theorem fq_dec {a : Int32} {n : Nat} (ha : a.toInt = n) (h0 : 0 < n) : ∃ L : Nat, FP.Core.decode FP.Core.b64 (FP.i2d a).toNat = .fin false (n * 2 ^ (52 - L)) ((L : Int) - 52) ∧ L ≤ 31 ∧ 4503599627370496 ≤ n * 2 ^ (52 - L) ∧ n * 2 ^ (52 - L) < 9007199254740992 := by
  have hb := (ti_b a).2
  obtain ⟨L, e1, e2, e3, e4⟩ := fq_int h0 (n := n) (by omega)
  refine ⟨L, ?_, e2, e3, e4⟩
  rw [fq_i2d ha, e1, fq_rt e4 (by omega) (by omega), if_neg (by omega)]
theorem fq_zero {a : Int32} (ha : a.toInt = 0) : FP.Core.decode FP.Core.b64 (FP.i2d a).toNat = .fin false 0 (-1074) := by
  rw [fq_i2d (n := 0) ha]
  unfold FP.Core.roundRatio
  rw [if_pos rfl, na_q, fq_rt (by decide) (by decide) (by decide), if_pos (by decide)]
theorem fq_near {num den M : Nat} (hd : 0 < den) (h : num ≤ den * M) : FP.Core.nearest num den ≤ M := by
  have h1 : num / den ≤ M := by
    rw [Nat.div_le_iff_le_mul_add_pred hd]
    omega
  unfold FP.Core.nearest
  have h2 := Nat.div_add_mod num den
  rcases Nat.lt_or_ge (num / den) M with q | q
  · split
    · omega
    · split <;> omega
  · have e : num / den = M := by omega
    rw [e] at h2
    have e2 : num % den = 0 := by omega
    rw [e2, e, if_pos (by omega)]
    exact Nat.le_refl _
/-- a datum from 0 to 1 -/
def fq1 (x : FP.Core.Datum) : Prop := ∃ (c Q : Nat), x = .fin false c (-(Q : Int)) ∧ c ≤ 2 ^ Q
theorem fq_settle {N Q : Nat} (hN : N ≤ 2 ^ Q) (h1 : 52 ≤ Q) (h2 : Q ≤ 1000) : fq1 (FP.Core.decode FP.Core.b64 (UInt64.ofNat (FP.Core.encode FP.Core.b64 (FP.Core.settle FP.Core.b64 false N (-(Q : Int))))).toNat) := by
  have big : 4503599627370496 ≤ 2 ^ 1074 := by decide +kernel
  unfold FP.Core.settle FP.Core.bound
  rw [na_p, na_x, na_t]
  by_cases h : N < 9007199254740992
  · rw [if_pos h, if_pos (by omega), fq_rt h (by omega) (by omega)]
    by_cases g : N < 4503599627370496
    · rw [if_pos g]
      exact ⟨N, 1074, rfl, by omega⟩
    · rw [if_neg g]
      exact ⟨N, Q, rfl, hN⟩
  · rw [if_neg h, if_pos (by omega), fq_rt (by decide) (by omega) (by omega), if_neg (by decide)]
    refine ⟨4503599627370496, Q - 1, ?_, ?_⟩
    · rw [show -(Q : Int) + 1 = -((Q - 1 : Nat) : Int) by
        have : 53 ≤ Q := by
          rcases Nat.lt_or_ge Q 53 with y | y
          · exfalso
            have : Q = 52 := by omega
            rw [this] at hN
            omega
          · exact y
        omega]
    · have h53 : 53 ≤ Q := by
        rcases Nat.lt_or_ge Q 53 with y | y
        · exfalso
          have : Q = 52 := by omega
          rw [this] at hN
          omega
        · exact y
      exact Nat.le_trans (show 4503599627370496 ≤ 2 ^ 52 from by decide) (Nat.pow_le_pow_right (by decide) (by omega))
theorem fq_q {a b : Int32} {m n : Nat} (ha : a.toInt = m) (hb : b.toInt = n) (h0 : 0 < n) (hmn : m ≤ n) : fq1 (FP.Core.decode FP.Core.b64 (FP.ddiv (FP.i2d a) (FP.i2d b)).toNat) := by
  obtain ⟨B, d2, l2, u1, u2⟩ := fq_dec hb h0
  have hD : FP.ddiv (FP.i2d a) (FP.i2d b) = UInt64.ofNat (FP.Core.encode FP.Core.b64 (FP.Core.quotient FP.Core.b64 (FP.Core.decode FP.Core.b64 (FP.i2d a).toNat) (FP.Core.decode FP.Core.b64 (FP.i2d b).toNat))) := rfl
  rw [hD, d2]
  rcases Nat.eq_zero_or_pos m with z | hm
  · have ha0 : a.toInt = 0 := by omega
    rw [fq_zero ha0]
    unfold FP.Core.quotient
    simp only []
    rw [if_neg (by omega)]
    unfold FP.Core.roundRatio
    rw [if_pos rfl, na_q, show (false != false) = false from rfl, fq_rt (by decide) (by decide) (by decide), if_pos (by decide)]
    exact ⟨0, 1074, rfl, Nat.zero_le _⟩
  · obtain ⟨A, d1, l1, v1, v2⟩ := fq_dec ha hm
    rw [d1]
    unfold FP.Core.quotient
    simp only []
    rw [if_neg (by omega), show (false != false) = false from rfl]
    -- the exponents are in order
    have hAB : A ≤ B := by
      rcases Nat.lt_or_ge B A with y | y
      · exfalso
        have p1 : 2 ^ (52 - B) = 2 * 2 ^ (52 - A) * 2 ^ (A - B - 1) := by
          rw [← Nat.pow_succ', ← Nat.pow_add]
          congr 1
          omega
        have p2 : 1 ≤ 2 ^ (A - B - 1) := Nat.two_pow_pos _
        have p3 : n * 2 ^ (52 - B) ≥ n * (2 * 2 ^ (52 - A)) := by
          rw [p1, Nat.mul_assoc]
          exact Nat.mul_le_mul_left n (Nat.le_trans (Nat.le_of_eq (Nat.mul_one _).symm) (by rw [← Nat.mul_assoc]; exact Nat.mul_le_mul_left _ p2))
        have p4 : m * 2 ^ (52 - A) ≤ n * 2 ^ (52 - A) := Nat.mul_le_mul_right _ hmn
        have p5 : n * (2 * 2 ^ (52 - A)) = 2 * (n * 2 ^ (52 - A)) := by rw [← Nat.mul_assoc, Nat.mul_comm n 2, Nat.mul_assoc]
        omega
      · exact y
    have hle : m * 2 ^ (52 - A) ≤ n * 2 ^ (52 - B) * 2 ^ (B - A) := by
      rw [Nat.mul_assoc, ← Nat.pow_add, show 52 - B + (B - A) = 52 - A by omega]
      exact Nat.mul_le_mul_right _ hmn
    generalize m * 2 ^ (52 - A) = x at v1 v2 hle
    generalize n * 2 ^ (52 - B) = y at u1 u2 hle
    have lx : x.log2 = 52 := by
      have g1 : x.log2 < 53 := (Nat.log2_lt (by omega)).mpr (by omega)
      have g2 : 52 ≤ x.log2 := (Nat.le_log2 (by omega)).mpr (by omega)
      omega
    have ly : y.log2 = 52 := by
      have g1 : y.log2 < 53 := (Nat.log2_lt (by omega)).mpr (by omega)
      have g2 : 52 ≤ y.log2 := (Nat.le_log2 (by omega)).mpr (by omega)
      omega
    obtain ⟨D, hD1, hD2⟩ : ∃ D : Nat, FP.Core.leading x y = -(D : Int) ∧ D ≤ 1 := by
      unfold FP.Core.leading
      rw [lx, ly]
      simp only []
      split
      · exact ⟨0, rfl, by omega⟩
      · exact ⟨1, rfl, by omega⟩
    have hq : FP.Core.quantum FP.Core.b64 x y ((A : Int) - 52 - ((B : Int) - 52)) = -((D + (B - A) + 52 : Nat) : Int) := by
      unfold FP.Core.quantum
      rw [na_q, fq_p, hD1]
      omega
    unfold FP.Core.roundRatio
    rw [if_neg (by omega), hq]
    unfold FP.Core.roundAt FP.Core.unitsNum FP.Core.unitsDen
    rw [show ((A : Int) - 52 - ((B : Int) - 52) - -((D + (B - A) + 52 : Nat) : Int)).toNat = D + 52 by omega, show (-((D + (B - A) + 52 : Nat) : Int) - ((A : Int) - 52 - ((B : Int) - 52))).toNat = 0 by omega, show y * 2 ^ 0 = y from Nat.mul_one y]
    refine fq_settle (fq_near (by omega) ?_) (by omega) (by omega)
    have e : y * 2 ^ (D + (B - A) + 52) = y * 2 ^ (B - A) * 2 ^ (D + 52) := by
      rw [Nat.mul_assoc, ← Nat.pow_add]
      congr 2
      omega
    rw [e]
    exact Nat.mul_le_mul_right _ hle
theorem fq_ge {x : UInt64} (h : fq1 (FP.Core.decode FP.Core.b64 x.toNat)) : ¬ Op.cmpValue (FP.dcmp x FP.dconst0) .l < 0 := by
  obtain ⟨c, Q, e, -⟩ := h
  have hd : FP.Core.decode FP.Core.b64 (FP.dconst0).toNat = .fin false 0 (-1074) := by decide +kernel
  have hc : FP.dcmp x FP.dconst0 = FP.Core.order (FP.Core.decode FP.Core.b64 x.toNat) (FP.Core.decode FP.Core.b64 (FP.dconst0).toNat) := rfl
  rw [hc, e, hd]
  unfold FP.Core.order FP.Core.signed FP.Core.inUnits
  simp only [Nat.zero_mul, Bool.false_eq_true, if_false]
  generalize c * 2 ^ _ = k
  rcases Nat.eq_zero_or_pos k with z | z
  · rw [z, show compare (((0 : Nat)) : Int) ((0 : Nat) : Int) = .eq from rfl]
    decide
  · rw [show compare (k : Int) ((0 : Nat) : Int) = .gt from Int.compare_eq_gt.mpr (by omega)]
    decide
theorem fq_le {x : UInt64} (h : fq1 (FP.Core.decode FP.Core.b64 x.toNat)) : ¬ 0 < Op.cmpValue (FP.dcmp x FP.dconst1) .g := by
  obtain ⟨c, Q, e, hQ⟩ := h
  have hd : FP.Core.decode FP.Core.b64 (FP.dconst1).toNat = .fin false 4503599627370496 (-52) := by decide +kernel
  have hc : FP.dcmp x FP.dconst1 = FP.Core.order (FP.Core.decode FP.Core.b64 x.toNat) (FP.Core.decode FP.Core.b64 (FP.dconst1).toNat) := rfl
  rw [hc, e, hd]
  unfold FP.Core.order FP.Core.signed FP.Core.inUnits
  simp only [Bool.false_eq_true, if_false]
  have hle : c * 2 ^ (-(Q : Int) - min (-(Q : Int)) (-52)).toNat ≤ 4503599627370496 * 2 ^ (-52 - min (-(Q : Int)) (-52)).toNat := by
    rcases Nat.le_total Q 52 with y | y
    · rw [show (-(Q : Int) - min (-(Q : Int)) (-52)).toNat = 52 - Q by omega, show (-52 - min (-(Q : Int)) (-52)).toNat = 0 by omega]
      refine Nat.le_trans (Nat.mul_le_mul_right _ hQ) ?_
      rw [← Nat.pow_add, show Q + (52 - Q) = 52 by omega]
      decide
    · rw [show (-(Q : Int) - min (-(Q : Int)) (-52)).toNat = 0 by omega, show (-52 - min (-(Q : Int)) (-52)).toNat = Q - 52 by omega, Nat.pow_zero, Nat.mul_one]
      refine Nat.le_trans hQ ?_
      rw [show (4503599627370496 : Nat) = 2 ^ 52 from by decide, ← Nat.pow_add, show 52 + (Q - 52) = Q by omega]
      exact Nat.le_refl _
  generalize c * 2 ^ _ = k at hle
  generalize 4503599627370496 * 2 ^ _ = j at hle
  rcases Nat.lt_or_ge k j with z | z
  · rw [show compare (k : Int) (j : Int) = .lt from Int.compare_eq_lt.mpr (by omega)]
    decide
  · rw [show compare (k : Int) (j : Int) = .eq from Int.compare_eq_eq.mpr (by omega)]
    decide
theorem lqV_1 {js jl : Int32} (h1 : 0 ≤ jl.toInt) (h2 : jl.toInt ≤ js.toInt) : fq1 (FP.Core.decode FP.Core.b64 (lqV js jl).toNat) := by
  have hb := (ti_b js).2
  have z0 : (0 : Int32).toInt = 0 := rfl
  unfold lqV
  by_cases q : js = 0
  · rw [if_pos q]
    have hd : FP.Core.decode FP.Core.b64 (FP.dconst1).toNat = .fin false 4503599627370496 (-52) := by decide +kernel
    rw [hd]
    exact ⟨_, 52, rfl, by decide⟩
  · rw [if_neg q]
    have hn : ¬ js.toInt = 0 := fun y => q (ti_eq.mpr (by omega))
    have e : (js - jl).toInt = js.toInt - jl.toInt := ti_sub (by omega) (by omega)
    exact fq_q (m := (js.toInt - jl.toInt).toNat) (n := js.toInt.toNat) (by omega) (by omega) (by omega) (by omega)
