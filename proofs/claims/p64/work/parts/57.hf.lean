/-! what the law's checks rest on -/
def szV (x : Int32) : Int32 := if 0 ≤ x then x else -x
theorem sz_ti {x : Int32} (h : -2147483647 ≤ x.toInt) : (szV x).toInt = (x.toInt.natAbs : Int) := nab_ti h
theorem sz_le {x N : Int32} {n : Int} (hN : N.toInt = n) (hn : n ≤ 1000000) (h : bt (-n) n x) : szV x ≤ N := by
  obtain ⟨h1, h2⟩ := h
  refine ti_le.mpr ?_
  rw [sz_ti (by omega)]
  omega
theorem lit_ti : (100 : Int32).toInt = 100 ∧ (10000 : Int32).toInt = 10000 ∧ (-100 : Int32).toInt = -100 := by decide
theorem cmd_b {c : xR} (hS : gS c) {k : Nat} (hk : k < 4) : bt (-150) 150 (cmd c k) := by
  obtain ⟨p1, p2⟩ := hS.1 k hk
  obtain ⟨e1, e2⟩ := hS.2.1 k hk
  have hsl : (if c.kh = 0 then k else 4 + k) < 8 := by split <;> omega
  obtain ⟨r1, r2⟩ := hS.2.2.1 _ hsl
  obtain ⟨t1, t2⟩ := hS.2.2.2 _ hsl
  obtain ⟨z1, z2, z3⟩ := lit_ti
  have key : bt (-150) 150 (((((((100 - (c.ke k)) * (c.kp k)) + ((c.ke k) * ((((c.kp k) * (c.kp k)) * (c.kp k)) / 10000))) / 100) * (c.kr (if c.kh = 0 then k else 4 + k))) / 100) + (c.kt (if c.kh = 0 then k else 4 + k))) := by
    generalize c.kp k = p at p1 p2
    generalize c.ke k = e at e1 e2
    generalize c.kr (if c.kh = 0 then k else 4 + k) = r at r1 r2
    generalize c.kt (if c.kh = 0 then k else 4 + k) = t at t1 t2
    have q1 := mb (A := 100) (B := 100) (by omega) p2 (by omega) p2 (a := p.toInt) (b := p.toInt)
    have f1 : (p * p).toInt = p.toInt * p.toInt := ti_mul (by omega) (by omega)
    have q2 := mb (A := 10000) (B := 100) (a := p.toInt * p.toInt) (b := p.toInt) (by omega) (by omega) (by omega) p2
    have f2 : (p * p * p).toInt = p.toInt * p.toInt * p.toInt := by rw [ti_mul (by rw [f1]; omega) (by rw [f1]; omega), f1]
    have f3 : (p * p * p / 10000).toInt = (p.toInt * p.toInt * p.toInt).tdiv 10000 := by rw [ti_div (by decide), f2, z2]
    have q3 := tdb (x := p.toInt * p.toInt * p.toInt) (m := 10000) (c := 100) (by omega) (by omega) (by omega)
    rw [← f3] at q3
    generalize p * p * p / 10000 = y at q3
    have q4 := mb (A := 100) (B := 100) (a := e.toInt) (b := y.toInt) (by omega) (by omega) (by omega) (by omega)
    have f4 : (e * y).toInt = e.toInt * y.toInt := ti_mul (by omega) (by omega)
    have f5 : (100 - e).toInt = 100 - e.toInt := by rw [ti_sub (by omega) (by omega), z1]
    have q5 := mb (A := 100) (B := 100) (a := 100 - e.toInt) (b := p.toInt) (by omega) (by omega) (by omega) (by omega)
    have f6 : ((100 - e) * p).toInt = (100 - e.toInt) * p.toInt := by rw [ti_mul (by rw [f5]; omega) (by rw [f5]; omega), f5]
    have q6 : -10000 ≤ (100 - e.toInt) * p.toInt + e.toInt * y.toInt ∧ (100 - e.toInt) * p.toInt + e.toInt * y.toInt ≤ 10000 := by
      have g1 := Int.mul_nonneg (show 0 ≤ 100 - e.toInt by omega) (show 0 ≤ 100 - p.toInt by omega)
      have g2 := Int.mul_nonneg (show 0 ≤ 100 - e.toInt by omega) (show 0 ≤ 100 + p.toInt by omega)
      have g3 := Int.mul_nonneg (show 0 ≤ e.toInt by omega) (show 0 ≤ 100 - y.toInt by omega)
      have g4 := Int.mul_nonneg (show 0 ≤ e.toInt by omega) (show 0 ≤ 100 + y.toInt by omega)
      simp only [Int.sub_mul, Int.mul_sub, Int.mul_add] at g1 g2 g3 g4 ⊢
      omega
    have f7 : ((100 - e) * p + e * y).toInt = (100 - e.toInt) * p.toInt + e.toInt * y.toInt := by rw [ti_add (by rw [f6, f4]; omega) (by rw [f6, f4]; omega), f6, f4]
    have f8 : (((100 - e) * p + e * y) / 100).toInt = ((100 - e.toInt) * p.toInt + e.toInt * y.toInt).tdiv 100 := by rw [ti_div (by decide), f7, z1]
    have q7 := tdb (x := (100 - e.toInt) * p.toInt + e.toInt * y.toInt) (m := 100) (c := 100) (by omega) (by omega) (by omega)
    rw [← f8] at q7
    generalize ((100 - e) * p + e * y) / 100 = u at q7
    have q8 := mb (A := 100) (B := 125) (a := u.toInt) (b := r.toInt) (by omega) (by omega) (by omega) (by omega)
    have f9 : (u * r).toInt = u.toInt * r.toInt := ti_mul (by omega) (by omega)
    have f10 : (u * r / 100).toInt = (u.toInt * r.toInt).tdiv 100 := by rw [ti_div (by decide), f9, z1]
    have q9 := tdb (x := u.toInt * r.toInt) (m := 100) (c := 125) (by omega) (by omega) (by omega)
    rw [← f10] at q9
    generalize u * r / 100 = w at q9
    unfold bt
    rw [ti_add (by omega) (by omega)]
    omega
  unfold cmd sp_X5_commandOf
  split
  · split
    · exact key
    · unfold bt
      rw [z3]
      omega
  · exact key
theorem cmd_cut {c : xR} (h : ¬ c.kc = 0) : cmd c 2 = -100 := by
  unfold cmd sp_X5_commandOf
  rw [if_pos (show nI 2 = 2 from rfl), if_neg h]
/-- the sum of the wears, as the law makes it -/
def wrN (c : xR) : Nat → Int32
  | 0 => 0
  | n + 1 => wrN c n + c.vw n
theorem Gd.wsb {c : xR} {B : Int} (h : Gd B c) (hB : B ≤ 1000) : 0 ≤ wS c.vw 6 ∧ wS c.vw 6 ≤ 100000000 := by
  obtain ⟨k1, k2, k3, k4, k5, k6, k7, k8, k9, k10⟩ := h.2.2.2.2.2
  obtain ⟨k2, k2'⟩ := k2
  have h0 := wS_nn (fun k hk => (h.2.2.2.2.1 k hk).2.2)
  omega
theorem wrN_ti {c : xR} {B : Int} (h : Gd B c) (hB : B ≤ 1000) : ∀ n, n ≤ 6 → (wrN c n).toInt = wS c.vw n ∧ 0 ≤ wS c.vw n ∧ wS c.vw n ≤ wS c.vw 6
  | 0, _ => ⟨rfl, Int.le_refl _, (h.wsb hB).1⟩
  | n + 1, hn => by
    obtain ⟨a1, a2, a3⟩ := wrN_ti h hB n (by omega)
    obtain ⟨s1, s2⟩ := h.wsb hB
    have hw := fun k hk => (h.2.2.2.2.1 k hk).2.2
    have h6 := wS_6 c.vw
    have y0 := hw 0 (by decide); have y1 := hw 1 (by decide); have y2 := hw 2 (by decide); have y3 := hw 3 (by decide); have y4 := hw 4 (by decide); have y5 := hw 5 (by decide)
    have e : (wS c.vw (n + 1)) = wS c.vw n + (c.vw n).toInt := rfl
    have hn0 : 0 ≤ (c.vw n).toInt := hw n (by omega)
    have hle : wS c.vw (n + 1) ≤ wS c.vw 6 := by
      rcases (show n = 0 ∨ n = 1 ∨ n = 2 ∨ n = 3 ∨ n = 4 ∨ n = 5 by omega) with rfl | rfl | rfl | rfl | rfl | rfl <;> (simp only [wS] at h6 ⊢; omega)
    refine ⟨?_, by omega, hle⟩
    show (wrN c n + c.vw n).toInt = _
    rw [ti_add (by omega) (by omega), e, a1]
/-- the battery's units are all accounted for -/
theorem acc_eq {c : xR} {B : Int} (h : Gd B c) (hB : B ≤ 1000) : c.jb + wrN c 6 + c.js - c.jx = 20000 + c.jc := by
  obtain ⟨a1, -, -⟩ := wrN_ti h hB 6 (Nat.le_refl _)
  obtain ⟨s1, s2⟩ := h.wsb hB
  obtain ⟨k1, k2, k3, k4, k5, k6, k7, k8, k9, k10⟩ := h.2.2.2.2.2
  obtain ⟨k2, k2'⟩ := k2
  have z : (20000 : Int32).toInt = 20000 := by decide
  have e1 : (c.jb + wrN c 6).toInt = c.jb.toInt + wS c.vw 6 := by rw [ti_add (by omega) (by omega), a1]
  have e2 : (c.jb + wrN c 6 + c.js).toInt = c.jb.toInt + wS c.vw 6 + c.js.toInt := by rw [ti_add (by omega) (by omega), e1]
  refine ti_eq.mpr ?_
  rw [ti_sub (by omega) (by omega), e2, ti_add (by omega) (by omega), z]
  omega
theorem mow_ok {c : xR} (hw : ∀ k, k < 6 → 0 ≤ (c.vw k).toInt) : ∀ n, n ≤ 6 → ((sp_mow c (-1) 0 n).1 = -1 ∧ (sp_mow c (-1) 0 n).2 = 0 ∧ ∀ k, k < n → (c.vw k).toInt = 0) ∨ (∃ i, i < n ∧ (sp_mow c (-1) 0 n).1 = nI i ∧ 0 < (sp_mow c (-1) 0 n).2.toInt ∧ ∃ k, k < n ∧ 0 < (c.vw k).toInt)
  | 0, _ => Or.inl ⟨rfl, rfl, fun k hk => absurd hk (Nat.not_lt_zero _)⟩
  | n + 1, hn => by
    have z0 : (0 : Int32).toInt = 0 := rfl
    have h0 := hw n (by omega)
    simp only [sp_mow]
    rcases mow_ok hw n (by omega) with ⟨a1, a2, a3⟩ | ⟨i, a1, a2, a3, k, a4, a5⟩
    · rw [a1, a2]
      by_cases q : c.vw n ≤ 0
      · simp only [if_pos q]
        have := ti_le.mp q
        refine Or.inl ⟨trivial, trivial, fun k hk => ?_⟩
        by_cases e : k = n
        · rw [e]; omega
        · exact a3 k (by omega)
      · simp only [if_neg q]
        have : ¬ (c.vw n).toInt ≤ (0 : Int32).toInt := fun y => q (ti_le.mpr y)
        exact Or.inr ⟨n, by omega, rfl, by omega, n, by omega, by omega⟩
    · by_cases q : c.vw n ≤ (sp_mow c (-1) 0 n).2
      · simp only [if_pos q]
        exact Or.inr ⟨i, by omega, a2, a3, k, by omega, a5⟩
      · simp only [if_neg q]
        have : ¬ (c.vw n).toInt ≤ (sp_mow c (-1) 0 n).2.toInt := fun y => q (ti_le.mpr y)
        exact Or.inr ⟨n, by omega, rfl, by omega, k, by omega, a5⟩
theorem mow_iff {c : xR} {B : Int} (h : Gd B c) (hB : B ≤ 1000) : (sp_mow c (-1) 0 6).1 = -1 ↔ wrN c 6 = 0 := by
  obtain ⟨a1, -, -⟩ := wrN_ti h hB 6 (Nat.le_refl _)
  have hw := fun k hk => (h.2.2.2.2.1 k hk).2.2
  have z0 : (0 : Int32).toInt = 0 := rfl
  rcases mow_ok hw 6 (Nat.le_refl _) with ⟨b1, -, b3⟩ | ⟨i, b1, b2, -, k, b4, b5⟩
  · refine ⟨fun _ => ti_eq.mpr ?_, fun _ => b1⟩
    rw [a1, wS_6, b3 0 (by decide), b3 1 (by decide), b3 2 (by decide), b3 3 (by decide), b3 4 (by decide), b3 5 (by decide)]
    rfl
  · refine ⟨fun q => ?_, fun q => ?_⟩
    · rw [b2] at q
      have hn := ti_n (n := i) (by omega)
      rw [q] at hn
      have : (-1 : Int32).toInt = -1 := by decide
      omega
    · rw [q] at a1
      have := wS_ge hw b4
      omega
theorem raw_n {c : xR} (hV : gV c) (hM : gM c) (hb : rB c) {k : Nat} (hk : k < 6) : (rawA c k).toInt = (c.vn k).toInt + (if c.vd k = 1 then (dmd c k).toInt else -(dmd c k).toInt) := by
  obtain ⟨d1, d2⟩ := dmd_b hM hb hk
  obtain ⟨v1, ⟨n1, n2⟩, -⟩ := hV k hk
  unfold rawA
  rcases v1 with v1 | v1
  · rw [v1, Int32.one_mul, if_pos rfl, ti_add (by omega) (by omega)]
  · have e : (-1 : Int32) * dmd c k = -(dmd c k) := (Int32.neg_eq_neg_one_mul _).symm
    have e2 : (-(dmd c k)).toInt = -(dmd c k).toInt := ti_neg (by omega)
    rw [v1, e, if_neg (by decide), ti_add (by omega) (by omega), e2]
theorem exc_add (a b : Int32) : a + (b - a) = b := by rw [Int32.add_comm, Int32.sub_add_cancel]
theorem raw_50 {c : xR} (hV : gV c) (hM : gM c) (hb : rB c) {k : Nat} (hk : k < 6) : ¬ szV (rawA c k - dmd c k) ≤ 50 → szV (rawA c k + dmd c k) ≤ 50 := by
  intro q
  obtain ⟨d1, d2⟩ := dmd_b hM hb hk
  obtain ⟨v1, ⟨n1, n2⟩, -⟩ := hV k hk
  have e := raw_n hV hM hb hk
  have z : (50 : Int32).toInt = 50 := by decide
  rcases v1 with v1 | v1
  · exfalso
    rw [v1, if_pos rfl] at e
    refine q (sz_le z (by decide) ?_)
    unfold bt
    rw [ti_sub (by omega) (by omega)]
    omega
  · rw [v1, if_neg (by decide)] at e
    refine sz_le z (by decide) ?_
    unfold bt
    rw [ti_add (by omega) (by omega)]
    omega
theorem rsn_iff (c : xR) (k : Nat) : rsn c k = 0 ↔ c.va k = aimA c k := by
  unfold rsn
  by_cases q : c.va k = aimA c k
  · rw [if_pos q]
    exact ⟨fun _ => q, fun _ => rfl⟩
  · rw [if_neg q]
    refine ⟨fun h => absurd h ?_, fun h => absurd h q⟩
    unfold sp_X1_reasonForLag
    repeat' split
    all_goals decide
theorem vlu_0 {c : xR} {j : Nat} (h : sp_X2_holds c.xc j c.kh = 0) : vlu c j = 0 := by
  unfold vlu vlr sp_X4_valueOf
  rw [if_pos h]
theorem src_lt {c : xR} (hM : gM c) (hb : rB c) {j : Nat} (hj : j < xN c) (h : 4 ≤ c.xs j) : c.xs j - 4 < c.xv j := by
  obtain ⟨⟨v1, v2⟩, v3⟩ := hM j hj
  obtain ⟨s1, s2⟩ := hb.1.2.2.2 j hj
  have g := xle_of (k := 4) (c := 4) rfl s1 (by decide) (Int32.toNatClampNeg_lt _) h
  rw [v1, s1, show (4 : Int32) = nI 4 from rfl, xnI_sub g]
  exact nI_lt (by omega) (by omega)
