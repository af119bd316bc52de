/-! received frames -/
theorem rcv {c : xR} {x : xF} (hd : 1 ≤ c.jd.toInt) (hb : 0 < x.jb.toInt) : jiR 1 x = 0 ∧ jfR c 1 x = 0 ∧ ∀ k, k < 6 → t2R c (dmd c) 1 x k = aimA c k := by
  have z0 : (0 : Int32).toInt = 0 := rfl
  have e1 : sp_trc x.jb 1 = 1 := by
    unfold sp_trc
    rw [if_neg (show ¬ (1 : Int32) = 0 from by decide), if_neg (fun y => by have := ti_le.mp y; omega)]
  have e2 : jiR 1 x = 0 := by
    unfold jiR sp_X1_countFrame_ji
    rw [e1]
    exact if_neg (by decide)
  have e3 : jfR c 1 x = 0 := by
    unfold jfR sp_X1_updateFailsafe_jf
    rw [e2]
    exact if_pos (ti_lt.mpr (by omega))
  refine ⟨e2, e3, fun k hk => ?_⟩
  unfold t2R sp_tr2
  unfold jfR jiR at e3
  rw [if_pos e3]
  unfold sp_tr1
  rw [e1, if_neg (show ¬ (1 : Int32) = 0 from by decide), tga_at, if_pos hk]
  rfl
def dst (c : xR) (k : Nat) (va : Nat → Int32) : Int := (((aimA c k).toInt - (va k).toInt).natAbs : Int)
theorem aim_b {c : xR} (hV : gV c) {k : Nat} (hk : k < 6) : bt (-150) 150 (aimA c k) := lim_b (hV k hk).2.2.1 (hV k hk).2.2.2.1
theorem rcv_all {c : xR} {B : Int} (h : Gd B c) (hB : B ≤ 1000) {m : Nat} (hm : m ≤ 1000) (hb : 1801 * (m : Int) ≤ c.jb.toInt) : ∀ n, n ≤ m → 1801 * ((m : Int) - n) ≤ (fr c 1 n).jb.toInt ∧ ∀ k, k < 6 → dst c k (fr c 1 n).va = max (dst c k c.va - (n : Int) * (c.vs k).toInt) 0 ∧ ((fr c 1 n).vw k).toInt = (c.vw k).toInt + (dst c k c.va - dst c k (fr c 1 n).va)
  | 0, _ => by
    refine ⟨?_, fun k hk => ⟨?_, ?_⟩⟩
    · show 1801 * ((m : Int) - ((0 : Nat) : Int)) ≤ c.jb.toInt
      omega
    · show dst c k c.va = max (dst c k c.va - ((0 : Nat) : Int) * (c.vs k).toInt) 0
      rw [show ((0 : Nat) : Int) * (c.vs k).toInt = 0 from Int.zero_mul _]
      unfold dst
      omega
    · show (c.vw k).toInt = (c.vw k).toInt + (dst c k c.va - dst c k c.va)
      omega
  | n + 1, hn => by
    obtain ⟨ih1, ih2⟩ := rcv_all h hB hm hb n (by omega)
    have H := FI.all h hB 1 n (by omega)
    have A := avR_ok h hB (dmd c) 1 H
    rw [fr_s]
    generalize fr c 1 n = x at ih1 ih2 H A
    have hV := h.2.2.2.1
    obtain ⟨r1, r2, r3⟩ := rcv (c := c) (x := x) h.2.2.2.2.2.1 (by omega)
    have t3 := tr3_ti H.2.2.2.1
    obtain ⟨⟨a1, a2, a3⟩, a4, a5, -, -, a6⟩ := A
    obtain ⟨f1, f2⟩ := a6 r2 (by omega)
    refine ⟨?_, fun k hk => ?_⟩
    · rw [stp_jb]
      omega
    · obtain ⟨g1, g2⟩ := f2 k hk
      obtain ⟨j1, j2⟩ := ih2 k hk
      rw [r3 k hk] at g1 g2
      obtain ⟨s1, s2⟩ := (hV k hk).2.2.2.2.1
      have em : ((n + 1 : Nat) : Int) * (c.vs k).toInt = (n : Int) * (c.vs k).toInt + (c.vs k).toInt := by
        rw [show ((n + 1 : Nat) : Int) = (n : Int) + 1 from rfl, Int.add_mul, Int.one_mul]
      rw [stp_va, stp_vw, em]
      generalize (n : Int) * (c.vs k).toInt = p at j1 j2
      unfold dst at j1 j2 ⊢
      omega
/-- how many frames are told ahead -/
def fta (c : xR) (k : Nat) : Int32 := ((((if 0 ≤ aimA c k - c.va k then aimA c k - c.va k else 0 - (aimA c k - c.va k)) + (if 1 < c.vs k then c.vs k else 1)) - 1) / (if 1 < c.vs k then c.vs k else 1))
theorem fta_ok {c : xR} (hV : gV c) (hW : gW c.vt c.va c.vw) {k : Nat} (hk : k < 6) : ∃ q : Nat, q ≤ 300 ∧ fta c k = nI q ∧ dst c k c.va ≤ (q : Int) * (c.vs k).toInt ∧ (0 < q → 0 < dst c k c.va ∧ ((q : Int) - 1) * (c.vs k).toInt < dst c k c.va) := by
  obtain ⟨a1, a2⟩ := aim_b hV hk
  obtain ⟨b1, b2⟩ := (hW k hk).2.1
  obtain ⟨s1, s2⟩ := (hV k hk).2.2.2.2.1
  have z1 : (1 : Int32).toInt = 1 := rfl
  have e1 : (aimA c k - c.va k).toInt = (aimA c k).toInt - (c.va k).toInt := ti_sub (by omega) (by omega)
  have e2 := ab_ti (x := aimA c k - c.va k) (by omega)
  have es : (if 1 < c.vs k then c.vs k else 1).toInt = (c.vs k).toInt := by
    by_cases q : 1 < c.vs k
    · rw [if_pos q]
    · rw [if_neg q]
      have : ¬ (1 : Int32).toInt < (c.vs k).toInt := fun y => q (ti_lt.mpr y)
      omega
  have hne : (if 1 < c.vs k then c.vs k else 1) ≠ -1 := fun y => by
    rw [y] at es
    have : (-1 : Int32).toInt = -1 := rfl
    omega
  have ed : dst c k c.va = (((aimA c k).toInt - (c.va k).toInt).natAbs : Int) := rfl
  rw [e1] at e2
  have ex : (((if 0 ≤ aimA c k - c.va k then aimA c k - c.va k else 0 - (aimA c k - c.va k)) + (if 1 < c.vs k then c.vs k else 1)) - 1).toInt = dst c k c.va + (c.vs k).toInt - 1 := by
    rw [ti_sub (by rw [ti_add (by omega) (by omega)]; omega) (by rw [ti_add (by omega) (by omega)]; omega), ti_add (by omega) (by omega)]
    omega
  have ef : (fta c k).toInt = (dst c k c.va + (c.vs k).toInt - 1) / (c.vs k).toInt := by
    unfold fta
    rw [ti_div hne, ex, es, Int.tdiv_eq_ediv_of_nonneg (by omega)]
  have g1 := Int.ediv_mul_le (dst c k c.va + (c.vs k).toInt - 1) (b := (c.vs k).toInt) (by omega)
  have g2 := Int.lt_ediv_add_one_mul_self (dst c k c.va + (c.vs k).toInt - 1) (b := (c.vs k).toInt) (by omega)
  have g3 : 0 ≤ (dst c k c.va + (c.vs k).toInt - 1) / (c.vs k).toInt := Int.ediv_nonneg (by omega) (by omega)
  have g4 : (dst c k c.va + (c.vs k).toInt - 1) / (c.vs k).toInt ≤ dst c k c.va + (c.vs k).toInt - 1 := Int.ediv_le_self _ (by omega)
  have g5 : (dst c k c.va + (c.vs k).toInt - 1) / (c.vs k).toInt < 301 := Int.ediv_lt_of_lt_mul (by omega) (by omega)
  rw [← ef] at g1 g2 g3 g4 g5
  refine ⟨(fta c k).toNatClampNeg, ?_, ti_nc g3, ?_, fun h0 => ?_⟩
  · have := ti_cl g3
    omega
  · rw [ti_cl g3]
    rw [Int.add_mul, Int.one_mul] at g2
    omega
  · have hc := ti_cl g3
    rw [hc]
    rw [Int.sub_mul, Int.one_mul]
    refine ⟨?_, by omega⟩
    rcases Int.lt_or_le 0 (dst c k c.va) with y | y
    · exact y
    · exfalso
      have hd0 : dst c k c.va = 0 := by omega
      rw [hd0] at ef
      have : (0 + (c.vs k).toInt - 1) / (c.vs k).toInt = 0 := Int.ediv_eq_zero_of_lt (by omega) (by omega)
      omega
/-- the frames that are told ahead bring the servo to its aim, one fewer does not -/
theorem fta_go {c : xR} {B : Int} (h : Gd B c) (hB : B ≤ 1000) {k q : Nat} (hk : k < 6) (hq : fta c k = nI q) (hq0 : 0 < q) (hq50 : q ≤ 50) (hb : 1801 * (q : Int) ≤ c.jb.toInt) : (fr c 1 q).va k = aimA c k ∧ 0 < (fr c 1 q).mv.toInt ∧ (1 < q → ¬ (fr c 1 (q - 1)).va k = aimA c k) := by
  obtain ⟨q', h1, h2, h3, h4⟩ := fta_ok h.2.2.2.1 h.2.2.2.2.1 hk
  have e : q = q' := (nI_eq (by omega) (by omega)).mp (hq.symm.trans h2)
  subst e
  obtain ⟨h5, h6⟩ := h4 hq0
  obtain ⟨-, r1⟩ := rcv_all h hB (m := q) (by omega) hb q (Nat.le_refl _)
  obtain ⟨r2, r3⟩ := r1 k hk
  have H := FI.all h hB 1 q (by omega)
  have hd0 : dst c k (fr c 1 q).va = 0 := by omega
  refine ⟨ti_eq.mpr ?_, ?_, fun h1q he => ?_⟩
  · unfold dst at hd0
    omega
  · obtain ⟨m1, m2⟩ := H.2.2.2.2.2.2
    have hm : wS c.vw 6 + (((fr c 1 q).vw k).toInt - (c.vw k).toInt) ≤ wS (fr c 1 q).vw 6 := by
      rw [wS_6, wS_6]
      have y0 := m2 0 (by decide); have y1 := m2 1 (by decide); have y2 := m2 2 (by decide); have y3 := m2 3 (by decide); have y4 := m2 4 (by decide); have y5 := m2 5 (by decide)
      rcases (show k = 0 ∨ k = 1 ∨ k = 2 ∨ k = 3 ∨ k = 4 ∨ k = 5 by omega) with rfl | rfl | rfl | rfl | rfl | rfl <;> omega
    omega
  · obtain ⟨-, r4⟩ := rcv_all h hB (m := q) (by omega) hb (q - 1) (by omega)
    obtain ⟨r5, -⟩ := r4 k hk
    rw [show ((q - 1 : Nat) : Int) = (q : Int) - 1 by omega] at r5
    have hz : dst c k (fr c 1 (q - 1)).va = 0 := by
      unfold dst
      rw [he]
      omega
    omega
/-- the first received frame -/
theorem rcv_1 {c : xR} {B : Int} (h : Gd B c) (hb : 0 < c.jb.toInt) : (frC c 1 1).ji = 0 ∧ (frC c 1 1).jf = 0 ∧ ∀ k, k < 6 → (frC c 1 1).vt k = aimA c k := by
  obtain ⟨r1, r2, r3⟩ := rcv (c := c) (x := fr c 1 0) h.2.2.2.2.2.1 hb
  exact ⟨r1, r2, r3⟩
theorem aim_fr (c : xR) (z : Int32) (n k : Nat) : aimA (frC c z n) k = aimA c k := rfl
