/-! every call keeps what has to be kept -/
theorem up_bt {P : Int32 → Prop} {f : Nat → Int32} {k : Nat} {v : Int32} {n : Nat} (h : ∀ j, j < n → P (f j)) (hv : P v) : ∀ j, j < n → P (upd f k v j) := fun j hj => by
  rw [up_at]
  split
  · exact hv
  · exact h j hj
theorem Gd.rn {B : Int} {c : xR} (h : Gd B c) : rnP c := h.1
theorem g_kp {B : Int} {c : xR} (h : Gd B c) {k : Nat} (hk : k < 4) {v : Int32} (hv : bt (-100) 100 v) : Gd B (c.set_kp (upd c.kp k v)) := by
  obtain ⟨⟨hb, ⟨⟨n1, n2⟩, n3⟩⟩, ⟨s1, s2⟩, hM, hR⟩ := h
  exact ⟨⟨hb, ⟨⟨nz_up n1 hk, n2⟩, n3⟩⟩, ⟨up_bt s1 hv, s2⟩, hM, hR⟩
theorem g_ke {B : Int} {c : xR} (h : Gd B c) {k : Nat} (hk : k < 4) {v : Int32} (hv : bt 0 100 v) : Gd B (c.set_ke (upd c.ke k v)) := by
  obtain ⟨⟨hb, ⟨⟨n1, n2, n2'⟩, n3⟩⟩, ⟨s1, s2, s3⟩, hM, hR⟩ := h
  exact ⟨⟨hb, ⟨⟨n1, nz_up n2 hk, n2'⟩, n3⟩⟩, ⟨s1, up_bt s2 hv, s3⟩, hM, hR⟩
theorem g_kr {B : Int} {c : xR} (h : Gd B c) {k : Nat} (hk : k < 8) {v : Int32} (hv : bt 0 125 v) : Gd B (c.set_kr (upd c.kr k v)) := by
  obtain ⟨⟨hb, ⟨⟨n1, n2, n2', n2''⟩, n3⟩⟩, ⟨s1, s2, s3, s4⟩, hM, hR⟩ := h
  exact ⟨⟨hb, ⟨⟨n1, n2, nz_up n2' hk, n2''⟩, n3⟩⟩, ⟨s1, s2, up_bt s3 hv, s4⟩, hM, hR⟩
theorem g_kt {B : Int} {c : xR} (h : Gd B c) {k : Nat} (hk : k < 8) {v : Int32} (hv : bt (-25) 25 v) : Gd B (c.set_kt (upd c.kt k v)) := by
  obtain ⟨⟨hb, ⟨⟨n1, n2, n2', n2''⟩, n3⟩⟩, ⟨s1, s2, s3, s4⟩, hM, hR⟩ := h
  exact ⟨⟨hb, ⟨⟨n1, n2, n2', nz_up n2'' hk⟩, n3⟩⟩, ⟨s1, s2, s3, up_bt s4 hv⟩, hM, hR⟩
theorem g_kh {B : Int} {c : xR} (h : Gd B c) {z : Int32} (hz : z = 0 ∨ z = 1) : Gd B (c.set_kh z) := by
  obtain ⟨⟨⟨⟨b1, b2⟩, b3⟩, hn⟩, hR⟩ := h
  exact ⟨⟨⟨⟨hz, b2⟩, b3⟩, hn⟩, hR⟩
theorem g_kc {B : Int} {c : xR} (h : Gd B c) {z : Int32} (hz : z = 0 ∨ z = 1) : Gd B (c.set_kc z) := by
  obtain ⟨⟨⟨b1, b2, b3⟩, hn⟩, hR⟩ := h
  exact ⟨⟨⟨b1, hz, b3⟩, hn⟩, hR⟩
theorem g_vd {B : Int} {c : xR} (h : Gd B c) {k : Nat} (hk : k < 6) : Gd B (c.set_vd (upd c.vd k (-(c.vd k)))) := by
  obtain ⟨⟨hb, ⟨n1, n2, ⟨n3, n4⟩, n5⟩⟩, hS, hM, hV, hR⟩ := h
  refine ⟨⟨hb, ⟨n1, n2, ⟨nz_up n3 hk, n4⟩, n5⟩⟩, hS, hM, fun j hj => ?_, hR⟩
  obtain ⟨v1, v2⟩ := hV j hj
  refine ⟨?_, v2⟩
  show upd c.vd k (-(c.vd k)) j = 1 ∨ upd c.vd k (-(c.vd k)) j = -1
  rw [up_at]
  split
  · rcases (hV k hk).1 with e | e
    · exact Or.inr (by rw [e])
    · exact Or.inl (by rw [e]; rfl)
  · exact v1
theorem g_vn {B : Int} {c : xR} (h : Gd B c) {k : Nat} (hk : k < 6) {v : Int32} (hv : bt (-50) 50 v) : Gd B (c.set_vn (upd c.vn k v)) := by
  obtain ⟨⟨hb, ⟨n1, n2, ⟨n3, n4, n4'⟩, n5⟩⟩, hS, hM, hV, hR⟩ := h
  refine ⟨⟨hb, ⟨n1, n2, ⟨n3, nz_up n4 hk, n4'⟩, n5⟩⟩, hS, hM, fun j hj => ?_, hR⟩
  obtain ⟨v1, v2, v3⟩ := hV j hj
  exact ⟨v1, up_bt (fun i hi => (hV i hi).2.1) hv j hj, v3⟩
theorem g_lim {B : Int} {c : xR} (h : Gd B c) {k : Nat} (hk : k < 6) {v u : Int32} (hv : bt (-150) 0 v) (hu : bt 0 150 u) : Gd B (limC c k v u) := by
  obtain ⟨⟨hb, ⟨n1, n2, ⟨n3, n4, n4', n4'', n6⟩, n5⟩⟩, hS, hM, hV, hR⟩ := h
  refine ⟨⟨hb, ⟨n1, n2, ⟨n3, n4, nz_up n4' hk, nz_up n4'' hk, n6⟩, n5⟩⟩, hS, hM, fun j hj => ?_, hR⟩
  obtain ⟨v1, v2, v3, v4, v5⟩ := hV j hj
  exact ⟨v1, v2, up_bt (fun i hi => (hV i hi).2.2.1) hv j hj, up_bt (fun i hi => (hV i hi).2.2.2.1) hu j hj, v5⟩
theorem g_vs {B : Int} {c : xR} (h : Gd B c) {k : Nat} (hk : k < 6) {v : Int32} (hv : bt 1 300 v) : Gd B (c.set_vs (upd c.vs k v)) := by
  obtain ⟨⟨hb, ⟨n1, n2, ⟨n3, n4, n4', n4'', n6⟩, n5⟩⟩, hS, hM, hV, hR⟩ := h
  refine ⟨⟨hb, ⟨n1, n2, ⟨n3, n4, n4', n4'', nz_up n6 hk⟩, n5⟩⟩, hS, hM, fun j hj => ?_, hR⟩
  obtain ⟨v1, v2, v3, v4, v5, v6⟩ := hV j hj
  exact ⟨v1, v2, v3, v4, up_bt (fun i hi => (hV i hi).2.2.2.2.1) hv j hj, v6⟩
theorem g_fls {B : Int} {c : xR} (h : Gd B c) {k : Nat} (hk : k < 6) {v u : Int32} (hv : bt 0 2 v) : Gd B (flsC c k v u) := by
  obtain ⟨⟨hb, ⟨n1, n2, n3, ⟨n5, n6, n7⟩⟩⟩, hS, hM, hV, hR⟩ := h
  refine ⟨⟨hb, ⟨n1, n2, n3, ⟨nz_up n5 hk, nz_up n6 hk, n7⟩⟩⟩, hS, hM, fun j hj => ?_, hR⟩
  obtain ⟨v1, v2, v3, v4, v5, v6⟩ := hV j hj
  exact ⟨v1, v2, v3, v4, v5, up_bt (P := fun x => 0 ≤ x.toInt) (fun i hi => (hV i hi).2.2.2.2.2) hv.1 j hj⟩
theorem g_jd {B : Int} {c : xR} (h : Gd B c) {v : Int32} (hv : bt 1 50 v) : Gd B (c.set_jd v) := by
  obtain ⟨h1, hS, hM, hV, hW, ⟨k1, k2⟩⟩ := h
  exact ⟨h1, hS, hM, hV, hW, ⟨hv.1, k2⟩⟩
theorem g_chg {B : Int} {c : xR} (h : Gd B c) (hB : B ≤ 1000) : Gd (B + 1) (chgC c) := by
  obtain ⟨h1, hS, hM, hV, hW, ⟨k1, k2, k3, k4, k5, k6, k7, k8, k9, k10⟩⟩ := h
  obtain ⟨k2, k2'⟩ := k2
  have z : (20000 : Int32).toInt = 20000 := by decide
  have e1 : (20000 - c.jb).toInt = 20000 - c.jb.toInt := by rw [ti_sub (by omega) (by omega), z]
  have e2 : (c.jc + (20000 - c.jb)).toInt = c.jc.toInt + (20000 - c.jb.toInt) := by rw [ti_add (by omega) (by omega), e1]
  refine ⟨h1, hS, hM, hV, hW, ⟨k1, ⟨?_, ?_⟩, ⟨?_, ?_⟩, k4, k5, k6, ?_, k8, k9, ?_⟩⟩
  · show 0 ≤ (20000 : Int32).toInt
    omega
  · show (20000 : Int32).toInt ≤ 20000
    omega
  · show 0 ≤ (c.jc + (20000 - c.jb)).toInt
    omega
  · show (c.jc + (20000 - c.jb)).toInt ≤ 20000 * (B + 1)
    omega
  · show c.js.toInt ≤ 200 * (B + 1)
    omega
  · show (20000 : Int32).toInt + wS c.vw 6 + c.js.toInt - c.jx.toInt = 20000 + (c.jc + (20000 - c.jb)).toInt
    omega
/-! mixes added, taken out -/
theorem xn_ne {c : xR} (hb : rB c) : c.xn = nI (xN c) := hb.1.2.1
theorem xn_12 {c : xR} (hb : rB c) : xN c ≤ 12 := hb.1.2.2.1
theorem ad_xn {c : xR} (hb : rB c) : c.xn + 1 = nI (xN c + 1) ∧ (c.xn + 1).toNatClampNeg = xN c + 1 := by
  have h := xn_12 hb
  have e : c.xn + 1 = nI (xN c + 1) := by
    conv => lhs; rw [xn_ne hb]
    exact nI_1 _
  exact ⟨e, by rw [e]; exact nI_clamp (by omega)⟩
theorem g_ad {B : Int} {c : xR} (h : Gd B c) {a k : Nat} (hk : k < 6) (ha : a < 4 + k) (hx : xN c < 12) (u o e : Int32) : Gd B (adC c a k u o e) := by
  obtain ⟨⟨hb, ⟨n1, ⟨n2, n3, n4, n5, n6⟩, n7⟩⟩, hS, hM, hR⟩ := h
  obtain ⟨e1, e2⟩ := ad_xn hb
  have en : xN (adC c a k u o e) = xN c + 1 := e2
  have ca : (nI a).toNatClampNeg = a := nI_clamp (by omega)
  have ck : (nI k).toNatClampNeg = k := nI_clamp (by omega)
  refine ⟨⟨⟨⟨hb.1.1, ?_, ?_, fun j hj => ?_⟩, hb.2⟩, ⟨n1, ⟨nz_up n2 hx, nz_up n3 hx, nz_up n4 hx, nz_up n5 hx, nz_up n6 hx⟩, n7⟩⟩, hS, fun j hj => ?_, hR⟩
  · show c.xn + 1 = nI (c.xn + 1).toNatClampNeg
    rw [e2, e1]
  · show (c.xn + 1).toNatClampNeg ≤ 12
    omega
  · show upd c.xs (xN c) (nI a) j = nI (upd c.xs (xN c) (nI a) j).toNatClampNeg ∧ (upd c.xs (xN c) (nI a) j).toNatClampNeg < 10
    have hj2 : j < xN c + 1 := by rw [← en]; exact hj
    rw [up_at]
    by_cases q : j = xN c
    · rw [if_pos q, ca]
      exact ⟨rfl, by omega⟩
    · rw [if_neg q]
      exact hb.1.2.2.2 j (show j < xN c by omega)
  · show (upd c.xv (xN c) (nI k) j = nI (upd c.xv (xN c) (nI k) j).toNatClampNeg ∧ (upd c.xv (xN c) (nI k) j).toNatClampNeg < 6) ∧ (upd c.xs (xN c) (nI a) j).toNatClampNeg < 4 + (upd c.xv (xN c) (nI k) j).toNatClampNeg
    have hj2 : j < xN c + 1 := by rw [← en]; exact hj
    rw [up_at, up_at]
    by_cases q : j = xN c
    · rw [if_pos q, if_pos q, ca, ck]
      exact ⟨⟨rfl, hk⟩, ha⟩
    · rw [if_neg q, if_neg q]
      exact hM j (show j < xN c by omega)
def drI (k : Nat) (a : Nat → Int32) (n j : Nat) : Int32 := if k ≤ j ∧ j < k + n then a (j + 1) else a j
theorem dr_up {k n : Nat} {a g : Nat → Int32} (h : ∀ j, g j = drI k a n j) : ∀ j, upd g (k + n) (g (k + n + 1)) j = drI k a (n + 1) j := fun j => by
  rw [up_at]
  unfold drI at h ⊢
  by_cases q : j = k + n
  · rw [if_pos q, h, if_neg (by omega), if_pos (by omega), q]
  · rw [if_neg q, h]
    by_cases r : k ≤ j ∧ j < k + n
    · rw [if_pos r, if_pos ⟨r.1, by omega⟩]
    · rw [if_neg r, if_neg (fun y => r ⟨y.1, by omega⟩)]
theorem dra_at (k : Nat) (a0 a1 a2 a3 a4 : Nat → Int32) : ∀ n, (∀ j, (sp_dra k a0 a1 a2 a3 a4 n).1 j = drI k a0 n j) ∧ (∀ j, (sp_dra k a0 a1 a2 a3 a4 n).2.1 j = drI k a1 n j) ∧ (∀ j, (sp_dra k a0 a1 a2 a3 a4 n).2.2.1 j = drI k a2 n j) ∧ (∀ j, (sp_dra k a0 a1 a2 a3 a4 n).2.2.2.1 j = drI k a3 n j) ∧ (∀ j, (sp_dra k a0 a1 a2 a3 a4 n).2.2.2.2 j = drI k a4 n j)
  | 0 => by
    have e : ∀ (a : Nat → Int32) (j : Nat), drI k a 0 j = a j := fun a j => if_neg (by omega)
    exact ⟨fun j => (e _ j).symm, fun j => (e _ j).symm, fun j => (e _ j).symm, fun j => (e _ j).symm, fun j => (e _ j).symm⟩
  | n + 1 => by
    obtain ⟨h0, h1, h2, h3, h4⟩ := dra_at k a0 a1 a2 a3 a4 n
    simp only [sp_dra]
    exact ⟨dr_up h0, dr_up h1, dr_up h2, dr_up h3, dr_up h4⟩
theorem dr_nz {k n : Nat} {a g : Nat → Int32} (ha : nz 12 a) (h : ∀ j, g j = drI k a n j) (hkn : k + n ≤ 12) : nz 12 g := fun j hj => by
  rw [h]
  unfold drI
  rw [if_neg (by omega)]
  exact ha j hj
theorem rm_xn {c : xR} (hb : rB c) (hx : 0 < xN c) : c.xn - 1 = nI (xN c - 1) ∧ (c.xn - 1).toNatClampNeg = xN c - 1 := by
  have h := xn_12 hb
  have e : c.xn - 1 = nI (xN c - 1) := by
    conv => lhs; rw [xn_ne hb]
    exact pk_sub1 hx
  exact ⟨e, by rw [e]; exact nI_clamp (by omega)⟩
theorem g_rm {B : Int} {c : xR} (h : Gd B c) {j : Nat} (hj : j < xN c) : Gd B (rmC c j) := by
  obtain ⟨⟨hb, ⟨n1, ⟨n2, n3, n4, n5, n6⟩, n7⟩⟩, hS, hM, hR⟩ := h
  have h12 := xn_12 hb
  obtain ⟨e1, e2⟩ := rm_xn hb (by omega)
  obtain ⟨d0, d1, d2, d3, d4⟩ := dra_at j c.xs c.xv c.xh c.xo c.xc ((xN c - 1) - j)
  have en : xN (rmC c j) = xN c - 1 := e2
  have pick : ∀ i, i < xN c - 1 → ∃ i', i' < xN c ∧ (rmC c j).xs i = c.xs i' ∧ (rmC c j).xv i = c.xv i' := fun i hi => by
    have p0 : (rmC c j).xs i = drI j c.xs ((xN c - 1) - j) i := d0 i
    have p1 : (rmC c j).xv i = drI j c.xv ((xN c - 1) - j) i := d1 i
    rw [p0, p1]
    unfold drI
    by_cases q : j ≤ i ∧ i < j + ((xN c - 1) - j)
    · rw [if_pos q, if_pos q]
      exact ⟨i + 1, by omega, rfl, rfl⟩
    · rw [if_neg q, if_neg q]
      exact ⟨i, by omega, rfl, rfl⟩
  refine ⟨⟨⟨⟨hb.1.1, ?_, ?_, fun i hi => ?_⟩, hb.2⟩, ⟨n1, ⟨dr_nz n2 d0 (by omega), dr_nz n3 d1 (by omega), dr_nz n4 d2 (by omega), dr_nz n5 d3 (by omega), dr_nz n6 d4 (by omega)⟩, n7⟩⟩, hS, fun i hi => ?_, hR⟩
  · show c.xn - 1 = nI (c.xn - 1).toNatClampNeg
    rw [e2, e1]
  · show (c.xn - 1).toNatClampNeg ≤ 12
    omega
  · obtain ⟨i', hi', p0, p1⟩ := pick i (by rw [← en]; exact hi)
    rw [p0]
    exact hb.1.2.2.2 i' hi'
  · obtain ⟨i', hi', p0, p1⟩ := pick i (by rw [← en]; exact hi)
    rw [p0, p1]
    exact hM i' hi'
abbrev xD6 : Type := (Nat → Int32) × (Nat → Int32) × (Nat → Int32) × (Nat → Int32) × (Nat → Int32) × Int32
def dlI (v : Int32) (a0 a1 : Nat → Int32) (i : Nat) (x : xD6) : Prop :=
  (∃ m, x.2.2.2.2.2 = nI m ∧ m ≤ i ∧ (a1 0 = v → 0 < i → m < i) ∧ ∀ j, j < m → ∃ i', i' < i ∧ x.1 j = a0 i' ∧ x.2.1 j = a1 i') ∧ (∀ j, i ≤ j → x.1 j = a0 j ∧ x.2.1 j = a1 j) ∧ (nz 12 x.1 ∧ nz 12 x.2.1 ∧ nz 12 x.2.2.1 ∧ nz 12 x.2.2.2.1 ∧ nz 12 x.2.2.2.2.1)
theorem dal_s (v : Int32) (a0 a1 a2 a3 a4 : Nat → Int32) (i : Nat) (x : xD6) (hx : sp_dal v a0 a1 a2 a3 a4 0 i = x) : sp_dal v a0 a1 a2 a3 a4 0 (i + 1) = if x.2.1 i = v then x else (upd x.1 x.2.2.2.2.2.toNatClampNeg (x.1 i), upd x.2.1 x.2.2.2.2.2.toNatClampNeg (x.2.1 i), upd x.2.2.1 x.2.2.2.2.2.toNatClampNeg (x.2.2.1 i), upd x.2.2.2.1 x.2.2.2.2.2.toNatClampNeg (x.2.2.2.1 i), upd x.2.2.2.2.1 x.2.2.2.2.2.toNatClampNeg (x.2.2.2.2.1 i), x.2.2.2.2.2 + 1) := by
  simp only [sp_dal]
  rw [hx]
  by_cases q : x.2.1 i = v
  · simp only [if_pos q]
  · simp only [if_neg q]
theorem dal_ok (v : Int32) {a0 a1 a2 a3 a4 : Nat → Int32} (n0 : nz 12 a0) (n1 : nz 12 a1) (n2 : nz 12 a2) (n3 : nz 12 a3) (n4 : nz 12 a4) : ∀ i, i ≤ 12 → dlI v a0 a1 i (sp_dal v a0 a1 a2 a3 a4 0 i)
  | 0, _ => ⟨⟨0, rfl, Nat.le_refl _, fun _ h => h, fun j hj => absurd hj (Nat.not_lt_zero _)⟩, fun j _ => ⟨rfl, rfl⟩, n0, n1, n2, n3, n4⟩
  | i + 1, hi => by
    have ih := dal_ok v n0 n1 n2 n3 n4 i (by omega)
    rw [dal_s v a0 a1 a2 a3 a4 i _ rfl]
    generalize sp_dal v a0 a1 a2 a3 a4 0 i = x at ih
    obtain ⟨⟨m, e1, e2, e3, e4⟩, e5, z0, z1, z2, z3, z4⟩ := ih
    by_cases q : x.2.1 i = v
    · rw [if_pos q]
      refine ⟨⟨m, e1, by omega, fun h0 h1 => by omega, fun j hj => ?_⟩, fun j hj => e5 j (by omega), z0, z1, z2, z3, z4⟩
      obtain ⟨i', p1, p2⟩ := e4 j hj
      exact ⟨i', by omega, p2⟩
    · rw [if_neg q]
      have cm : x.2.2.2.2.2.toNatClampNeg = m := by rw [e1]; exact nI_clamp (by omega)
      rw [cm]
      have m12 : m < 12 := by omega
      refine ⟨⟨m + 1, ?_, by omega, fun h0 h1 => ?_, fun j hj => ?_⟩, fun j hj => ?_, nz_up z0 m12, nz_up z1 m12, nz_up z2 m12, nz_up z3 m12, nz_up z4 m12⟩
      · show x.2.2.2.2.2 + 1 = nI (m + 1)
        rw [e1, nI_1]
      · have hi0 : ¬ i = 0 := fun z => q (by rw [z, (e5 0 (by omega)).2]; exact h0)
        have := e3 h0 (by omega)
        omega
      · show ∃ i', i' < i + 1 ∧ upd x.1 m (x.1 i) j = a0 i' ∧ upd x.2.1 m (x.2.1 i) j = a1 i'
        rw [up_at, up_at]
        by_cases r : j = m
        · rw [if_pos r, if_pos r, (e5 i (Nat.le_refl _)).1, (e5 i (Nat.le_refl _)).2]
          exact ⟨i, by omega, rfl, rfl⟩
        · rw [if_neg r, if_neg r]
          obtain ⟨i', p1, p2⟩ := e4 j (by omega)
          exact ⟨i', by omega, p2⟩
      · show upd x.1 m (x.1 i) j = a0 j ∧ upd x.2.1 m (x.2.1 i) j = a1 j
        rw [up_at, up_at, if_neg (by omega), if_neg (by omega)]
        exact e5 j (by omega)
theorem g_cl {B : Int} {c : xR} (h : Gd B c) (k : Nat) : Gd B (clC c k) ∧ ¬ c.xn - (clC c k).xn < 0 ∧ xN (clC c k) ≤ xN c ∧ (0 < xN c → c.xv 0 = nI k → 0 < c.xn - (clC c k).xn ∧ xN (clC c k) < xN c) := by
  obtain ⟨⟨hb, ⟨n1, ⟨n2, n3, n4, n5, n6⟩, n7⟩⟩, hS, hM, hR⟩ := h
  have h12 := xn_12 hb
  obtain ⟨⟨m, e1, e2, e3, e4⟩, e5, z0, z1, z2, z3, z4⟩ := dal_ok (nI k) n2 n3 n4 n5 n6 (xN c) h12
  have ex : (clC c k).xn = nI m := e1
  have cm : (clC c k).xn.toNatClampNeg = m := by rw [ex]; exact nI_clamp (by omega)
  have ed : c.xn - (clC c k).xn = nI (xN c - m) := by
    rw [ex]
    conv => lhs; rw [xn_ne hb]
    exact pk_sub e2
  refine ⟨⟨⟨⟨⟨hb.1.1, ?_, ?_, fun i hi => ?_⟩, hb.2⟩, ⟨n1, ⟨z0, z1, z2, z3, z4⟩, n7⟩⟩, hS, fun i hi => ?_, hR⟩, ?_, ?_, fun h0 hv => ?_⟩
  · rw [cm]; exact ex
  · rw [cm]; omega
  · rw [cm] at hi
    obtain ⟨i', p1, p2, p3⟩ := e4 i hi
    have p2' : (clC c k).xs i = c.xs i' := p2
    rw [p2']
    exact hb.1.2.2.2 i' p1
  · rw [cm] at hi
    obtain ⟨i', p1, p2, p3⟩ := e4 i hi
    have p2' : (clC c k).xs i = c.xs i' := p2
    have p3' : (clC c k).xv i = c.xv i' := p3
    rw [p2', p3']
    exact hM i' p1
  · rw [ed]; exact nI_pos (by omega)
  · show (clC c k).xn.toNatClampNeg ≤ xN c
    omega
  · have := e3 hv h0
    refine ⟨?_, ?_⟩
    · rw [ed]; exact nI_lt (a := 0) (by omega) (by omega)
    · show (clC c k).xn.toNatClampNeg < xN c
      omega
