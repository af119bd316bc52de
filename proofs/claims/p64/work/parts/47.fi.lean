/-! frames keep what has to be kept -/
theorem lim_b {vl vu : Nat → Int32} {k : Nat} {v : Int32} (h1 : bt (-150) 0 (vl k)) (h2 : bt 0 150 (vu k)) : bt (-150) 150 (sp_X3_limited vl vu k v) := by
  have h := cl_ti (lo := vl k) (hi := vu k) (v := v) (by obtain ⟨a, b⟩ := h1; obtain ⟨c, d⟩ := h2; omega)
  obtain ⟨a, b⟩ := h1
  obtain ⟨c, d⟩ := h2
  unfold sp_X3_limited bt
  omega
theorem tga_at (vd vn vl vu e a0 : Nat → Int32) (j : Nat) : ∀ n, sp_tga vd vn vl vu e a0 n j = if j < n then sp_X3_limited vl vu j ((vn j) + ((vd j) * (e j))) else a0 j
  | 0 => rfl
  | n + 1 => by
    simp only [sp_tga]
    rw [up_at, tga_at vd vn vl vu e a0 j n]
    by_cases q : j = n
    · rw [if_pos q, if_pos (by omega), q]
    · rw [if_neg q]
      by_cases r : j < n
      · rw [if_pos r, if_pos (by omega)]
      · rw [if_neg r, if_neg (by omega)]
theorem tpr_at (vl vu vm vp a0 : Nat → Int32) (j : Nat) : ∀ n, sp_tpr vl vu vm vp a0 n j = if j < n ∧ vm j = 1 then sp_X3_limited vl vu j (vp j) else a0 j
  | 0 => by
    rw [if_neg (fun q => absurd q.1 (Nat.not_lt_zero _))]
    rfl
  | n + 1 => by
    simp only [sp_tpr]
    by_cases m : vm n = 1
    · rw [if_pos m, up_at, tpr_at vl vu vm vp a0 j n]
      by_cases q : j = n
      · rw [if_pos q, if_pos ⟨by omega, by rw [q]; exact m⟩, q]
      · rw [if_neg q]
        by_cases r : j < n ∧ vm j = 1
        · rw [if_pos r, if_pos ⟨by omega, r.2⟩]
        · rw [if_neg r, if_neg (fun y => r ⟨by omega, y.2⟩)]
    · rw [if_neg m, tpr_at vl vu vm vp a0 j n]
      by_cases r : j < n ∧ vm j = 1
      · rw [if_pos r, if_pos ⟨by omega, r.2⟩]
      · rw [if_neg r, if_neg (fun y => r ⟨by rcases Nat.lt_or_ge j n with z | z; exact z; exact absurd (by rw [← show j = n by omega]; exact y.2) m, y.2⟩)]
theorem tr1_b {c : xR} {vt : Nat → Int32} {jb : Int32} {e : Nat → Int32} {z : Int32} (hV : gV c) (h : ∀ k, k < 6 → bt (-150) 150 (vt k)) (hn : nz 6 vt) : (∀ k, k < 6 → bt (-150) 150 (sp_tr1 c.vd c.vn c.vl c.vu vt jb e z k)) ∧ nz 6 (sp_tr1 c.vd c.vn c.vl c.vu vt jb e z) := by
  unfold sp_tr1
  split
  · exact ⟨h, hn⟩
  · refine ⟨fun k hk => ?_, fun k hk => ?_⟩
    · rw [tga_at, if_pos hk]
      exact lim_b (hV k hk).2.2.1 (hV k hk).2.2.2.1
    · rw [tga_at, if_neg (by omega)]
      exact hn k hk
theorem tr2_b {c : xR} {vt : Nat → Int32} {jb ji : Int32} {e : Nat → Int32} {z : Int32} (hV : gV c) (h : ∀ k, k < 6 → bt (-150) 150 (vt k)) (hn : nz 6 vt) : (∀ k, k < 6 → bt (-150) 150 (sp_tr2 c.vd c.vn c.vl c.vu c.vm c.vp vt c.jd jb ji e z k)) ∧ nz 6 (sp_tr2 c.vd c.vn c.vl c.vu c.vm c.vp vt c.jd jb ji e z) := by
  obtain ⟨h1, h2⟩ := tr1_b (c := c) (jb := jb) (e := e) (z := z) hV h hn
  unfold sp_tr2
  split
  · exact ⟨h1, h2⟩
  · refine ⟨fun k hk => ?_, fun k hk => ?_⟩
    · rw [tpr_at]
      split
      · exact lim_b (hV k hk).2.2.1 (hV k hk).2.2.2.1
      · exact h1 k hk
    · rw [tpr_at, if_neg (fun y => absurd y.1 (by omega))]
      exact h2 k hk
theorem tr3_ti {jb : Int32} (h : bt 0 20000 jb) : (sp_tr3 jb).toInt = max (jb.toInt - 1) 0 := by
  have z0 : (0 : Int32).toInt = 0 := rfl
  have z1 : (1 : Int32).toInt = 1 := rfl
  obtain ⟨h1, h2⟩ := h
  unfold sp_tr3
  by_cases q : jb ≤ 0
  · rw [if_pos q]
    have := ti_le.mp q
    omega
  · rw [if_neg q]
    have : ¬ jb.toInt ≤ (0 : Int32).toInt := fun y => q (ti_le.mpr y)
    rw [ti_sub (by omega) (by omega)]
    omega
/-- the target rows and what is spent, in one frame -/
def t2R (c : xR) (e : Nat → Int32) (z : Int32) (x : xF) : Nat → Int32 := sp_tr2 c.vd c.vn c.vl c.vu c.vm c.vp x.vt c.jd x.jb x.ji e z
def jiR (z : Int32) (x : xF) : Int32 := sp_X1_countFrame_ji x.ji (sp_trc x.jb z)
def jfR (c : xR) (z : Int32) (x : xF) : Int32 := sp_X1_updateFailsafe_jf c.jd (jiR z x)
def avR (c : xR) (e : Nat → Int32) (z : Int32) (x : xF) : xA := sp_avs c.vs c.vm (t2R c e z x) (jfR c z x) x.va x.vw 0 (sp_tr3 x.jb) 6
theorem stp_vt (c : xR) (e : Nat → Int32) (z : Int32) (x : xF) : (stp c e z x).vt = t2R c e z x := rfl
theorem stp_va (c : xR) (e : Nat → Int32) (z : Int32) (x : xF) : (stp c e z x).va = (avR c e z x).1 := rfl
theorem stp_vw (c : xR) (e : Nat → Int32) (z : Int32) (x : xF) : (stp c e z x).vw = (avR c e z x).2.1 := rfl
theorem stp_mv (c : xR) (e : Nat → Int32) (z : Int32) (x : xF) : (stp c e z x).mv = x.mv + (avR c e z x).2.2.1 := rfl
theorem stp_jb (c : xR) (e : Nat → Int32) (z : Int32) (x : xF) : (stp c e z x).jb = (avR c e z x).2.2.2 := rfl
theorem stp_js (c : xR) (e : Nat → Int32) (z : Int32) (x : xF) : (stp c e z x).js = x.js + 1 := rfl
theorem stp_jl (c : xR) (e : Nat → Int32) (z : Int32) (x : xF) : (stp c e z x).jl = sp_X1_countFrame_jl x.jl (sp_trc x.jb z) := rfl
theorem stp_jx (c : xR) (e : Nat → Int32) (z : Int32) (x : xF) : (stp c e z x).jx = sp_X1_countFrame_jx x.jb x.jx := rfl
theorem stp_ji (c : xR) (e : Nat → Int32) (z : Int32) (x : xF) : (stp c e z x).ji = jiR z x := rfl
theorem stp_jf (c : xR) (e : Nat → Int32) (z : Int32) (x : xF) : (stp c e z x).jf = jfR c z x := rfl
def FI (c : xR) (n : Nat) (x : xF) : Prop :=
  gW x.vt x.va x.vw ∧ (nz 6 x.vt ∧ nz 6 x.va ∧ nz 6 x.vw) ∧ (x.jf = 0 ∨ x.jf = 1) ∧ bt 0 20000 x.jb ∧ (0 ≤ x.jx.toInt ∧ x.jx.toInt ≤ x.jl.toInt ∧ x.jl.toInt ≤ x.js.toInt ∧ x.js.toInt = c.js.toInt + n ∧ 0 ≤ x.ji.toInt ∧ x.ji.toInt ≤ x.jl.toInt) ∧ x.jb.toInt + wS x.vw 6 + x.js.toInt - x.jx.toInt = 20000 + c.jc.toInt ∧ (x.mv.toInt = wS x.vw 6 - wS c.vw 6 ∧ ∀ k, k < 6 → (c.vw k).toInt ≤ (x.vw k).toInt)
theorem FI.zero {c : xR} {B : Int} (h : Gd B c) (z : Int32) : FI c 0 (fr c z 0) := by
  obtain ⟨⟨hb, hn⟩, hS, hM, hV, hW, ⟨k1, k2, k3, k4, k5, k6, k7, k8, k9, k10⟩⟩ := h
  have z0 : (0 : Int32).toInt = 0 := rfl
  refine ⟨hW, ⟨hn.2.2.2.2.2.1, hn.2.2.2.2.2.2.1, hn.2.2.2.2.2.2.2⟩, hb.2.2, k2, ⟨k4, k5, k6, ?_, k8, k9⟩, k10, ?_, fun k _ => Int.le_refl _⟩
  · show c.js.toInt = c.js.toInt + ((0 : Nat) : Int)
    omega
  · show (0 : Int32).toInt = wS c.vw 6 - wS c.vw 6
    omega
/-- what one frame does to the servos -/
theorem avR_ok {c : xR} {B : Int} (h : Gd B c) (hB : B ≤ 1000) {n : Nat} (e : Nat → Int32) (z : Int32) {x : xF} (H : FI c n x) : avI c.vs (t2R c e z x) (jfR c z x) x.va x.vw (sp_tr3 x.jb) 6 (avR c e z x) := by
  obtain ⟨⟨hb, hn⟩, hS, hM, hV, hW, ⟨k1, k2, k3, k4, k5, k6, k7, k8, k9, k10⟩⟩ := h
  obtain ⟨i1, ⟨i2, i3, i4⟩, i5, i6, ⟨j1, j2, j3, j4, j5, j6⟩, i7, i8⟩ := H
  have t3 := tr3_ti i6
  have hw : ∀ k, k < 6 → 0 ≤ (x.vw k).toInt := fun k hk => (i1 k hk).2.2
  refine avs_ok (tr2_b (c := c) hV (fun k hk => (i1 k hk).1) i2).1 (fun k hk => (i1 k hk).2.1) (fun k hk => (hV k hk).2.2.2.2.1) hw ?_ ?_ ⟨i3, i4⟩ 6 (Nat.le_refl _)
  · obtain ⟨i6, i6'⟩ := i6
    unfold bt
    omega
  · obtain ⟨i6, i6'⟩ := i6
    omega
theorem FI.step {c : xR} {B : Int} (h : Gd B c) (hB : B ≤ 1000) {n : Nat} (hn50 : n < 1000) (e : Nat → Int32) (z : Int32) {x : xF} (H : FI c n x) : FI c (n + 1) (stp c e z x) := by
  have A := avR_ok h hB e z H
  obtain ⟨⟨hb, hn⟩, hS, hM, hV, hW, ⟨k1, k2, k3, k4, k5, k6, k7, k8, k9, k10⟩⟩ := h
  obtain ⟨i1, ⟨i2, i3, i4⟩, i5, i6, ⟨j1, j2, j3, j4, j5, j6⟩, i7, ⟨i8, i9⟩⟩ := H
  obtain ⟨⟨a1, a2, a3⟩, a4, a5, -, ⟨a6, a7⟩, -⟩ := A
  have t2 := tr2_b (c := c) (jb := x.jb) (ji := x.ji) (e := e) (z := z) hV (fun k hk => (i1 k hk).1) i2
  have t3 := tr3_ti i6
  have z0 : (0 : Int32).toInt = 0 := rfl
  have z1 : (1 : Int32).toInt = 1 := rfl
  have hw : ∀ k, k < 6 → 0 ≤ (x.vw k).toInt := fun k hk => (i1 k hk).2.2
  have hw0 := wS_nn hw
  have hwc : ∀ k, k < 6 → 0 ≤ (c.vw k).toInt := fun k hk => (hW k hk).2.2
  have hwc0 := wS_nn hwc
  obtain ⟨i6, i6'⟩ := i6
  have k2a := k2.1
  have k2b := k2.2
  have ejs : (x.js + 1).toInt = x.js.toInt + 1 := ti_add (by omega) (by omega)
  have ejx : (sp_X1_countFrame_jx x.jb x.jx).toInt = if x.jb.toInt = 0 then x.jx.toInt + 1 else x.jx.toInt := by
    unfold sp_X1_countFrame_jx
    by_cases q : x.jb = 0
    · rw [if_pos q, if_pos (by rw [q]; rfl), ti_add (by omega) (by omega)]
      omega
    · rw [if_neg q, if_neg (show ¬ x.jb.toInt = 0 from fun y => q (ti_eq.mpr y))]
  have erc : sp_trc x.jb z = 0 ∨ (sp_trc x.jb z = 1 ∧ ¬ x.jb.toInt = 0) := by
    unfold sp_trc
    by_cases q : z = 0
    · rw [if_pos q]; exact Or.inl rfl
    · rw [if_neg q]
      by_cases r : x.jb ≤ 0
      · rw [if_pos r]; exact Or.inl rfl
      · rw [if_neg r]
        exact Or.inr ⟨rfl, fun y => r (ti_le.mpr (by omega))⟩
  have ejl : (sp_X1_countFrame_jl x.jl (sp_trc x.jb z)).toInt = x.jl.toInt + (if sp_trc x.jb z = 0 then 1 else 0) ∧ (jiR z x).toInt = (if sp_trc x.jb z = 0 then x.ji.toInt + 1 else 0) := by
    unfold jiR sp_X1_countFrame_jl sp_X1_countFrame_ji
    by_cases q : sp_trc x.jb z = 0
    · simp only [if_pos q]
      rw [ti_add (by omega) (by omega), ti_add (by omega) (by omega)]
      omega
    · simp only [if_neg q]
      omega
  refine ⟨fun k hk => ⟨t2.1 k hk, (a5 k hk).1, Int.le_trans (hw k hk) (a5 k hk).2⟩, ⟨t2.2, a6, a7⟩, ?_, ?_, ⟨?_, ?_, ?_, ?_, ?_, ?_⟩, ?_, ?_, fun k hk => Int.le_trans (i9 k hk) (a5 k hk).2⟩
  · rw [stp_jf]
    unfold jfR sp_X1_updateFailsafe_jf
    exact bool_ite (Or.inl rfl) (Or.inr rfl)
  · rw [stp_jb]
    unfold bt
    omega
  · rw [stp_jx, ejx]
    split <;> omega
  · rw [stp_jx, stp_jl, ejx, ejl.1]
    rcases erc with q | ⟨q, r⟩
    · rw [if_pos q]
      split <;> omega
    · rw [if_neg r]
      split <;> omega
  · rw [stp_jl, stp_js, ejl.1, ejs]
    split <;> omega
  · rw [stp_js, ejs]
    omega
  · rw [stp_ji, ejl.2]
    split <;> omega
  · rw [stp_ji, stp_jl, ejl.2, ejl.1]
    split <;> omega
  · rw [stp_jb, stp_vw, stp_js, stp_jx, a4, ejs, ejx]
    split <;> omega
  · rw [stp_mv, stp_vw, a4, ti_add (by omega) (by omega)]
    omega
theorem FI.all {c : xR} {B : Int} (h : Gd B c) (hB : B ≤ 1000) (z : Int32) : ∀ n, n ≤ 1000 → FI c n (fr c z n)
  | 0, _ => FI.zero h z
  | n + 1, hn => by
    rw [fr_s]
    exact FI.step h hB (by omega) _ z (FI.all h hB z n (by omega))
theorem frC_ok {c : xR} {B : Int} (h : Gd B c) (hB : B ≤ 1000) (z : Int32) {n m : Nat} (hn : n ≤ 200 * m) (hn2 : n ≤ 1000) : Gd (B + m) (frC c z n) := by
  have H := FI.all h hB z n hn2
  obtain ⟨⟨hb, hN⟩, hS, hM, hV, hW, ⟨k1, k2, k3, k4, k5, k6, k7, k8, k9, k10⟩⟩ := h
  obtain ⟨i1, ⟨i2, i3, i4⟩, i5, i6, ⟨j1, j2, j3, j4, j5, j6⟩, i7, ⟨i8, i9⟩⟩ := H
  obtain ⟨n1, n2, n3, ⟨n4, n5, n6, n7, n8⟩⟩ := hN
  exact ⟨⟨⟨hb.1, hb.2.1, i5⟩, n1, n2, n3, n4, n5, i2, i3, i4⟩, hS, hM, hV, i1, ⟨k1, i6, ⟨k3.1, by show c.jc.toInt ≤ 20000 * (B + m); omega⟩, j1, j2, j3, by show (fr c z n).js.toInt ≤ 200 * (B + m); omega, j5, j6, i7⟩⟩
