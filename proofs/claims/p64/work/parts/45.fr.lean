/-! frames: what was moved, then the rows that frames change -/
abbrev xF : Type := Int32 × (Nat → Int32) × (Nat → Int32) × (Nat → Int32) × Int32 × Int32 × Int32 × Int32 × Int32 × Int32 × Int32
def xF.mv (x : xF) : Int32 := x.1
def xF.vt (x : xF) : Nat → Int32 := x.2.1
def xF.va (x : xF) : Nat → Int32 := x.2.2.1
def xF.vw (x : xF) : Nat → Int32 := x.2.2.2.1
def xF.jb (x : xF) : Int32 := x.2.2.2.2.1
def xF.js (x : xF) : Int32 := x.2.2.2.2.2.1
def xF.jl (x : xF) : Int32 := x.2.2.2.2.2.2.1
def xF.jx (x : xF) : Int32 := x.2.2.2.2.2.2.2.1
def xF.ji (x : xF) : Int32 := x.2.2.2.2.2.2.2.2.1
def xF.jf (x : xF) : Int32 := x.2.2.2.2.2.2.2.2.2.1
def xF.jn (x : xF) : Int32 := x.2.2.2.2.2.2.2.2.2.2
/-- one frame -/
def stp (c : xR) (e : Nat → Int32) (z : Int32) (x : xF) : xF := ((x.mv + (sp_X4_transmitOne c.vd c.vn c.vl c.vu c.vs c.vm c.vp x.vt x.va x.vw c.jd x.jb x.ji e z)), (sp_tr2 c.vd c.vn c.vl c.vu c.vm c.vp x.vt c.jd x.jb x.ji e z), (sp_X4_transmitOne_va c.vd c.vn c.vl c.vu c.vs c.vm c.vp x.vt x.va x.vw c.jd x.jb x.ji e z), (sp_X4_transmitOne_vw c.vd c.vn c.vl c.vu c.vs c.vm c.vp x.vt x.va x.vw c.jd x.jb x.ji e z), (sp_X4_transmitOne_jb c.vd c.vn c.vl c.vu c.vs c.vm c.vp x.vt x.va x.vw c.jd x.jb x.ji e z), (x.js + 1), (sp_X1_countFrame_jl x.jl (sp_trc x.jb z)), (sp_X1_countFrame_jx x.jb x.jx), (sp_X1_countFrame_ji x.ji (sp_trc x.jb z)), (sp_X1_updateFailsafe_jf c.jd (sp_X1_countFrame_ji x.ji (sp_trc x.jb z))), (sp_X1_updateFailsafe_jn c.jd (sp_X1_countFrame_ji x.ji (sp_trc x.jb z)) x.jf x.jn))
def frR (c : xR) (d : Nat → Int32) (z : Int32) (n : Nat) : xF := sp_trs c.kp c.ke c.kr c.kt c.kh c.kc c.xn c.xs c.xv c.xh c.xo c.xc c.vd c.vn c.vl c.vu c.vs c.vm c.vp c.jd d z 0 c.vt c.va c.vw c.jb c.js c.jl c.jx c.ji c.jf c.jn n
def fr (c : xR) (z : Int32) (n : Nat) : xF := frR c (fun _ => 0) z n
/-- the rows behind n frames -/
def frC (c : xR) (z : Int32) (n : Nat) : xR := xRk c.kp c.ke c.kr c.kt c.kh c.kc c.xn c.xs c.xv c.xh c.xo c.xc c.vd c.vn c.vl c.vu c.vs c.vm c.vp (fr c z n).vt (fr c z n).va (fr c z n).vw c.jd (fr c z n).jb c.jc (fr c z n).js (fr c z n).jl (fr c z n).jx (fr c z n).ji (fr c z n).jf (fr c z n).jn c.dq
theorem frR_s (c : xR) (d : Nat → Int32) (z : Int32) (n : Nat) : frR c d z (n + 1) = stp c (dmr c d 6) z (frR c d z n) := rfl
theorem fr_s (c : xR) (z : Int32) (n : Nat) : fr c z (n + 1) = stp c (dmd c) z (fr c z n) := rfl
theorem tga_eq (vd vn vl vu : Nat → Int32) {e e' : Nat → Int32} (a0 : Nat → Int32) (h : ∀ k, k < 6 → e k = e' k) : ∀ n, n ≤ 6 → sp_tga vd vn vl vu e a0 n = sp_tga vd vn vl vu e' a0 n
  | 0, _ => rfl
  | n + 1, hn => by
    simp only [sp_tga]
    rw [tga_eq vd vn vl vu a0 h n (by omega), h n (by omega)]
theorem tr1_eq (vd vn vl vu vt : Nat → Int32) (jb : Int32) {e e' : Nat → Int32} (z : Int32) (h : ∀ k, k < 6 → e k = e' k) : sp_tr1 vd vn vl vu vt jb e z = sp_tr1 vd vn vl vu vt jb e' z := by
  unfold sp_tr1
  rw [tga_eq vd vn vl vu vt h 6 (Nat.le_refl _)]
theorem tr2_eq (vd vn vl vu vm vp vt : Nat → Int32) (jd jb ji : Int32) {e e' : Nat → Int32} (z : Int32) (h : ∀ k, k < 6 → e k = e' k) : sp_tr2 vd vn vl vu vm vp vt jd jb ji e z = sp_tr2 vd vn vl vu vm vp vt jd jb ji e' z := by
  unfold sp_tr2
  rw [tr1_eq vd vn vl vu vt jb z h]
theorem stp_eq (c : xR) {e e' : Nat → Int32} (z : Int32) (x : xF) (h : ∀ k, k < 6 → e k = e' k) : stp c e z x = stp c e' z x := by
  unfold stp sp_X4_transmitOne sp_X4_transmitOne_va sp_X4_transmitOne_vw sp_X4_transmitOne_jb
  rw [tr2_eq c.vd c.vn c.vl c.vu c.vm c.vp x.vt c.jd x.jb x.ji z h]
theorem fr_eq {c : xR} (d : Nat → Int32) (hm : gM c) (hb : rB c) (z : Int32) : ∀ n, frR c d z n = fr c z n
  | 0 => rfl
  | n + 1 => by rw [frR_s, fr_s, fr_eq d hm hb z n, stp_eq c z _ (fun k hk => dm_eq d hm hb k hk)]
/-! a servo's way in one frame -/
theorem mn_ti (a b : Int32) : (if b < a then b else a).toInt = min a.toInt b.toInt := by
  by_cases q : b < a
  · rw [if_pos q]
    have := ti_lt.mp q
    omega
  · rw [if_neg q]
    have : ¬ b.toInt < a.toInt := fun y => q (ti_lt.mpr y)
    omega
theorem adv_d {vs vt va : Nat → Int32} {k : Nat} {mu : Int32} (h1 : bt (-150) 150 (vt k)) (h2 : bt (-150) 150 (va k)) : (sp_X3_advance vs vt va k mu).toInt = min (min (((vt k).toInt - (va k).toInt).natAbs : Int) (vs k).toInt) mu.toInt := by
  obtain ⟨h1, h1'⟩ := h1
  obtain ⟨h2, h2'⟩ := h2
  have e : ((vt k) - (va k)).toInt = (vt k).toInt - (va k).toInt := ti_sub (by omega) (by omega)
  have eA := ab_ti (x := (vt k) - (va k)) (by omega)
  unfold sp_X3_advance
  rw [mn_ti, mn_ti, eA, e]
theorem adv_p {vs vt va : Nat → Int32} {k : Nat} {mu : Int32} (h1 : bt (-150) 150 (vt k)) (h2 : bt (-150) 150 (va k)) (h3 : 1 ≤ (vs k).toInt) (h4 : 0 ≤ mu.toInt) : (sp_X3_advance_va vs vt va k mu k).toInt = (if 0 ≤ (vt k).toInt - (va k).toInt then (va k).toInt + (sp_X3_advance vs vt va k mu).toInt else (va k).toInt - (sp_X3_advance vs vt va k mu).toInt) := by
  have hd := adv_d (vs := vs) (mu := mu) h1 h2
  obtain ⟨h1, h1'⟩ := h1
  obtain ⟨h2, h2'⟩ := h2
  have e : ((vt k) - (va k)).toInt = (vt k).toInt - (va k).toInt := ti_sub (by omega) (by omega)
  have z0 : (0 : Int32).toInt = 0 := rfl
  have hw : sp_X3_advance_va vs vt va k mu k = va k + (if 0 ≤ ((vt k) - (va k)) then sp_X3_advance vs vt va k mu else -sp_X3_advance vs vt va k mu) := by
    unfold sp_X3_advance_va
    rw [up_at, if_pos rfl]
    rfl
  rw [hw]
  by_cases q : 0 ≤ ((vt k) - (va k))
  · have q2 := ti_le.mp q
    rw [if_pos q, if_pos (by omega), ti_add (by omega) (by omega)]
  · have q2 : ¬ (0 : Int32).toInt ≤ ((vt k) - (va k)).toInt := fun y => q (ti_le.mpr y)
    have en : (-sp_X3_advance vs vt va k mu).toInt = -(sp_X3_advance vs vt va k mu).toInt := ti_neg (by omega)
    rw [if_neg q, if_neg (by omega), ti_add (by omega) (by omega), en]
    omega
theorem adv_o {vs vt va : Nat → Int32} {k j : Nat} {mu : Int32} (h : ¬ j = k) : sp_X3_advance_va vs vt va k mu j = va j := by
  unfold sp_X3_advance_va
  rw [up_at, if_neg h]
theorem advw_o {vs vt va vw : Nat → Int32} {k j : Nat} {mu : Int32} (h : ¬ j = k) : sp_X3_advance_vw vs vt va vw k mu j = vw j := by
  unfold sp_X3_advance_vw
  rw [up_at, if_neg h]
theorem advw_p {vs vt va vw : Nat → Int32} {k : Nat} {mu : Int32} : sp_X3_advance_vw vs vt va vw k mu k = vw k + sp_X3_advance vs vt va k mu := by
  unfold sp_X3_advance_vw
  rw [up_at, if_pos rfl]
  rfl
theorem wS_6 (f : Nat → Int32) : wS f 6 = (f 0).toInt + (f 1).toInt + (f 2).toInt + (f 3).toInt + (f 4).toInt + (f 5).toInt := by
  simp only [wS]; omega
theorem k6 {P : Nat → Prop} (h0 : P 0) (h1 : P 1) (h2 : P 2) (h3 : P 3) (h4 : P 4) (h5 : P 5) : ∀ k, k < 6 → P k := fun k hk => by
  rcases (show k = 0 ∨ k = 1 ∨ k = 2 ∨ k = 3 ∨ k = 4 ∨ k = 5 by omega) with rfl | rfl | rfl | rfl | rfl | rfl <;> assumption
theorem wS_one {f g : Nat → Int32} {k : Nat} {x : Int} (hk : k < 6) (h : (g k).toInt = (f k).toInt + x) (ho : ∀ j, ¬ j = k → g j = f j) : wS g 6 = wS f 6 + x := by
  rw [wS_6, wS_6]
  rcases (show k = 0 ∨ k = 1 ∨ k = 2 ∨ k = 3 ∨ k = 4 ∨ k = 5 by omega) with rfl | rfl | rfl | rfl | rfl | rfl
  · rw [ho 1 (by decide), ho 2 (by decide), ho 3 (by decide), ho 4 (by decide), ho 5 (by decide)]; omega
  · rw [ho 0 (by decide), ho 2 (by decide), ho 3 (by decide), ho 4 (by decide), ho 5 (by decide)]; omega
  · rw [ho 1 (by decide), ho 0 (by decide), ho 3 (by decide), ho 4 (by decide), ho 5 (by decide)]; omega
  · rw [ho 1 (by decide), ho 2 (by decide), ho 0 (by decide), ho 4 (by decide), ho 5 (by decide)]; omega
  · rw [ho 1 (by decide), ho 2 (by decide), ho 3 (by decide), ho 0 (by decide), ho 5 (by decide)]; omega
  · rw [ho 1 (by decide), ho 2 (by decide), ho 3 (by decide), ho 4 (by decide), ho 0 (by decide)]; omega
