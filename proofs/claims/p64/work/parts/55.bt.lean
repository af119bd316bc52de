/-! the best trim -/
abbrev xT4 : Type := Int32 × Int32 × (Nat → Int32) × (Nat → Int32)
def btS (r : xR) (S V i : Nat) (x : xT4) : xT4 := ((if (if x.2.1 ≤ (sp_X6_missWithTrim (rTD r x.2.2.1 x.2.2.2) S (nI (1 + i)) V) then x.2.1 else (sp_X6_missWithTrim (rTD r x.2.2.1 x.2.2.2) S (nI (1 + i)) V)) ≤ (sp_X6_missWithTrim (rTD r (upd x.2.2.1 S (nI (1 + i))) (sp_cdm r.kp r.ke r.kr (upd x.2.2.1 S (nI (1 + i))) r.kh r.kc r.xn r.xs r.xv r.xh r.xo r.xc x.2.2.2 6)) S (-(nI (1 + i))) V) then (if x.2.1 ≤ (sp_X6_missWithTrim (rTD r x.2.2.1 x.2.2.2) S (nI (1 + i)) V) then x.1 else (nI (1 + i))) else (-(nI (1 + i)))), (if (if x.2.1 ≤ (sp_X6_missWithTrim (rTD r x.2.2.1 x.2.2.2) S (nI (1 + i)) V) then x.2.1 else (sp_X6_missWithTrim (rTD r x.2.2.1 x.2.2.2) S (nI (1 + i)) V)) ≤ (sp_X6_missWithTrim (rTD r (upd x.2.2.1 S (nI (1 + i))) (sp_cdm r.kp r.ke r.kr (upd x.2.2.1 S (nI (1 + i))) r.kh r.kc r.xn r.xs r.xv r.xh r.xo r.xc x.2.2.2 6)) S (-(nI (1 + i))) V) then (if x.2.1 ≤ (sp_X6_missWithTrim (rTD r x.2.2.1 x.2.2.2) S (nI (1 + i)) V) then x.2.1 else (sp_X6_missWithTrim (rTD r x.2.2.1 x.2.2.2) S (nI (1 + i)) V)) else (sp_X6_missWithTrim (rTD r (upd x.2.2.1 S (nI (1 + i))) (sp_cdm r.kp r.ke r.kr (upd x.2.2.1 S (nI (1 + i))) r.kh r.kc r.xn r.xs r.xv r.xh r.xo r.xc x.2.2.2 6)) S (-(nI (1 + i))) V)), (upd (upd x.2.2.1 S (nI (1 + i))) S (-(nI (1 + i)))), (sp_cdm r.kp r.ke r.kr (upd (upd x.2.2.1 S (nI (1 + i))) S (-(nI (1 + i)))) r.kh r.kc r.xn r.xs r.xv r.xh r.xo r.xc (sp_cdm r.kp r.ke r.kr (upd x.2.2.1 S (nI (1 + i))) r.kh r.kc r.xn r.xs r.xv r.xh r.xo r.xc x.2.2.2 6) 6))
theorem btl_s (r : xR) (qa qb a0 a1 : Int32) (a2 a3 : Nat → Int32) (i : Nat) : sp_btl r qa qb a0 a1 a2 a3 (i + 1) = btS r (slN r.kh (Int32.toNatClampNeg qa)) (Int32.toNatClampNeg qb) i (sp_btl r qa qb a0 a1 a2 a3 i) := rfl
theorem td_kp (r : xR) (kt dq : Nat → Int32) : (rTD r kt dq).kp = r.kp := id rfl
theorem td_ke (r : xR) (kt dq : Nat → Int32) : (rTD r kt dq).ke = r.ke := id rfl
theorem td_kr (r : xR) (kt dq : Nat → Int32) : (rTD r kt dq).kr = r.kr := id rfl
theorem td_kt (r : xR) (kt dq : Nat → Int32) : (rTD r kt dq).kt = kt := id rfl
theorem td_kh (r : xR) (kt dq : Nat → Int32) : (rTD r kt dq).kh = r.kh := id rfl
theorem td_kc (r : xR) (kt dq : Nat → Int32) : (rTD r kt dq).kc = r.kc := id rfl
theorem td_xn (r : xR) (kt dq : Nat → Int32) : (rTD r kt dq).xn = r.xn := id rfl
theorem td_xs (r : xR) (kt dq : Nat → Int32) : (rTD r kt dq).xs = r.xs := id rfl
theorem td_xv (r : xR) (kt dq : Nat → Int32) : (rTD r kt dq).xv = r.xv := id rfl
theorem td_xh (r : xR) (kt dq : Nat → Int32) : (rTD r kt dq).xh = r.xh := id rfl
theorem td_xo (r : xR) (kt dq : Nat → Int32) : (rTD r kt dq).xo = r.xo := id rfl
theorem td_xc (r : xR) (kt dq : Nat → Int32) : (rTD r kt dq).xc = r.xc := id rfl
theorem td_vd (r : xR) (kt dq : Nat → Int32) : (rTD r kt dq).vd = r.vd := id rfl
theorem td_vn (r : xR) (kt dq : Nat → Int32) : (rTD r kt dq).vn = r.vn := id rfl
theorem td_vl (r : xR) (kt dq : Nat → Int32) : (rTD r kt dq).vl = r.vl := id rfl
theorem td_vu (r : xR) (kt dq : Nat → Int32) : (rTD r kt dq).vu = r.vu := id rfl
theorem td_vs (r : xR) (kt dq : Nat → Int32) : (rTD r kt dq).vs = r.vs := id rfl
theorem td_vm (r : xR) (kt dq : Nat → Int32) : (rTD r kt dq).vm = r.vm := id rfl
theorem td_vp (r : xR) (kt dq : Nat → Int32) : (rTD r kt dq).vp = r.vp := id rfl
theorem td_vt (r : xR) (kt dq : Nat → Int32) : (rTD r kt dq).vt = r.vt := id rfl
theorem td_va (r : xR) (kt dq : Nat → Int32) : (rTD r kt dq).va = r.va := id rfl
theorem td_vw (r : xR) (kt dq : Nat → Int32) : (rTD r kt dq).vw = r.vw := id rfl
theorem td_jd (r : xR) (kt dq : Nat → Int32) : (rTD r kt dq).jd = r.jd := id rfl
theorem td_jb (r : xR) (kt dq : Nat → Int32) : (rTD r kt dq).jb = r.jb := id rfl
theorem td_jc (r : xR) (kt dq : Nat → Int32) : (rTD r kt dq).jc = r.jc := id rfl
theorem td_js (r : xR) (kt dq : Nat → Int32) : (rTD r kt dq).js = r.js := id rfl
theorem td_jl (r : xR) (kt dq : Nat → Int32) : (rTD r kt dq).jl = r.jl := id rfl
theorem td_jx (r : xR) (kt dq : Nat → Int32) : (rTD r kt dq).jx = r.jx := id rfl
theorem td_ji (r : xR) (kt dq : Nat → Int32) : (rTD r kt dq).ji = r.ji := id rfl
theorem td_jf (r : xR) (kt dq : Nat → Int32) : (rTD r kt dq).jf = r.jf := id rfl
theorem td_jn (r : xR) (kt dq : Nat → Int32) : (rTD r kt dq).jn = r.jn := id rfl
theorem td_dq (r : xR) (kt dq : Nat → Int32) : (rTD r kt dq).dq = dq := id rfl
theorem sd_rTD (c : xR) (d dq : Nat → Int32) : rTD (c.set_dq d) c.kt dq = c.set_dq dq := by
  unfold rTD
  simp only [xR.set_dq, pr_kp, pr_ke, pr_kr, pr_kt, pr_kh, pr_kc, pr_xn, pr_xs, pr_xv, pr_xh, pr_xo, pr_xc, pr_vd, pr_vn, pr_vl, pr_vu, pr_vs, pr_vm, pr_vp, pr_vt, pr_va, pr_vw, pr_jd, pr_jb, pr_jc, pr_js, pr_jl, pr_jx, pr_ji, pr_jf, pr_jn, pr_dq]
/-- how far the aim would be off with the trim t in the slot S -/
def msR (c : xR) (S : Nat) (t : Int32) (V : Nat) : Int32 := if 0 ≤ aimA (c.set_kt (upd c.kt S t)) V then aimA (c.set_kt (upd c.kt S t)) V else 0 - aimA (c.set_kt (upd c.kt S t)) V
theorem aim_kt (c : xR) (f : Nat → Int32) (hM : gM c) (hb : rB c) (d : Nat → Int32) {k : Nat} (hk : k < 6) : sp_X3_limited c.vl c.vu k (c.vn k + c.vd k * sp_cdm c.kp c.ke c.kr f c.kh c.kc c.xn c.xs c.xv c.xh c.xo c.xc d 6 k) = aimA (c.set_kt f) k := by
  have h := dm_eq (c := c.set_kt f) d hM hb k hk
  have h2 : sp_cdm c.kp c.ke c.kr f c.kh c.kc c.xn c.xs c.xv c.xh c.xo c.xc d 6 k = dmr (c.set_kt f) d 6 k := rfl
  rw [h2, h]
  rfl
theorem mw_0 (c : xR) (S : Nat) (t : Int32) {V : Nat} (hV : V < 6) (hM : gM c) (hb : rB c) (d : Nat → Int32) : sp_X6_missWithTrim (c.set_dq d) S t V = msR c S t V := by
  unfold sp_X6_missWithTrim msR
  simp only [gq_kp, gq_ke, gq_kr, gq_kt, gq_kh, gq_kc, gq_xn, gq_xs, gq_xv, gq_xh, gq_xo, gq_xc, gq_vd, gq_vn, gq_vl, gq_vu, gq_vs, gq_vm, gq_vp, gq_vt, gq_va, gq_vw, gq_jd, gq_jb, gq_jc, gq_js, gq_jl, gq_jx, gq_ji, gq_jf, gq_jn, gq_dq]
  rw [aim_kt c _ hM hb d hV]
theorem mw_eq (c : xR) (S : Nat) (t y : Int32) {V : Nat} (hV : V < 6) (hM : gM c) (hb : rB c) (d dq : Nat → Int32) : sp_X6_missWithTrim (rTD (c.set_dq d) (upd c.kt S y) dq) S t V = msR c S t V := by
  unfold sp_X6_missWithTrim msR
  simp only [td_kp, td_ke, td_kr, td_kt, td_kh, td_kc, td_xn, td_xs, td_xv, td_xh, td_xo, td_xc, td_vd, td_vn, td_vl, td_vu, td_vs, td_vm, td_vp, td_vt, td_va, td_vw, td_jd, td_jb, td_jc, td_js, td_jl, td_jx, td_ji, td_jf, td_jn, td_dq, gq_kp, gq_ke, gq_kr, gq_kt, gq_kh, gq_kc, gq_xn, gq_xs, gq_xv, gq_xh, gq_xo, gq_xc, gq_vd, gq_vn, gq_vl, gq_vu, gq_vs, gq_vm, gq_vp, gq_vt, gq_va, gq_vw, gq_jd, gq_jb, gq_jc, gq_js, gq_jl, gq_jx, gq_ji, gq_jf, gq_jn, gq_dq, up_upd]
  rw [aim_kt c _ hM hb dq hV]
def blN (c : xR) (S V : Nat) : Nat → Int32 × Int32
  | 0 => (0, msR c S 0 V)
  | i + 1 =>
    ((if (if (blN c S V i).2 ≤ msR c S (nI (1 + i)) V then (blN c S V i).2 else msR c S (nI (1 + i)) V) ≤ msR c S (-(nI (1 + i))) V then (if (blN c S V i).2 ≤ msR c S (nI (1 + i)) V then (blN c S V i).1 else nI (1 + i)) else -(nI (1 + i))),
     (if (if (blN c S V i).2 ≤ msR c S (nI (1 + i)) V then (blN c S V i).2 else msR c S (nI (1 + i)) V) ≤ msR c S (-(nI (1 + i))) V then (if (blN c S V i).2 ≤ msR c S (nI (1 + i)) V then (blN c S V i).2 else msR c S (nI (1 + i)) V) else msR c S (-(nI (1 + i))) V))
theorem btS_eq (c : xR) (S : Nat) {V : Nat} (hV : V < 6) (hM : gM c) (hb : rB c) (d : Nat → Int32) (i : Nat) (x : xT4) (y : Int32) (h1 : (x.1, x.2.1) = blN c S V i) (h2 : x.2.2.1 = upd c.kt S y) : ((btS (c.set_dq d) S V i x).1, (btS (c.set_dq d) S V i x).2.1) = blN c S V (i + 1) ∧ (btS (c.set_dq d) S V i x).2.2.1 = upd c.kt S (-(nI (1 + i))) := by
  have e1 : x.1 = (blN c S V i).1 := congrArg Prod.fst h1
  have e2 : x.2.1 = (blN c S V i).2 := congrArg Prod.snd h1
  unfold btS
  simp only [h2, up_upd, mw_eq c S _ _ hV hM hb d _, e1, e2, blN, and_self]
theorem btl_eq (c : xR) {k V : Nat} (hk : k < 4) (hV : V < 6) (hM : gM c) (hb : rB c) (d : Nat → Int32) (a3 : Nat → Int32) : ∀ i, ((sp_btl (c.set_dq d) (nI k) (nI V) 0 (msR c (slN c.kh k) 0 V) (upd c.kt (slN c.kh k) 0) a3 i).1, (sp_btl (c.set_dq d) (nI k) (nI V) 0 (msR c (slN c.kh k) 0 V) (upd c.kt (slN c.kh k) 0) a3 i).2.1) = blN c (slN c.kh k) V i ∧ ∃ y, (sp_btl (c.set_dq d) (nI k) (nI V) 0 (msR c (slN c.kh k) 0 V) (upd c.kt (slN c.kh k) 0) a3 i).2.2.1 = upd c.kt (slN c.kh k) y
  | 0 => ⟨rfl, 0, rfl⟩
  | i + 1 => by
    obtain ⟨h1, y, h2⟩ := btl_eq c hk hV hM hb d a3 i
    rw [btl_s, nc4 hk, nc6 hV, gq_kh]
    obtain ⟨h3, h4⟩ := btS_eq c (slN c.kh k) hV hM hb d i _ y h1 h2
    exact ⟨h3, _, h4⟩
def btV (c : xR) (k V : Nat) : Int32 := (blN c (slN c.kh k) V 25).1
set_option maxRecDepth 100000 in
theorem a_bestTrim (l : Launch) (g : xGt) (ap ad : Nat → Nat) (c : xR) (d : Nat → Int32) (po pn : Int32) (sv mm : xPl) (k v : Nat) (h_k : k < 4) (h_v : v < 6) (H : rnP c) (Hp : pk po pn sv) (hM : gM c) : xM l g.1 (xT g) yX6_bestTrim (ws_ yX6_bestTrim cX6_bestTrim 10 (some .int)) (xRm 7 115 2 12) 2 12 [.ref (ap 0), .int (nI k), .int (nI v)] (wB g ap ad c d po pn sv mm) (fun r9 w9 => r9 = some (.int (btV c k v + 100)) ∧ ∃ d1, w9 = wB g ap ad c d1 po pn sv mm) (fun _ _ => False) := by
  refine xM_mono (k_X6_bestTrim l g ap ad (c.set_dq d) po pn 0 (fun _ => (0 : Int32)) 0 0 0 0 0 0 sv mm (nI k) (nI v) (pk_clO H.1 Hp d)) (fun r w q => ?_) (fun E w q => ?_)
  · obtain ⟨-, hr, hw⟩ := q
    unfold sp_X6_bestTrim at hr
    unfold sp_X6_bestTrim_kt at hw
    simp only [nc4 h_k, nc6 h_v, gq_kh, gq_kt, mw_0 c _ _ h_v hM H.1 d] at hr hw
    obtain ⟨h1, y, h2⟩ := btl_eq c h_k h_v hM H.1 d (sp_cdm (c.set_dq d).kp (c.set_dq d).ke (c.set_dq d).kr (upd c.kt (slN c.kh k) 0) c.kh (c.set_dq d).kc (c.set_dq d).xn (c.set_dq d).xs (c.set_dq d).xv (c.set_dq d).xh (c.set_dq d).xo (c.set_dq d).xc (c.set_dq d).dq 6) 25
    rw [congrArg Prod.fst h1] at hr
    rw [h2, up_upd, up_self, sd_rTD, wB_f] at hw
    exact ⟨hr, _, hw⟩
  · exact no_er (show er_X6_bestTrim (nI k) (nI v) = none by unfold er_X6_bestTrim; rw [if_pos (ix (N := 4) (n := 4) rfl (by decide) h_k), if_pos (ix (N := 6) (n := 6) rfl (by decide) h_v)]) q
theorem ms_ti {c : xR} (hV : gV c) (S : Nat) (t : Int32) {V : Nat} (h : V < 6) : (msR c S t V).toInt = ((aimA (c.set_kt (upd c.kt S t)) V).toInt.natAbs : Int) := by
  have hb : bt (-150) 150 (aimA (c.set_kt (upd c.kt S t)) V) := aim_b (c := c.set_kt (upd c.kt S t)) hV h
  obtain ⟨h1, h2⟩ := hb
  exact ab_ti (by omega)
/-- the best of the trims of a size up to i -/
theorem bl_ok (c : xR) (S V : Nat) : ∀ i : Nat, i ≤ 25 → (-(i : Int) ≤ (blN c S V i).1.toInt ∧ (blN c S V i).1.toInt ≤ i) ∧ (blN c S V i).2 = msR c S (blN c S V i).1 V ∧ ∀ t : Int32, -(i : Int) ≤ t.toInt → t.toInt ≤ i → (blN c S V i).2.toInt ≤ (msR c S t V).toInt ∧ ((blN c S V i).2.toInt < (msR c S t V).toInt ∨ (blN c S V i).1.toInt.natAbs ≤ t.toInt.natAbs)
  | 0, _ => by
    have z0 : (0 : Int32).toInt = 0 := rfl
    refine ⟨⟨?_, ?_⟩, rfl, fun t h1 h2 => ?_⟩
    · show -((0 : Nat) : Int) ≤ (0 : Int32).toInt
      omega
    · show (0 : Int32).toInt ≤ ((0 : Nat) : Int)
      omega
    · have e : t = 0 := ti_eq.mpr (by omega)
      rw [e]
      exact ⟨Int.le_refl _, Or.inr (Nat.le_refl _)⟩
  | i + 1, hi => by
    obtain ⟨⟨a1, a2⟩, a3, a4⟩ := bl_ok c S V i (by omega)
    have en : (nI (1 + i)).toInt = 1 + (i : Int) := by rw [ti_n (by omega)]; omega
    have em : (-(nI (1 + i))).toInt = -(1 + (i : Int)) := by rw [ti_neg (by omega), en]
    have hc : ∀ t : Int32, -((i + 1 : Nat) : Int) ≤ t.toInt → t.toInt ≤ ((i + 1 : Nat) : Int) → (-(i : Int) ≤ t.toInt ∧ t.toInt ≤ i) ∨ t = nI (1 + i) ∨ t = -(nI (1 + i)) := fun t h1 h2 => by
      by_cases p1 : t.toInt = 1 + (i : Int)
      · exact Or.inr (Or.inl (ti_eq.mpr (by omega)))
      · by_cases p2 : t.toInt = -(1 + (i : Int))
        · exact Or.inr (Or.inr (ti_eq.mpr (by omega)))
        · exact Or.inl ⟨by omega, by omega⟩
    simp only [blN]
    generalize blN c S V i = x at a1 a2 a3 a4
    generalize hA : msR c S (nI (1 + i)) V = A
    generalize hZ : msR c S (-(nI (1 + i))) V = Z
    by_cases q1 : x.2 ≤ A
    · simp only [if_pos q1]
      have r1 := ti_le.mp q1
      by_cases q2 : x.2 ≤ Z
      · simp only [if_pos q2]
        have r2 := ti_le.mp q2
        refine ⟨⟨by omega, by omega⟩, a3, fun t h1 h2 => ?_⟩
        rcases hc t h1 h2 with ⟨g1, g2⟩ | rfl | rfl
        · exact a4 t g1 g2
        · rw [hA, en]
          exact ⟨r1, Or.inr (by omega)⟩
        · rw [hZ, em]
          exact ⟨r2, Or.inr (by omega)⟩
      · simp only [if_neg q2]
        have r2 : ¬ x.2.toInt ≤ Z.toInt := fun y => q2 (ti_le.mpr y)
        refine ⟨⟨by omega, by omega⟩, hZ.symm, fun t h1 h2 => ?_⟩
        rcases hc t h1 h2 with ⟨g1, g2⟩ | rfl | rfl
        · obtain ⟨b1, b2⟩ := a4 t g1 g2
          exact ⟨by omega, Or.inl (by omega)⟩
        · rw [hA]
          exact ⟨by omega, Or.inl (by omega)⟩
        · rw [hZ]
          exact ⟨Int.le_refl _, Or.inr (Nat.le_refl _)⟩
    · simp only [if_neg q1]
      have r1 : ¬ x.2.toInt ≤ A.toInt := fun y => q1 (ti_le.mpr y)
      by_cases q2 : A ≤ Z
      · simp only [if_pos q2]
        have r2 := ti_le.mp q2
        refine ⟨⟨by omega, by omega⟩, hA.symm, fun t h1 h2 => ?_⟩
        rcases hc t h1 h2 with ⟨g1, g2⟩ | rfl | rfl
        · obtain ⟨b1, b2⟩ := a4 t g1 g2
          exact ⟨by omega, Or.inl (by omega)⟩
        · rw [hA]
          exact ⟨Int.le_refl _, Or.inr (Nat.le_refl _)⟩
        · rw [hZ, em, en]
          exact ⟨r2, Or.inr (by omega)⟩
      · simp only [if_neg q2]
        have r2 : ¬ A.toInt ≤ Z.toInt := fun y => q2 (ti_le.mpr y)
        refine ⟨⟨by omega, by omega⟩, hZ.symm, fun t h1 h2 => ?_⟩
        rcases hc t h1 h2 with ⟨g1, g2⟩ | rfl | rfl
        · obtain ⟨b1, b2⟩ := a4 t g1 g2
          exact ⟨by omega, Or.inl (by omega)⟩
        · rw [hA]
          exact ⟨by omega, Or.inl (by omega)⟩
        · rw [hZ]
          exact ⟨Int.le_refl _, Or.inr (Nat.le_refl _)⟩
theorem btV_ok (c : xR) (k V : Nat) : bt (-25) 25 (btV c k V) ∧ ∀ t : Int32, bt (-25) 25 t → (msR c (slN c.kh k) (btV c k V) V).toInt ≤ (msR c (slN c.kh k) t V).toInt ∧ ((msR c (slN c.kh k) (btV c k V) V).toInt < (msR c (slN c.kh k) t V).toInt ∨ (btV c k V).toInt.natAbs ≤ t.toInt.natAbs) := by
  obtain ⟨h1, h2, h3⟩ := bl_ok c (slN c.kh k) V 25 (Nat.le_refl _)
  rw [h2] at h3
  exact ⟨h1, fun t ht => h3 t ht.1 ht.2⟩
