/-! elevons alone -/
theorem el_xN (c : xR) (a b : Nat) (h : Int32) : xN (elC c a b h) = 4 := rfl
theorem el_xs (c : xR) (a b : Nat) (h : Int32) : (elC c a b h).xs 0 = 0 ∧ (elC c a b h).xs 1 = 1 ∧ (elC c a b h).xs 2 = 0 ∧ (elC c a b h).xs 3 = 1 := ⟨rfl, rfl, rfl, rfl⟩
theorem el_xv (c : xR) (a b : Nat) (h : Int32) : (elC c a b h).xv 0 = nI a ∧ (elC c a b h).xv 1 = nI a ∧ (elC c a b h).xv 2 = nI b ∧ (elC c a b h).xv 3 = nI b := ⟨rfl, rfl, rfl, rfl⟩
theorem el_xh (c : xR) (a b : Nat) (h : Int32) : (elC c a b h).xh 0 = h ∧ (elC c a b h).xh 1 = h ∧ (elC c a b h).xh 2 = -h ∧ (elC c a b h).xh 3 = h := ⟨rfl, rfl, rfl, rfl⟩
theorem el_xo (c : xR) (a b : Nat) (h : Int32) : (elC c a b h).xo 0 = 0 ∧ (elC c a b h).xo 1 = 0 ∧ (elC c a b h).xo 2 = 0 ∧ (elC c a b h).xo 3 = 0 := ⟨rfl, rfl, rfl, rfl⟩
theorem el_xc (c : xR) (a b : Nat) (h : Int32) : (elC c a b h).xc 0 = 0 ∧ (elC c a b h).xc 1 = 0 ∧ (elC c a b h).xc 2 = 0 ∧ (elC c a b h).xc 3 = 0 := ⟨rfl, rfl, rfl, rfl⟩
theorem k4 {P : Nat → Prop} (h0 : P 0) (h1 : P 1) (h2 : P 2) (h3 : P 3) : ∀ k, k < 4 → P k := fun k hk => by
  rcases (show k = 0 ∨ k = 1 ∨ k = 2 ∨ k = 3 by omega) with rfl | rfl | rfl | rfl <;> assumption
theorem g_el {B : Int} {c : xR} (hG : Gd B c) {a b : Nat} (ha : a < 6) (hb6 : b < 6) (h : Int32) : Gd B (elC c a b h) := by
  obtain ⟨⟨hb, ⟨n1, ⟨n2, n3, n4, n5, n6⟩, n7⟩⟩, hS, hM, hR⟩ := hG
  have ca : (nI a).toNatClampNeg = a := nI_clamp (by omega)
  have cb : (nI b).toNatClampNeg = b := nI_clamp (by omega)
  have c1 : (1 : Int32).toNatClampNeg = 1 := rfl
  have c0 : (0 : Int32).toNatClampNeg = 0 := rfl
  have z4 : ∀ {f : Nat → Int32} {x y u v : Int32}, nz 12 f → nz 12 (upd (upd (upd (upd f 0 x) 1 y) 2 u) 3 v) := fun hf => nz_up (nz_up (nz_up (nz_up hf (by decide)) (by decide)) (by decide)) (by decide)
  obtain ⟨s0, s1, s2, s3⟩ := el_xs c a b h
  obtain ⟨v0, v1, v2, v3⟩ := el_xv c a b h
  refine ⟨⟨⟨⟨hb.1.1, rfl, (show (4 : Int32).toNatClampNeg ≤ 12 by decide), k4 ?_ ?_ ?_ ?_⟩, hb.2⟩, ⟨n1, ⟨z4 n2, z4 n3, z4 n4, z4 n5, z4 n6⟩, n7⟩⟩, hS, k4 ?_ ?_ ?_ ?_, hR⟩
  · rw [s0]; decide
  · rw [s1]; decide
  · rw [s2]; decide
  · rw [s3]; decide
  · rw [s0, v0, ca, c0]; exact ⟨⟨rfl, ha⟩, by omega⟩
  · rw [s1, v1, ca, c1]; exact ⟨⟨rfl, ha⟩, by omega⟩
  · rw [s2, v2, cb, c0]; exact ⟨⟨rfl, hb6⟩, by omega⟩
  · rw [s3, v3, cb, c1]; exact ⟨⟨rfl, hb6⟩, by omega⟩
theorem vl_st {c : xR} {d : Nat → Int32} {j s : Nat} {u : Int32} (hs : s < 4) (h1 : c.xc j = 0) (h2 : c.xs j = nI s) (h3 : c.xh j = u) (h4 : c.xo j = 0) : vlr c d j = cmd c s * u / 100 := by
  unfold vlr sp_X4_valueOf sp_X2_holds
  rw [h1, if_neg (show ¬ (0 : Int32) = 1 by decide), if_pos (show (0 : Int32) = 0 from rfl), if_neg (show ¬ (1 : Int32) = 0 by decide), h2, if_neg (show ¬ 4 ≤ nI s from nI_ge (b := 4) hs (by decide)), nI_clamp (by omega), h3, h4, Int32.add_zero]
  rfl
/-- what both servos are asked -/
theorem el_dm {c : xR} {B : Int} {a b : Nat} {h : Int32} (hG : Gd B c) (ha : a < 6) (hb6 : b < 6) (hab : ¬ a = b) : dmd (elC c a b h) a = c300 (cmd c 0 * h / 100 + cmd c 1 * h / 100) ∧ dmd (elC c a b h) b = c300 (cmd c 0 * (-h) / 100 + cmd c 1 * h / 100) := by
  have G := g_el hG ha hb6 h
  obtain ⟨s0, s1, s2, s3⟩ := el_xs c a b h
  obtain ⟨v0, v1, v2, v3⟩ := el_xv c a b h
  obtain ⟨h0, h1, h2, h3⟩ := el_xh c a b h
  obtain ⟨o0, o1, o2, o3⟩ := el_xo c a b h
  obtain ⟨x0, x1, x2, x3⟩ := el_xc c a b h
  have nab : ¬ nI a = nI b := fun y => hab ((nI_eq (by omega) (by omega)).mp y)
  have nba : ¬ nI b = nI a := fun y => nab y.symm
  have e0 := fun d => vl_st (d := d) (s := 0) (by decide) x0 s0 h0 o0
  have e1 := fun d => vl_st (d := d) (s := 1) (by decide) x1 s1 h1 o1
  have e2 := fun d => vl_st (d := d) (s := 0) (by decide) x2 s2 h2 o2
  have e3 := fun d => vl_st (d := d) (s := 1) (by decide) x3 s3 h3 o3
  have cc : ∀ k, cmd (elC c a b h) k = cmd c k := fun _ => rfl
  refine ⟨?_, ?_⟩
  · rw [dmd_sum G.2.2.1 G.1.1 ha, el_xN, smr_s, smr_s, smr_s, smr_s, smr_0, v0, v1, v2, v3, if_neg nba, if_neg nba, if_pos rfl, if_pos rfl, e0, e1, cc, cc, Int32.zero_add]
  · rw [dmd_sum G.2.2.1 G.1.1 hb6, el_xN, smr_s, smr_s, smr_s, smr_s, smr_0, v0, v1, v2, v3, if_pos rfl, if_pos rfl, if_neg nab, if_neg nab, e2, e3, cc, cc, Int32.zero_add]
theorem c300_id {x : Int32} (h : ¬ szV (c300 x) = 300) : c300 x = x := by
  have z1 : (300 : Int32).toInt = 300 := by decide
  have z2 : (-300 : Int32).toInt = -300 := by decide
  have hp : szV 300 = 300 := by decide
  have hn : szV (-300) = 300 := by decide
  unfold c300 at h ⊢
  by_cases q1 : x < (-300)
  · rw [if_pos q1] at h ⊢
    rw [if_neg (by decide)] at h
    exact absurd hn h
  · rw [if_neg q1] at h ⊢
    by_cases q2 : 300 < x
    · rw [if_pos q2] at h
      exact absurd hp h
    · rw [if_neg q2]
theorem el_V {x h : Int32} (hx : bt (-150) 150 x) (hh : bt 1 150 h) : (x * h / 100).toInt = (x.toInt * h.toInt).tdiv 100 ∧ (x * (-h) / 100).toInt = -(x.toInt * h.toInt).tdiv 100 ∧ bt (-225) 225 (x * h / 100) := by
  obtain ⟨x1, x2⟩ := hx
  obtain ⟨h1, h2⟩ := hh
  have z : (100 : Int32).toInt = 100 := by decide
  have q := mb (A := 150) (B := 150) (a := x.toInt) (b := h.toInt) (by omega) (by omega) (by omega) (by omega)
  have f1 : (x * h).toInt = x.toInt * h.toInt := ti_mul (by omega) (by omega)
  have f2 : (-h).toInt = -h.toInt := ti_neg (by omega)
  have f3 : (x * (-h)).toInt = -(x.toInt * h.toInt) := by
    rw [ti_mul (by rw [f2, Int.mul_neg]; omega) (by rw [f2, Int.mul_neg]; omega), f2, Int.mul_neg]
  have g := tdb (x := x.toInt * h.toInt) (m := 100) (c := 225) (by omega) (by omega) (by omega)
  have e1 : (x * h / 100).toInt = (x.toInt * h.toInt).tdiv 100 := by rw [ti_div (by decide), f1, z]
  refine ⟨e1, by rw [ti_div (by decide), f3, z, Int.neg_tdiv], ?_⟩
  unfold bt
  rw [e1]
  exact g
theorem el_sum {c : xR} {B : Int} {a b : Nat} {h : Int32} (hG : Gd B c) (ha : a < 6) (hb6 : b < 6) (hab : ¬ a = b) (hh : bt 1 150 h) (w1 : ¬ szV (dmd (elC c a b h) a) = 300) (w2 : ¬ szV (dmd (elC c a b h) b) = 300) : dmd (elC c a b h) a + dmd (elC c a b h) b = 2 * (cmd (elC c a b h) 1 * h / 100) ∧ dmd (elC c a b h) a - dmd (elC c a b h) b = 2 * (cmd (elC c a b h) 0 * h / 100) := by
  obtain ⟨e1, e2⟩ := el_dm (h := h) hG ha hb6 hab
  rw [e1] at w1
  rw [e2] at w2
  rw [e1, e2, c300_id w1, c300_id w2]
  have cc : ∀ k, cmd (elC c a b h) k = cmd c k := fun _ => rfl
  rw [cc, cc]
  obtain ⟨p1, p2, p3⟩ := el_V (cmd_b hG.2.1 (k := 0) (by decide)) hh
  obtain ⟨q1, q2, q3⟩ := el_V (cmd_b hG.2.1 (k := 1) (by decide)) hh
  have z : (2 : Int32).toInt = 2 := rfl
  rw [← p1] at p2
  generalize cmd c 0 * h / 100 = x at p2 p3
  generalize cmd c 0 * (-h) / 100 = x' at p2
  generalize cmd c 1 * h / 100 = y at q3
  obtain ⟨p3, p4⟩ := p3
  obtain ⟨q3, q4⟩ := q3
  have a1 : (x + y).toInt = x.toInt + y.toInt := ti_add (by omega) (by omega)
  have a2 : (x' + y).toInt = x'.toInt + y.toInt := ti_add (by omega) (by omega)
  refine ⟨ti_eq.mpr ?_, ti_eq.mpr ?_⟩
  · rw [ti_add (by omega) (by omega), ti_mul (by rw [z]; omega) (by rw [z]; omega), a1, a2, z]
    omega
  · rw [ti_sub (by omega) (by omega), ti_mul (by rw [z]; omega) (by rw [z]; omega), a1, a2, z]
    omega
theorem el_ho {c : xR} {a b : Nat} {h : Int32} {j : Nat} (hj : j < 4) : ¬ sp_X2_holds (elC c a b h).xc j (elC c a b h).kh = 0 := by
  have e : (elC c a b h).xc j = 0 := by
    obtain ⟨x0, x1, x2, x3⟩ := el_xc c a b h
    rcases (show j = 0 ∨ j = 1 ∨ j = 2 ∨ j = 3 by omega) with rfl | rfl | rfl | rfl <;> assumption
  unfold sp_X2_holds
  rw [e, if_neg (show ¬ (0 : Int32) = 1 by decide), if_pos rfl]
  decide
theorem fr_st {c : xR} {j s : Nat} {q : Int32} (kn : Int32) (hs : s < 4) (h2 : c.xs j = nI s) : ¬ sp_X2_isFrom c.xs j q kn = 0 ↔ nI s = q := by
  unfold sp_X2_isFrom
  rw [h2, if_neg (show ¬ 4 ≤ nI s from nI_ge (b := 4) hs (by decide))]
  by_cases e : nI s = q
  · rw [if_pos e]
    exact ⟨fun _ => e, fun _ => by decide⟩
  · rw [if_neg e]
    exact ⟨fun y => absurd rfl y, fun y => absurd y e⟩
theorem el_d0 {c : xR} {B : Int} {a b : Nat} {h : Int32} (hG : Gd B c) (ha : a < 6) (hb6 : b < 6) : sp_dby (elC c a b h) (nI 0) 0 6 = ((1 : Int32) <<< (nI a &&& 31)) ||| ((1 : Int32) <<< (nI b &&& 31)) := by
  have G := g_el hG ha hb6 h
  obtain ⟨s0, s1, s2, s3⟩ := el_xs c a b h
  obtain ⟨v0, v1, v2, v3⟩ := el_xv c a b h
  obtain ⟨m, m1, m2, m3, m4⟩ := dby_ok G.1.1 (nI 0) 6 (Nat.le_refl _)
  rw [m2]
  refine bit_ab m1 ha hb6 (fun k hk => ?_)
  rw [m4 k hk, el_xN]
  refine ⟨fun ⟨j, hj, d1, d2, d3⟩ => ?_, fun y => ?_⟩
  · rcases (show j = 0 ∨ j = 1 ∨ j = 2 ∨ j = 3 by omega) with rfl | rfl | rfl | rfl
    · exact Or.inl ((nI_eq (by omega) (by omega)).mp (d1.symm.trans v0))
    · exact Or.inl ((nI_eq (by omega) (by omega)).mp (d1.symm.trans v1))
    · exact Or.inr ((nI_eq (by omega) (by omega)).mp (d1.symm.trans v2))
    · exact Or.inr ((nI_eq (by omega) (by omega)).mp (d1.symm.trans v3))
  · rcases y with rfl | rfl
    · exact ⟨0, by decide, v0, el_ho (by decide), (fr_st (s := 0) _ (by decide) s0).mpr rfl⟩
    · exact ⟨2, by decide, v2, el_ho (by decide), (fr_st (s := 0) _ (by decide) s2).mpr rfl⟩
theorem el_d2 {c : xR} {B : Int} {a b : Nat} {h : Int32} (hG : Gd B c) (ha : a < 6) (hb6 : b < 6) : sp_dby (elC c a b h) (nI 2) 0 6 = 0 := by
  have G := g_el hG ha hb6 h
  obtain ⟨s0, s1, s2, s3⟩ := el_xs c a b h
  obtain ⟨m, m1, m2, m3, m4⟩ := dby_ok G.1.1 (nI 2) 6 (Nat.le_refl _)
  rw [m2]
  refine bit_no m1 (fun k hk y => ?_)
  obtain ⟨j, hj, d1, d2, d3⟩ := (m4 k hk).mp y
  rw [el_xN] at hj
  rcases (show j = 0 ∨ j = 1 ∨ j = 2 ∨ j = 3 by omega) with rfl | rfl | rfl | rfl
  · exact absurd ((fr_st (s := 0) _ (by decide) s0).mp d3) (by decide)
  · exact absurd ((fr_st (s := 1) _ (by decide) s1).mp d3) (by decide)
  · exact absurd ((fr_st (s := 0) _ (by decide) s2).mp d3) (by decide)
  · exact absurd ((fr_st (s := 1) _ (by decide) s3).mp d3) (by decide)
