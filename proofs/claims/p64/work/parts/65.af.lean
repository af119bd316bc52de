/-! areFrames -/
theorem mv_nn {B : Int} {r : xR} (H : Gd B r) (hB : B ≤ 1000) (z : Int32) {n : Nat} (hn : n ≤ 1000) : ¬ (fr r z n).mv < 0 := fun q => by
  obtain ⟨m1, m2⟩ := (FI.all H hB z n hn).2.2.2.2.2.2
  have q2 := ti_lt.mp q
  have z0 : (0 : Int32).toInt = 0 := rfl
  have h6 := wS_6 r.vw
  have h6' := wS_6 (fr r z n).vw
  have y0 := m2 0 (by decide); have y1 := m2 1 (by decide); have y2 := m2 2 (by decide); have y3 := m2 3 (by decide); have y4 := m2 4 (by decide); have y5 := m2 5 (by decide)
  omega
theorem way_eq {B : Int} {r : xR} (H : Gd B r) (hB : B ≤ 900) (z : Int32) {n : Nat} (hn : n ≤ 200) : wrN (frC r z n) 6 = wrN r 6 + (fr r z n).mv := by
  have G : Gd (B + 1) (frC r z n) := frC_ok (m := 1) H (by omega) z (by omega) (by omega)
  obtain ⟨m1, m2⟩ := (FI.all H (by omega) z n (by omega)).2.2.2.2.2.2
  obtain ⟨a1, -, -⟩ := wrN_ti H (by omega) 6 (Nat.le_refl _)
  obtain ⟨b1, -, -⟩ := wrN_ti G (by omega) 6 (Nat.le_refl _)
  obtain ⟨s1, s2⟩ := H.wsb (by omega)
  obtain ⟨t1, t2⟩ := G.wsb (by omega)
  have e : wS (frC r z n).vw 6 = wS (fr r z n).vw 6 := rfl
  refine ti_eq.mpr ?_
  rw [ti_add (by omega) (by omega)]
  omega
theorem q_pos {q : Nat} (h : ¬ nI q ≤ 0) : 0 < q := by
  rcases Nat.eq_zero_or_pos q with y | y
  · exact absurd (by rw [y]; decide) h
  · exact y
theorem q_50 {q : Nat} (h3 : q ≤ 300) (h : ¬ 50 < nI q) : q ≤ 50 := by
  rcases Nat.lt_or_ge 50 q with y | y
  · exact absurd (nI_lt (a := 50) y (by omega)) h
  · exact y
theorem q_b {q : Nat} {b : Int32} (h3 : q ≤ 50) (h : ¬ b < nI (1801 * q)) : 1801 * (q : Int) ≤ b.toInt := by
  have q2 := ti_le.mp (Int32.not_lt.mp h)
  rw [ti_n (by omega)] at q2
  omega
theorem fta_goC {c : xR} {B : Int} (h : Gd B c) (hB : B ≤ 1000) {k q : Nat} (hk : k < 6) (hq : fta c k = nI q) (hq0 : 0 < q) (hq50 : q ≤ 50) (hb : 1801 * (q : Int) ≤ c.jb.toInt) : (frC c 1 q).va k = aimA (frC c 1 q) k ∧ 0 < (fr c 1 q).mv.toInt ∧ (1 < q → ¬ (frC c 1 (q - 1)).va k = aimA (frC c 1 (q - 1)) k) := by
  obtain ⟨h1, h2, h3⟩ := fta_go h hB hk hq hq0 hq50 hb
  refine ⟨?_, h2, fun y => ?_⟩
  · rw [aim_fr]; exact h1
  · rw [aim_fr]; exact h3 y
set_option maxRecDepth 100000 in
set_option maxHeartbeats 2000000 in
theorem k_L_areFrames (l : Launch) (g : xGt) (ap ad : Nat → Nat) (r : xR) (d : Nat → Int32) (po pn : Int32) (sv mm : xPl) (B : Int) (H : Gd B r) (hB : B ≤ 900) (Hp : pk po pn sv) (F V : Nat) (z : Int32) (hF : 1 ≤ F ∧ F ≤ 50) (hV : V < 6) (hz : z = 0 ∨ z = 1) : xM l g.1 (xT g) yL_areFrames (ws_ yL_areFrames cL_areFrames 9 (some .boolean)) (xRm 9 200 300 2200) 300 2200 [.ref (ap 0), .int (nI F), .int (nI V), .int z] (wB g ap ad r d po pn sv mm) (fun r9 w9 => r9 = some (.int 1) ∧ ∃ r1 d1 po1 pn1 sv1, w9 = wB g ap ad r1 d1 po1 pn1 sv1 mm ∧ Gd (B + 3) r1 ∧ pk po1 pn1 sv1) (fun _ _ => False) := by
  refine x_start (own := RL) (nm := "areFrames") rfl rfl (by decide +kernel) rfl (nle rfl) (fun p e σ m args below meth c A C hno hr => ?_)
  rcases hz with rfl | rfl
  · refine x_lve (lv' := [(0, .ref (ap 0)), (1, .int (nI F)), (2, .int (nI V)), (3, .int 0)]) rfl ?_
    refine x_aload_n C 0 rfl rfl dL_areFrames_0 ?_
    refine x_ES0 [.ref (ap 0)] [] C (k_L_wears l g ap ad r d po pn sv mm H.1 Hp) rfl yS_L_wears wML_L_105 rfl rfl (nle rfl) (nle rfl) (nle rfl) (nle rfl) (nle rfl) dL_areFrames_1 (fun E w h => h.elim) (fun r0 w0 h0 => ?_)
    obtain ⟨rfl, rfl⟩ := h0
    refine x_st (st' := [.int (wrN r 6)]) rfl ?_
    refine x_istore C [(4, .int (wrN r 6)), (0, .ref (ap 0)), (1, .int (nI F)), (2, .int (nI V)), (3, .int 0)] rfl (by decide) dL_areFrames_4 ?_
    refine x_iload_n C 4 rfl rfl dL_areFrames_6 ?_
    refine x_if_eq C 18 (by decide) dL_areFrames_7 (fun _ => ?_) (fun hz => absurd (by decide) hz)
    refine x_aload_n C 1 rfl rfl dL_areFrames_18 ?_
    refine x_iload_n C 2 rfl rfl dL_areFrames_19 ?_
    refine x_EV0 [.int (nI F)] [] C (a_lose l g ap ad r d po pn sv mm F hF H.1 Hp H.2.2.1) rfl yV_X6_lose wML_L_164 0 rfl rfl rfl rfl (nle rfl) (nle rfl) (nle rfl) (nle rfl) (nle rfl) dL_areFrames_20 (fun E w h => h.elim) (fun r0 w0 h0 => ?_)
    obtain ⟨rfl, d1, po1, pn1, sv1, rfl, hs1⟩ := h0
    have HG1 : Gd (B + 1) (frC r 0 F) := frC_ok (m := 1) H (by omega) 0 (by omega) (by omega)
    refine x_st (st' := [.int ((fr r 0 F).mv)]) rfl ?_
    refine x_istore C [(5, .int ((fr r 0 F).mv)), (4, .int (wrN r 6)), (0, .ref (ap 0)), (1, .int (nI F)), (2, .int (nI V)), (3, .int 0)] rfl (by decide) dL_areFrames_23 ?_
    refine x_iload C 0 rfl dL_areFrames_25 ?_
    refine x_if_lt C 46 (by decide) dL_areFrames_27 (fun hz => absurd hz (mv_nn H (by omega) 0 (by omega))) (fun _ => ?_)
    refine x_aload_n C 2 rfl rfl dL_areFrames_30 ?_
    refine x_ES0 [.ref (ap 0)] [] C (k_L_wears l g ap ad (frC r 0 F) d1 po1 pn1 sv1 mm HG1.1 hs1.1) rfl yS_L_wears wML_L_105 rfl rfl (nle rfl) (nle rfl) (nle rfl) (nle rfl) (nle rfl) dL_areFrames_31 (fun E w h => h.elim) (fun r0 w0 h0 => ?_)
    obtain ⟨rfl, rfl⟩ := h0
    refine x_st (st' := [.int (wrN (frC r 0 F) 6)]) rfl ?_
    refine x_iload C 1 rfl dL_areFrames_34 ?_
    refine x_iload C 0 rfl dL_areFrames_36 ?_
    refine x_iadd C dL_areFrames_38 ?_
    refine x_icmp_ne C 46 (by decide) dL_areFrames_39 (fun hz => absurd (way_eq H hB 0 (by omega)) hz) (fun _ => ?_)
    refine x_iconst C 1 (by decide) dL_areFrames_42 ?_
    refine x_goto C 47 (by decide) dL_areFrames_43 ?_
    refine x_istore C [(6, .int 1), (5, .int ((fr r 0 F).mv)), (4, .int (wrN r 6)), (0, .ref (ap 0)), (1, .int (nI F)), (2, .int (nI V)), (3, .int 0)] rfl (by decide) dL_areFrames_47 ?_
    refine x_aload_n C 3 rfl rfl dL_areFrames_49 ?_
    refine x_iload_n C 5 rfl rfl dL_areFrames_50 ?_
    refine x_EV0 [.int (nI V)] [] C (a_framesToAim l g ap ad (frC r 0 F) d1 po1 pn1 sv1 mm V hV HG1.1 hs1.1 HG1.2.2.1) rfl yV_X6_framesToAim wML_L_167 0 rfl rfl rfl rfl (nle rfl) (nle rfl) (nle rfl) (nle rfl) (nle rfl) dL_areFrames_51 (fun E w h => h.elim) (fun r0 w0 h0 => ?_)
    obtain ⟨rfl, d2, rfl⟩ := h0
    refine x_st (st' := [.int (fta (frC r 0 F) V)]) rfl ?_
    refine x_istore C [(7, .int (fta (frC r 0 F) V)), (6, .int 1), (5, .int ((fr r 0 F).mv)), (4, .int (wrN r 6)), (0, .ref (ap 0)), (1, .int (nI F)), (2, .int (nI V)), (3, .int 0)] rfl (by decide) dL_areFrames_54 ?_
    refine x_iload_n C 7 rfl rfl dL_areFrames_56 ?_
    refine x_if_eq C 247 (by decide) dL_areFrames_57 (fun _ => ?_) (fun hz => absurd (by decide) hz)
    refine x_iload C 1 rfl dL_areFrames_247 ?_
    exact x_zret C hr rfl (nle rfl) (nle rfl) dL_areFrames_249 ⟨rfl, (frC r 0 F), d2, po1, pn1, sv1, rfl, HG1.up (by omega), hs1.1⟩
  · refine x_lve (lv' := [(0, .ref (ap 0)), (1, .int (nI F)), (2, .int (nI V)), (3, .int 1)]) rfl ?_
    refine x_aload_n C 0 rfl rfl dL_areFrames_0 ?_
    refine x_ES0 [.ref (ap 0)] [] C (k_L_wears l g ap ad r d po pn sv mm H.1 Hp) rfl yS_L_wears wML_L_105 rfl rfl (nle rfl) (nle rfl) (nle rfl) (nle rfl) (nle rfl) dL_areFrames_1 (fun E w h => h.elim) (fun r0 w0 h0 => ?_)
    obtain ⟨rfl, rfl⟩ := h0
    refine x_st (st' := [.int (wrN r 6)]) rfl ?_
    refine x_istore C [(4, .int (wrN r 6)), (0, .ref (ap 0)), (1, .int (nI F)), (2, .int (nI V)), (3, .int 1)] rfl (by decide) dL_areFrames_4 ?_
    refine x_iload_n C 4 rfl rfl dL_areFrames_6 ?_
    refine x_if_eq C 18 (by decide) dL_areFrames_7 (fun hz => absurd hz (by decide)) (fun _ => ?_)
    refine x_aload_n C 1 rfl rfl dL_areFrames_10 ?_
    refine x_iload_n C 2 rfl rfl dL_areFrames_11 ?_
    refine x_EV0 [.int (nI F)] [] C (a_send l g ap ad r d po pn sv mm F hF H.1 Hp H.2.2.1) rfl yV_X6_send wML_L_161 0 rfl rfl rfl rfl (nle rfl) (nle rfl) (nle rfl) (nle rfl) (nle rfl) dL_areFrames_12 (fun E w h => h.elim) (fun r0 w0 h0 => ?_)
    obtain ⟨rfl, d1, po1, pn1, sv1, rfl, hs1⟩ := h0
    have HG1 : Gd (B + 1) (frC r 1 F) := frC_ok (m := 1) H (by omega) 1 (by omega) (by omega)
    refine x_st (st' := [.int ((fr r 1 F).mv)]) rfl ?_
    refine x_goto C 23 (by decide) dL_areFrames_15 ?_
    refine x_istore C [(5, .int ((fr r 1 F).mv)), (4, .int (wrN r 6)), (0, .ref (ap 0)), (1, .int (nI F)), (2, .int (nI V)), (3, .int 1)] rfl (by decide) dL_areFrames_23 ?_
    refine x_iload C 0 rfl dL_areFrames_25 ?_
    refine x_if_lt C 46 (by decide) dL_areFrames_27 (fun hz => absurd hz (mv_nn H (by omega) 1 (by omega))) (fun _ => ?_)
    refine x_aload_n C 2 rfl rfl dL_areFrames_30 ?_
    refine x_ES0 [.ref (ap 0)] [] C (k_L_wears l g ap ad (frC r 1 F) d1 po1 pn1 sv1 mm HG1.1 hs1.1) rfl yS_L_wears wML_L_105 rfl rfl (nle rfl) (nle rfl) (nle rfl) (nle rfl) (nle rfl) dL_areFrames_31 (fun E w h => h.elim) (fun r0 w0 h0 => ?_)
    obtain ⟨rfl, rfl⟩ := h0
    refine x_st (st' := [.int (wrN (frC r 1 F) 6)]) rfl ?_
    refine x_iload C 1 rfl dL_areFrames_34 ?_
    refine x_iload C 0 rfl dL_areFrames_36 ?_
    refine x_iadd C dL_areFrames_38 ?_
    refine x_icmp_ne C 46 (by decide) dL_areFrames_39 (fun hz => absurd (way_eq H hB 1 (by omega)) hz) (fun _ => ?_)
    refine x_iconst C 1 (by decide) dL_areFrames_42 ?_
    refine x_goto C 47 (by decide) dL_areFrames_43 ?_
    refine x_istore C [(6, .int 1), (5, .int ((fr r 1 F).mv)), (4, .int (wrN r 6)), (0, .ref (ap 0)), (1, .int (nI F)), (2, .int (nI V)), (3, .int 1)] rfl (by decide) dL_areFrames_47 ?_
    refine x_aload_n C 3 rfl rfl dL_areFrames_49 ?_
    refine x_iload_n C 5 rfl rfl dL_areFrames_50 ?_
    refine x_EV0 [.int (nI V)] [] C (a_framesToAim l g ap ad (frC r 1 F) d1 po1 pn1 sv1 mm V hV HG1.1 hs1.1 HG1.2.2.1) rfl yV_X6_framesToAim wML_L_167 0 rfl rfl rfl rfl (nle rfl) (nle rfl) (nle rfl) (nle rfl) (nle rfl) dL_areFrames_51 (fun E w h => h.elim) (fun r0 w0 h0 => ?_)
    obtain ⟨rfl, d2, rfl⟩ := h0
    refine x_st (st' := [.int (fta (frC r 1 F) V)]) rfl ?_
    refine x_istore C [(7, .int (fta (frC r 1 F) V)), (6, .int 1), (5, .int ((fr r 1 F).mv)), (4, .int (wrN r 6)), (0, .ref (ap 0)), (1, .int (nI F)), (2, .int (nI V)), (3, .int 1)] rfl (by decide) dL_areFrames_54 ?_
    refine x_iload_n C 7 rfl rfl dL_areFrames_56 ?_
    refine x_if_eq C 247 (by decide) dL_areFrames_57 (fun hz => absurd hz (by decide)) (fun _ => ?_)
    refine x_aload_n C 4 rfl rfl dL_areFrames_60 ?_
    refine x_EV0 [] [] C (a_battery l g ap ad (frC r 1 F) d2 po1 pn1 sv1 mm  HG1.1 hs1.1) rfl yV_X6_battery wML_L_96 0 rfl rfl rfl rfl (nle rfl) (nle rfl) (nle rfl) (nle rfl) (nle rfl) dL_areFrames_61 (fun E w h => h.elim) (fun r0 w0 h0 => ?_)
    obtain ⟨rfl, rfl⟩ := h0
    refine x_st (st' := [.int ((frC r 1 F).jb)]) rfl ?_
    refine x_if_le C 247 (by decide) dL_areFrames_64 (fun h1 => ?_) (fun h1 => ?_)
    · refine x_iload C 1 rfl dL_areFrames_247 ?_
      exact x_zret C hr rfl (nle rfl) (nle rfl) dL_areFrames_249 ⟨rfl, (frC r 1 F), d2, po1, pn1, sv1, rfl, HG1.up (by omega), hs1.1⟩
    · have hjb : 0 < (frC r 1 F).jb.toInt := by have q2 := ti_lt.mp (Int32.not_le.mp h1); have z0 : (0 : Int32).toInt = 0 := rfl; omega
      have HR := rcv_1 HG1 hjb
      refine x_iload C 1 rfl dL_areFrames_67 ?_
      refine x_if_eq C 247 (by decide) dL_areFrames_69 (fun hz => absurd hz (by decide)) (fun _ => ?_)
      refine x_aload_n C 4 rfl rfl dL_areFrames_72 ?_
      refine x_iconst C 1 (by decide) dL_areFrames_73 ?_
      refine x_st (st' := [.int (nI 1), .ref (ap 0)]) rfl ?_
      refine x_EV0 [.int (nI 1)] [] C (a_send l g ap ad (frC r 1 F) d2 po1 pn1 sv1 mm 1 (by decide) HG1.1 hs1.1 HG1.2.2.1) rfl yV_X6_send wML_L_161 0 rfl rfl rfl rfl (nle rfl) (nle rfl) (nle rfl) (nle rfl) (nle rfl) dL_areFrames_74 (fun E w h => h.elim) (fun r0 w0 h0 => ?_)
      obtain ⟨rfl, d3, po3, pn3, sv3, rfl, hs3⟩ := h0
      have HG3 : Gd (B + 1 + 1) (frC (frC r 1 F) 1 1) := frC_ok (m := 1) HG1 (by omega) 1 (by omega) (by omega)
      refine x_st (st' := [.int ((fr (frC r 1 F) 1 1).mv)]) rfl ?_
      refine x_if_lt C 98 (by decide) dL_areFrames_77 (fun hz => absurd hz (mv_nn HG1 (by omega) 1 (by decide))) (fun _ => ?_)
      refine x_aload_n C 4 rfl rfl dL_areFrames_80 ?_
      refine x_EV0 [] [] C (a_lostInRow l g ap ad (frC (frC r 1 F) 1 1) d3 po3 pn3 sv3 mm  HG3.1 hs3.1) rfl yV_X6_lostInRow wML_L_121 0 rfl rfl rfl rfl (nle rfl) (nle rfl) (nle rfl) (nle rfl) (nle rfl) dL_areFrames_81 (fun E w h => h.elim) (fun r0 w0 h0 => ?_)
      obtain ⟨rfl, rfl⟩ := h0
      refine x_st (st' := [.int ((frC (frC r 1 F) 1 1).ji)]) rfl ?_
      refine x_if_ne C 98 (by decide) dL_areFrames_84 (fun hz => absurd HR.1 hz) (fun _ => ?_)
      refine x_aload_n C 4 rfl rfl dL_areFrames_87 ?_
      refine x_EV0 [] [] C (a_isFailsafe l g ap ad (frC (frC r 1 F) 1 1) d3 po3 pn3 sv3 mm  HG3.1 hs3.1) rfl yV_X6_isFailsafe wML_L_170 0 rfl rfl rfl rfl (nle rfl) (nle rfl) (nle rfl) (nle rfl) (nle rfl) dL_areFrames_88 (fun E w h => h.elim) (fun r0 w0 h0 => ?_)
      obtain ⟨rfl, rfl⟩ := h0
      refine x_st (st' := [.int ((frC (frC r 1 F) 1 1).jf)]) rfl ?_
      refine x_if_ne C 98 (by decide) dL_areFrames_91 (fun hz => absurd HR.2.1 hz) (fun _ => ?_)
      refine x_iconst C 1 (by decide) dL_areFrames_94 ?_
      refine x_goto C 99 (by decide) dL_areFrames_95 ?_
      refine x_istore C [(6, .int 1), (7, .int (fta (frC r 1 F) V)), (5, .int ((fr r 1 F).mv)), (4, .int (wrN r 6)), (0, .ref (ap 0)), (1, .int (nI F)), (2, .int (nI V)), (3, .int 1)] rfl (by decide) dL_areFrames_99 ?_
      refine x_iconst C 0 (by decide) dL_areFrames_101 ?_
      refine x_istore C [(8, .int 0), (6, .int 1), (7, .int (fta (frC r 1 F) V)), (5, .int ((fr r 1 F).mv)), (4, .int (wrN r 6)), (0, .ref (ap 0)), (1, .int (nI F)), (2, .int (nI V)), (3, .int 1)] rfl (by decide) dL_areFrames_102 ?_
      refine x_iload C 0 rfl dL_areFrames_104 ?_
      refine x_bipush C 6 (by decide) dL_areFrames_106 ?_
      refine x_icmp_ge C 144 (by decide) dL_areFrames_108 (fun hz => absurd hz (by decide)) (fun _ => ?_)
      refine x_iload C 1 rfl dL_areFrames_111 ?_
      refine x_if_eq C 135 (by decide) dL_areFrames_113 (fun hz => absurd hz (by decide)) (fun _ => ?_)
      refine x_aload_n C 5 rfl rfl dL_areFrames_116 ?_
      refine x_iload C 0 rfl dL_areFrames_117 ?_
      refine x_st (st' := [.int (nI 0), .ref (ap 0)]) rfl ?_
      refine x_EV0 [.int (nI 0)] [] C (a_target l g ap ad (frC (frC r 1 F) 1 1) d3 po3 pn3 sv3 mm 0 (by decide) HG3.1 hs3.1) rfl yV_X6_target wML_L_151 0 rfl rfl rfl rfl (nle rfl) (nle rfl) (nle rfl) (nle rfl) (nle rfl) dL_areFrames_119 (fun E w h => h.elim) (fun r0 w0 h0 => ?_)
      obtain ⟨rfl, rfl⟩ := h0
      refine x_st (st' := [.int ((frC (frC r 1 F) 1 1).vt 0)]) rfl ?_
      refine x_aload_n C 5 rfl rfl dL_areFrames_122 ?_
      refine x_iload C 0 rfl dL_areFrames_123 ?_
      refine x_st (st' := [.int (nI 0), .ref (ap 0), .int ((frC (frC r 1 F) 1 1).vt 0)]) rfl ?_
      refine x_EV0 [.int (nI 0)] [.int ((frC (frC r 1 F) 1 1).vt 0)] C (a_aim l g ap ad (frC (frC r 1 F) 1 1) d3 po3 pn3 sv3 mm 0 (by decide) HG3.1 hs3.1 HG3.2.2.1) rfl yV_X6_aim wML_L_71 0 rfl rfl rfl rfl (nle rfl) (nle rfl) (nle rfl) (nle rfl) (nle rfl) dL_areFrames_125 (fun E w h => h.elim) (fun r0 w0 h0 => ?_)
      obtain ⟨rfl, d4, rfl⟩ := h0
      refine x_st (st' := [.int (aimA (frC (frC r 1 F) 1 1) 0), .int ((frC (frC r 1 F) 1 1).vt 0)]) rfl ?_
      refine x_icmp_ne C 135 (by decide) dL_areFrames_128 (fun hz => absurd ((HR.2.2 0 (by decide)).trans (aim_fr _ _ _ _).symm) hz) (fun _ => ?_)
      refine x_iconst C 1 (by decide) dL_areFrames_131 ?_
      refine x_goto C 136 (by decide) dL_areFrames_132 ?_
      refine x_istore C [(6, .int 1), (8, .int 0), (7, .int (fta (frC r 1 F) V)), (5, .int ((fr r 1 F).mv)), (4, .int (wrN r 6)), (0, .ref (ap 0)), (1, .int (nI F)), (2, .int (nI V)), (3, .int 1)] rfl (by decide) dL_areFrames_136 ?_
      refine x_iinc C 1 1 [(8, .int 1), (6, .int 1), (7, .int (fta (frC r 1 F) V)), (5, .int ((fr r 1 F).mv)), (4, .int (wrN r 6)), (0, .ref (ap 0)), (1, .int (nI F)), (2, .int (nI V)), (3, .int 1)] rfl (rfl) rfl (by decide) dL_areFrames_138 ?_
      refine x_goto C 104 (by decide) dL_areFrames_141 ?_
      refine x_iload C 0 rfl dL_areFrames_104 ?_
      refine x_bipush C 6 (by decide) dL_areFrames_106 ?_
      refine x_icmp_ge C 144 (by decide) dL_areFrames_108 (fun hz => absurd hz (by decide)) (fun _ => ?_)
      refine x_iload C 1 rfl dL_areFrames_111 ?_
      refine x_if_eq C 135 (by decide) dL_areFrames_113 (fun hz => absurd hz (by decide)) (fun _ => ?_)
      refine x_aload_n C 5 rfl rfl dL_areFrames_116 ?_
      refine x_iload C 0 rfl dL_areFrames_117 ?_
      refine x_st (st' := [.int (nI 1), .ref (ap 0)]) rfl ?_
      refine x_EV0 [.int (nI 1)] [] C (a_target l g ap ad (frC (frC r 1 F) 1 1) d4 po3 pn3 sv3 mm 1 (by decide) HG3.1 hs3.1) rfl yV_X6_target wML_L_151 0 rfl rfl rfl rfl (nle rfl) (nle rfl) (nle rfl) (nle rfl) (nle rfl) dL_areFrames_119 (fun E w h => h.elim) (fun r0 w0 h0 => ?_)
      obtain ⟨rfl, rfl⟩ := h0
      refine x_st (st' := [.int ((frC (frC r 1 F) 1 1).vt 1)]) rfl ?_
      refine x_aload_n C 5 rfl rfl dL_areFrames_122 ?_
      refine x_iload C 0 rfl dL_areFrames_123 ?_
      refine x_st (st' := [.int (nI 1), .ref (ap 0), .int ((frC (frC r 1 F) 1 1).vt 1)]) rfl ?_
      refine x_EV0 [.int (nI 1)] [.int ((frC (frC r 1 F) 1 1).vt 1)] C (a_aim l g ap ad (frC (frC r 1 F) 1 1) d4 po3 pn3 sv3 mm 1 (by decide) HG3.1 hs3.1 HG3.2.2.1) rfl yV_X6_aim wML_L_71 0 rfl rfl rfl rfl (nle rfl) (nle rfl) (nle rfl) (nle rfl) (nle rfl) dL_areFrames_125 (fun E w h => h.elim) (fun r0 w0 h0 => ?_)
      obtain ⟨rfl, d5, rfl⟩ := h0
      refine x_st (st' := [.int (aimA (frC (frC r 1 F) 1 1) 1), .int ((frC (frC r 1 F) 1 1).vt 1)]) rfl ?_
      refine x_icmp_ne C 135 (by decide) dL_areFrames_128 (fun hz => absurd ((HR.2.2 1 (by decide)).trans (aim_fr _ _ _ _).symm) hz) (fun _ => ?_)
      refine x_iconst C 1 (by decide) dL_areFrames_131 ?_
      refine x_goto C 136 (by decide) dL_areFrames_132 ?_
      refine x_istore C [(6, .int 1), (8, .int 1), (7, .int (fta (frC r 1 F) V)), (5, .int ((fr r 1 F).mv)), (4, .int (wrN r 6)), (0, .ref (ap 0)), (1, .int (nI F)), (2, .int (nI V)), (3, .int 1)] rfl (by decide) dL_areFrames_136 ?_
      refine x_iinc C 1 2 [(8, .int 2), (6, .int 1), (7, .int (fta (frC r 1 F) V)), (5, .int ((fr r 1 F).mv)), (4, .int (wrN r 6)), (0, .ref (ap 0)), (1, .int (nI F)), (2, .int (nI V)), (3, .int 1)] rfl (rfl) rfl (by decide) dL_areFrames_138 ?_
      refine x_goto C 104 (by decide) dL_areFrames_141 ?_
      refine x_iload C 0 rfl dL_areFrames_104 ?_
      refine x_bipush C 6 (by decide) dL_areFrames_106 ?_
      refine x_icmp_ge C 144 (by decide) dL_areFrames_108 (fun hz => absurd hz (by decide)) (fun _ => ?_)
      refine x_iload C 1 rfl dL_areFrames_111 ?_
      refine x_if_eq C 135 (by decide) dL_areFrames_113 (fun hz => absurd hz (by decide)) (fun _ => ?_)
      refine x_aload_n C 5 rfl rfl dL_areFrames_116 ?_
      refine x_iload C 0 rfl dL_areFrames_117 ?_
      refine x_st (st' := [.int (nI 2), .ref (ap 0)]) rfl ?_
      refine x_EV0 [.int (nI 2)] [] C (a_target l g ap ad (frC (frC r 1 F) 1 1) d5 po3 pn3 sv3 mm 2 (by decide) HG3.1 hs3.1) rfl yV_X6_target wML_L_151 0 rfl rfl rfl rfl (nle rfl) (nle rfl) (nle rfl) (nle rfl) (nle rfl) dL_areFrames_119 (fun E w h => h.elim) (fun r0 w0 h0 => ?_)
      obtain ⟨rfl, rfl⟩ := h0
      refine x_st (st' := [.int ((frC (frC r 1 F) 1 1).vt 2)]) rfl ?_
      refine x_aload_n C 5 rfl rfl dL_areFrames_122 ?_
      refine x_iload C 0 rfl dL_areFrames_123 ?_
      refine x_st (st' := [.int (nI 2), .ref (ap 0), .int ((frC (frC r 1 F) 1 1).vt 2)]) rfl ?_
      refine x_EV0 [.int (nI 2)] [.int ((frC (frC r 1 F) 1 1).vt 2)] C (a_aim l g ap ad (frC (frC r 1 F) 1 1) d5 po3 pn3 sv3 mm 2 (by decide) HG3.1 hs3.1 HG3.2.2.1) rfl yV_X6_aim wML_L_71 0 rfl rfl rfl rfl (nle rfl) (nle rfl) (nle rfl) (nle rfl) (nle rfl) dL_areFrames_125 (fun E w h => h.elim) (fun r0 w0 h0 => ?_)
      obtain ⟨rfl, d6, rfl⟩ := h0
      refine x_st (st' := [.int (aimA (frC (frC r 1 F) 1 1) 2), .int ((frC (frC r 1 F) 1 1).vt 2)]) rfl ?_
      refine x_icmp_ne C 135 (by decide) dL_areFrames_128 (fun hz => absurd ((HR.2.2 2 (by decide)).trans (aim_fr _ _ _ _).symm) hz) (fun _ => ?_)
      refine x_iconst C 1 (by decide) dL_areFrames_131 ?_
      refine x_goto C 136 (by decide) dL_areFrames_132 ?_
      refine x_istore C [(6, .int 1), (8, .int 2), (7, .int (fta (frC r 1 F) V)), (5, .int ((fr r 1 F).mv)), (4, .int (wrN r 6)), (0, .ref (ap 0)), (1, .int (nI F)), (2, .int (nI V)), (3, .int 1)] rfl (by decide) dL_areFrames_136 ?_
      refine x_iinc C 1 3 [(8, .int 3), (6, .int 1), (7, .int (fta (frC r 1 F) V)), (5, .int ((fr r 1 F).mv)), (4, .int (wrN r 6)), (0, .ref (ap 0)), (1, .int (nI F)), (2, .int (nI V)), (3, .int 1)] rfl (rfl) rfl (by decide) dL_areFrames_138 ?_
      refine x_goto C 104 (by decide) dL_areFrames_141 ?_
      refine x_iload C 0 rfl dL_areFrames_104 ?_
      refine x_bipush C 6 (by decide) dL_areFrames_106 ?_
      refine x_icmp_ge C 144 (by decide) dL_areFrames_108 (fun hz => absurd hz (by decide)) (fun _ => ?_)
      refine x_iload C 1 rfl dL_areFrames_111 ?_
      refine x_if_eq C 135 (by decide) dL_areFrames_113 (fun hz => absurd hz (by decide)) (fun _ => ?_)
      refine x_aload_n C 5 rfl rfl dL_areFrames_116 ?_
      refine x_iload C 0 rfl dL_areFrames_117 ?_
      refine x_st (st' := [.int (nI 3), .ref (ap 0)]) rfl ?_
      refine x_EV0 [.int (nI 3)] [] C (a_target l g ap ad (frC (frC r 1 F) 1 1) d6 po3 pn3 sv3 mm 3 (by decide) HG3.1 hs3.1) rfl yV_X6_target wML_L_151 0 rfl rfl rfl rfl (nle rfl) (nle rfl) (nle rfl) (nle rfl) (nle rfl) dL_areFrames_119 (fun E w h => h.elim) (fun r0 w0 h0 => ?_)
      obtain ⟨rfl, rfl⟩ := h0
      refine x_st (st' := [.int ((frC (frC r 1 F) 1 1).vt 3)]) rfl ?_
      refine x_aload_n C 5 rfl rfl dL_areFrames_122 ?_
      refine x_iload C 0 rfl dL_areFrames_123 ?_
      refine x_st (st' := [.int (nI 3), .ref (ap 0), .int ((frC (frC r 1 F) 1 1).vt 3)]) rfl ?_
      refine x_EV0 [.int (nI 3)] [.int ((frC (frC r 1 F) 1 1).vt 3)] C (a_aim l g ap ad (frC (frC r 1 F) 1 1) d6 po3 pn3 sv3 mm 3 (by decide) HG3.1 hs3.1 HG3.2.2.1) rfl yV_X6_aim wML_L_71 0 rfl rfl rfl rfl (nle rfl) (nle rfl) (nle rfl) (nle rfl) (nle rfl) dL_areFrames_125 (fun E w h => h.elim) (fun r0 w0 h0 => ?_)
      obtain ⟨rfl, d7, rfl⟩ := h0
      refine x_st (st' := [.int (aimA (frC (frC r 1 F) 1 1) 3), .int ((frC (frC r 1 F) 1 1).vt 3)]) rfl ?_
      refine x_icmp_ne C 135 (by decide) dL_areFrames_128 (fun hz => absurd ((HR.2.2 3 (by decide)).trans (aim_fr _ _ _ _).symm) hz) (fun _ => ?_)
      refine x_iconst C 1 (by decide) dL_areFrames_131 ?_
      refine x_goto C 136 (by decide) dL_areFrames_132 ?_
      refine x_istore C [(6, .int 1), (8, .int 3), (7, .int (fta (frC r 1 F) V)), (5, .int ((fr r 1 F).mv)), (4, .int (wrN r 6)), (0, .ref (ap 0)), (1, .int (nI F)), (2, .int (nI V)), (3, .int 1)] rfl (by decide) dL_areFrames_136 ?_
      refine x_iinc C 1 4 [(8, .int 4), (6, .int 1), (7, .int (fta (frC r 1 F) V)), (5, .int ((fr r 1 F).mv)), (4, .int (wrN r 6)), (0, .ref (ap 0)), (1, .int (nI F)), (2, .int (nI V)), (3, .int 1)] rfl (rfl) rfl (by decide) dL_areFrames_138 ?_
      refine x_goto C 104 (by decide) dL_areFrames_141 ?_
      refine x_iload C 0 rfl dL_areFrames_104 ?_
      refine x_bipush C 6 (by decide) dL_areFrames_106 ?_
      refine x_icmp_ge C 144 (by decide) dL_areFrames_108 (fun hz => absurd hz (by decide)) (fun _ => ?_)
      refine x_iload C 1 rfl dL_areFrames_111 ?_
      refine x_if_eq C 135 (by decide) dL_areFrames_113 (fun hz => absurd hz (by decide)) (fun _ => ?_)
      refine x_aload_n C 5 rfl rfl dL_areFrames_116 ?_
      refine x_iload C 0 rfl dL_areFrames_117 ?_
      refine x_st (st' := [.int (nI 4), .ref (ap 0)]) rfl ?_
      refine x_EV0 [.int (nI 4)] [] C (a_target l g ap ad (frC (frC r 1 F) 1 1) d7 po3 pn3 sv3 mm 4 (by decide) HG3.1 hs3.1) rfl yV_X6_target wML_L_151 0 rfl rfl rfl rfl (nle rfl) (nle rfl) (nle rfl) (nle rfl) (nle rfl) dL_areFrames_119 (fun E w h => h.elim) (fun r0 w0 h0 => ?_)
      obtain ⟨rfl, rfl⟩ := h0
      refine x_st (st' := [.int ((frC (frC r 1 F) 1 1).vt 4)]) rfl ?_
      refine x_aload_n C 5 rfl rfl dL_areFrames_122 ?_
      refine x_iload C 0 rfl dL_areFrames_123 ?_
      refine x_st (st' := [.int (nI 4), .ref (ap 0), .int ((frC (frC r 1 F) 1 1).vt 4)]) rfl ?_
      refine x_EV0 [.int (nI 4)] [.int ((frC (frC r 1 F) 1 1).vt 4)] C (a_aim l g ap ad (frC (frC r 1 F) 1 1) d7 po3 pn3 sv3 mm 4 (by decide) HG3.1 hs3.1 HG3.2.2.1) rfl yV_X6_aim wML_L_71 0 rfl rfl rfl rfl (nle rfl) (nle rfl) (nle rfl) (nle rfl) (nle rfl) dL_areFrames_125 (fun E w h => h.elim) (fun r0 w0 h0 => ?_)
      obtain ⟨rfl, d8, rfl⟩ := h0
      refine x_st (st' := [.int (aimA (frC (frC r 1 F) 1 1) 4), .int ((frC (frC r 1 F) 1 1).vt 4)]) rfl ?_
      refine x_icmp_ne C 135 (by decide) dL_areFrames_128 (fun hz => absurd ((HR.2.2 4 (by decide)).trans (aim_fr _ _ _ _).symm) hz) (fun _ => ?_)
      refine x_iconst C 1 (by decide) dL_areFrames_131 ?_
      refine x_goto C 136 (by decide) dL_areFrames_132 ?_
      refine x_istore C [(6, .int 1), (8, .int 4), (7, .int (fta (frC r 1 F) V)), (5, .int ((fr r 1 F).mv)), (4, .int (wrN r 6)), (0, .ref (ap 0)), (1, .int (nI F)), (2, .int (nI V)), (3, .int 1)] rfl (by decide) dL_areFrames_136 ?_
      refine x_iinc C 1 5 [(8, .int 5), (6, .int 1), (7, .int (fta (frC r 1 F) V)), (5, .int ((fr r 1 F).mv)), (4, .int (wrN r 6)), (0, .ref (ap 0)), (1, .int (nI F)), (2, .int (nI V)), (3, .int 1)] rfl (rfl) rfl (by decide) dL_areFrames_138 ?_
      refine x_goto C 104 (by decide) dL_areFrames_141 ?_
      refine x_iload C 0 rfl dL_areFrames_104 ?_
      refine x_bipush C 6 (by decide) dL_areFrames_106 ?_
      refine x_icmp_ge C 144 (by decide) dL_areFrames_108 (fun hz => absurd hz (by decide)) (fun _ => ?_)
      refine x_iload C 1 rfl dL_areFrames_111 ?_
      refine x_if_eq C 135 (by decide) dL_areFrames_113 (fun hz => absurd hz (by decide)) (fun _ => ?_)
      refine x_aload_n C 5 rfl rfl dL_areFrames_116 ?_
      refine x_iload C 0 rfl dL_areFrames_117 ?_
      refine x_st (st' := [.int (nI 5), .ref (ap 0)]) rfl ?_
      refine x_EV0 [.int (nI 5)] [] C (a_target l g ap ad (frC (frC r 1 F) 1 1) d8 po3 pn3 sv3 mm 5 (by decide) HG3.1 hs3.1) rfl yV_X6_target wML_L_151 0 rfl rfl rfl rfl (nle rfl) (nle rfl) (nle rfl) (nle rfl) (nle rfl) dL_areFrames_119 (fun E w h => h.elim) (fun r0 w0 h0 => ?_)
      obtain ⟨rfl, rfl⟩ := h0
      refine x_st (st' := [.int ((frC (frC r 1 F) 1 1).vt 5)]) rfl ?_
      refine x_aload_n C 5 rfl rfl dL_areFrames_122 ?_
      refine x_iload C 0 rfl dL_areFrames_123 ?_
      refine x_st (st' := [.int (nI 5), .ref (ap 0), .int ((frC (frC r 1 F) 1 1).vt 5)]) rfl ?_
      refine x_EV0 [.int (nI 5)] [.int ((frC (frC r 1 F) 1 1).vt 5)] C (a_aim l g ap ad (frC (frC r 1 F) 1 1) d8 po3 pn3 sv3 mm 5 (by decide) HG3.1 hs3.1 HG3.2.2.1) rfl yV_X6_aim wML_L_71 0 rfl rfl rfl rfl (nle rfl) (nle rfl) (nle rfl) (nle rfl) (nle rfl) dL_areFrames_125 (fun E w h => h.elim) (fun r0 w0 h0 => ?_)
      obtain ⟨rfl, d9, rfl⟩ := h0
      refine x_st (st' := [.int (aimA (frC (frC r 1 F) 1 1) 5), .int ((frC (frC r 1 F) 1 1).vt 5)]) rfl ?_
      refine x_icmp_ne C 135 (by decide) dL_areFrames_128 (fun hz => absurd ((HR.2.2 5 (by decide)).trans (aim_fr _ _ _ _).symm) hz) (fun _ => ?_)
      refine x_iconst C 1 (by decide) dL_areFrames_131 ?_
      refine x_goto C 136 (by decide) dL_areFrames_132 ?_
      refine x_istore C [(6, .int 1), (8, .int 5), (7, .int (fta (frC r 1 F) V)), (5, .int ((fr r 1 F).mv)), (4, .int (wrN r 6)), (0, .ref (ap 0)), (1, .int (nI F)), (2, .int (nI V)), (3, .int 1)] rfl (by decide) dL_areFrames_136 ?_
      refine x_iinc C 1 6 [(8, .int 6), (6, .int 1), (7, .int (fta (frC r 1 F) V)), (5, .int ((fr r 1 F).mv)), (4, .int (wrN r 6)), (0, .ref (ap 0)), (1, .int (nI F)), (2, .int (nI V)), (3, .int 1)] rfl (rfl) rfl (by decide) dL_areFrames_138 ?_
      refine x_goto C 104 (by decide) dL_areFrames_141 ?_
      refine x_iload C 0 rfl dL_areFrames_104 ?_
      refine x_bipush C 6 (by decide) dL_areFrames_106 ?_
      refine x_icmp_ge C 144 (by decide) dL_areFrames_108 (fun _ => ?_) (fun hz => absurd (by decide) hz)
      refine x_aload_n C 5 rfl rfl dL_areFrames_144 ?_
      refine x_iload_n C 7 rfl rfl dL_areFrames_145 ?_
      refine x_EV0 [.int (nI V)] [] C (a_framesToAim l g ap ad (frC (frC r 1 F) 1 1) d9 po3 pn3 sv3 mm V hV HG3.1 hs3.1 HG3.2.2.1) rfl yV_X6_framesToAim wML_L_167 0 rfl rfl rfl rfl (nle rfl) (nle rfl) (nle rfl) (nle rfl) (nle rfl) dL_areFrames_146 (fun E w h => h.elim) (fun r0 w0 h0 => ?_)
      obtain ⟨rfl, d10, rfl⟩ := h0
      refine x_st (st' := [.int (fta (frC (frC r 1 F) 1 1) V)]) rfl ?_
      obtain ⟨q, hq300, hq, -, -⟩ := fta_ok HG3.2.2.2.1 HG3.2.2.2.2.1 hV
      refine x_st (st' := [.int (nI q)]) (by rw [hq]) ?_
      refine x_istore C [(7, .int (nI q)), (8, .int 6), (6, .int 1), (5, .int ((fr r 1 F).mv)), (4, .int (wrN r 6)), (0, .ref (ap 0)), (1, .int (nI F)), (2, .int (nI V)), (3, .int 1)] rfl (by decide) dL_areFrames_149 ?_
      refine x_iload C 2 rfl dL_areFrames_151 ?_
      refine x_if_eq C 247 (by decide) dL_areFrames_153 (fun hz => absurd hz (by decide)) (fun _ => ?_)
      refine x_iload C 0 rfl dL_areFrames_156 ?_
      refine x_if_le C 247 (by decide) dL_areFrames_158 (fun h2 => ?_) (fun h2 => ?_)
      · refine x_iload C 2 rfl dL_areFrames_247 ?_
        exact x_zret C hr rfl (nle rfl) (nle rfl) dL_areFrames_249 ⟨rfl, (frC (frC r 1 F) 1 1), d10, po3, pn3, sv3, rfl, HG3.up (by omega), hs3.1⟩
      · refine x_iload C 0 rfl dL_areFrames_161 ?_
        refine x_bipush C 50 (by decide) dL_areFrames_163 ?_
        refine x_icmp_gt C 247 (by decide) dL_areFrames_165 (fun h3 => ?_) (fun h3 => ?_)
        · refine x_iload C 2 rfl dL_areFrames_247 ?_
          exact x_zret C hr rfl (nle rfl) (nle rfl) dL_areFrames_249 ⟨rfl, (frC (frC r 1 F) 1 1), d10, po3, pn3, sv3, rfl, HG3.up (by omega), hs3.1⟩
        · refine x_aload_n C 5 rfl rfl dL_areFrames_168 ?_
          refine x_EV0 [] [] C (a_battery l g ap ad (frC (frC r 1 F) 1 1) d10 po3 pn3 sv3 mm  HG3.1 hs3.1) rfl yV_X6_battery wML_L_96 0 rfl rfl rfl rfl (nle rfl) (nle rfl) (nle rfl) (nle rfl) (nle rfl) dL_areFrames_169 (fun E w h => h.elim) (fun r0 w0 h0 => ?_)
          obtain ⟨rfl, rfl⟩ := h0
          refine x_st (st' := [.int ((frC (frC r 1 F) 1 1).jb)]) rfl ?_
          refine x_sipush C 1801 (by decide) dL_areFrames_172 ?_
          refine x_iload C 0 rfl dL_areFrames_175 ?_
          refine x_imulN C 1801 q rfl rfl dL_areFrames_177 ?_
          refine x_icmp_lt C 247 (by decide) dL_areFrames_178 (fun h4 => ?_) (fun h4 => ?_)
          · refine x_iload C 2 rfl dL_areFrames_247 ?_
            exact x_zret C hr rfl (nle rfl) (nle rfl) dL_areFrames_249 ⟨rfl, (frC (frC r 1 F) 1 1), d10, po3, pn3, sv3, rfl, HG3.up (by omega), hs3.1⟩
          · have hq0 : 0 < q := q_pos h2
            have hq50 : q ≤ 50 := q_50 hq300 h3
            have hqb : 1801 * (q : Int) ≤ (frC (frC r 1 F) 1 1).jb.toInt := q_b hq50 h4
            obtain ⟨hgo1, hgo2, hgo3⟩ := fta_goC HG3 (by omega) hV hq hq0 hq50 hqb
            refine x_aload_n C 5 rfl rfl dL_areFrames_181 ?_
            refine x_iload C 0 rfl dL_areFrames_182 ?_
            refine x_EV0 [.int (nI q)] [] C (a_send l g ap ad (frC (frC r 1 F) 1 1) d10 po3 pn3 sv3 mm q (by omega) HG3.1 hs3.1 HG3.2.2.1) rfl yV_X6_send wML_L_161 0 rfl rfl rfl rfl (nle rfl) (nle rfl) (nle rfl) (nle rfl) (nle rfl) dL_areFrames_184 (fun E w h => h.elim) (fun r0 w0 h0 => ?_)
            obtain ⟨rfl, d11, po11, pn11, sv11, rfl, hs11⟩ := h0
            have HG11 : Gd (B + 1 + 1 + 1) (frC (frC (frC r 1 F) 1 1) 1 q) := frC_ok (m := 1) HG3 (by omega) 1 (by omega) (by omega)
            refine x_st (st' := [.int ((fr (frC (frC r 1 F) 1 1) 1 q).mv)]) rfl ?_
            refine x_if_le C 244 (by decide) dL_areFrames_187 (fun hz => absurd hz (fun q => by have q2 := ti_le.mp q; have z0 : (0 : Int32).toInt = 0 := rfl; omega)) (fun _ => ?_)
            refine x_aload_n C 5 rfl rfl dL_areFrames_190 ?_
            refine x_iload_n C 7 rfl rfl dL_areFrames_191 ?_
            refine x_EV0 [.int (nI V)] [] C (a_servoPosition l g ap ad (frC (frC (frC r 1 F) 1 1) 1 q) d11 po11 pn11 sv11 mm V hV HG11.1 hs11.1) rfl yV_X6_servoPosition wML_L_148 0 rfl rfl rfl rfl (nle rfl) (nle rfl) (nle rfl) (nle rfl) (nle rfl) dL_areFrames_192 (fun E w h => h.elim) (fun r0 w0 h0 => ?_)
            obtain ⟨rfl, rfl⟩ := h0
            refine x_st (st' := [.int ((frC (frC (frC r 1 F) 1 1) 1 q).va V)]) rfl ?_
            refine x_aload_n C 5 rfl rfl dL_areFrames_195 ?_
            refine x_iload_n C 7 rfl rfl dL_areFrames_196 ?_
            refine x_EV0 [.int (nI V)] [.int ((frC (frC (frC r 1 F) 1 1) 1 q).va V)] C (a_aim l g ap ad (frC (frC (frC r 1 F) 1 1) 1 q) d11 po11 pn11 sv11 mm V hV HG11.1 hs11.1 HG11.2.2.1) rfl yV_X6_aim wML_L_71 0 rfl rfl rfl rfl (nle rfl) (nle rfl) (nle rfl) (nle rfl) (nle rfl) dL_areFrames_197 (fun E w h => h.elim) (fun r0 w0 h0 => ?_)
            obtain ⟨rfl, d12, rfl⟩ := h0
            refine x_st (st' := [.int (aimA (frC (frC (frC r 1 F) 1 1) 1 q) V), .int ((frC (frC (frC r 1 F) 1 1) 1 q).va V)]) rfl ?_
            refine x_icmp_ne C 244 (by decide) dL_areFrames_200 (fun hz => absurd hgo1 hz) (fun _ => ?_)
            refine x_aload_n C 5 rfl rfl dL_areFrames_203 ?_
            refine x_EV0 [] [] C (a_undo l g ap ad (frC (frC (frC r 1 F) 1 1) 1 q) (frC (frC r 1 F) 1 1) d12 po11 pn11 sv11 mm HG11.1 hs11.1 hs11.2.1) rfl yV_X6_undo wML_L_173 0 rfl rfl rfl rfl (nle rfl) (nle rfl) (nle rfl) (nle rfl) (nle rfl) dL_areFrames_204 (fun E w h => h.elim) (fun r0 w0 h0 => ?_)
            obtain ⟨rfl, rfl, hu13⟩ := h0
            refine x_st (st' := [.int (pn11 - 1)]) rfl ?_
            refine x_if_lt C 244 (by decide) dL_areFrames_207 (fun hz => absurd hz hu13.2) (fun _ => ?_)
            refine x_iload C 0 rfl dL_areFrames_210 ?_
            refine x_iconst C 1 (by decide) dL_areFrames_212 ?_
            refine x_icmp_eq C 240 (by decide) dL_areFrames_213 (fun h5 => ?_) (fun h5 => ?_)
            · refine x_iconst C 1 (by decide) dL_areFrames_240 ?_
              refine x_goto C 245 (by decide) dL_areFrames_241 ?_
              refine x_istore C [(6, .int 1), (7, .int (nI q)), (8, .int 6), (5, .int ((fr r 1 F).mv)), (4, .int (wrN r 6)), (0, .ref (ap 0)), (1, .int (nI F)), (2, .int (nI V)), (3, .int 1)] rfl (by decide) dL_areFrames_245 ?_
              refine x_iload C 0 rfl dL_areFrames_247 ?_
              exact x_zret C hr rfl (nle rfl) (nle rfl) dL_areFrames_249 ⟨rfl, (frC (frC r 1 F) 1 1), d12, po11, (pn11 - 1), sv11, rfl, HG3.up (by omega), hu13.1⟩
            · have hq1 : ¬ q = 1 := fun y => h5 (by rw [y]; rfl)
              refine x_aload_n C 5 rfl rfl dL_areFrames_216 ?_
              refine x_iload C 0 rfl dL_areFrames_217 ?_
              refine x_iconst C 1 (by decide) dL_areFrames_219 ?_
              refine x_isubN C q 1 rfl rfl (by omega) dL_areFrames_220 ?_
              refine x_EV0 [.int (nI (q - 1))] [] C (a_send l g ap ad (frC (frC r 1 F) 1 1) d12 po11 (pn11 - 1) sv11 mm (q - 1) (by omega) HG3.1 hu13.1 HG3.2.2.1) rfl yV_X6_send wML_L_161 0 rfl rfl rfl rfl (nle rfl) (nle rfl) (nle rfl) (nle rfl) (nle rfl) dL_areFrames_221 (fun E w h => h.elim) (fun r0 w0 h0 => ?_)
              obtain ⟨rfl, d14, po14, pn14, sv14, rfl, hs14⟩ := h0
              have HG14 : Gd (B + 1 + 1 + 1) (frC (frC (frC r 1 F) 1 1) 1 (q - 1)) := frC_ok (m := 1) HG3 (by omega) 1 (by omega) (by omega)
              refine x_st (st' := [.int ((fr (frC (frC r 1 F) 1 1) 1 (q - 1)).mv)]) rfl ?_
              refine x_if_lt C 244 (by decide) dL_areFrames_224 (fun hz => absurd hz (mv_nn HG3 (by omega) 1 (by omega))) (fun _ => ?_)
              refine x_aload_n C 5 rfl rfl dL_areFrames_227 ?_
              refine x_iload_n C 7 rfl rfl dL_areFrames_228 ?_
              refine x_EV0 [.int (nI V)] [] C (a_servoPosition l g ap ad (frC (frC (frC r 1 F) 1 1) 1 (q - 1)) d14 po14 pn14 sv14 mm V hV HG14.1 hs14.1) rfl yV_X6_servoPosition wML_L_148 0 rfl rfl rfl rfl (nle rfl) (nle rfl) (nle rfl) (nle rfl) (nle rfl) dL_areFrames_229 (fun E w h => h.elim) (fun r0 w0 h0 => ?_)
              obtain ⟨rfl, rfl⟩ := h0
              refine x_st (st' := [.int ((frC (frC (frC r 1 F) 1 1) 1 (q - 1)).va V)]) rfl ?_
              refine x_aload_n C 5 rfl rfl dL_areFrames_232 ?_
              refine x_iload_n C 7 rfl rfl dL_areFrames_233 ?_
              refine x_EV0 [.int (nI V)] [.int ((frC (frC (frC r 1 F) 1 1) 1 (q - 1)).va V)] C (a_aim l g ap ad (frC (frC (frC r 1 F) 1 1) 1 (q - 1)) d14 po14 pn14 sv14 mm V hV HG14.1 hs14.1 HG14.2.2.1) rfl yV_X6_aim wML_L_71 0 rfl rfl rfl rfl (nle rfl) (nle rfl) (nle rfl) (nle rfl) (nle rfl) dL_areFrames_234 (fun E w h => h.elim) (fun r0 w0 h0 => ?_)
              obtain ⟨rfl, d15, rfl⟩ := h0
              refine x_st (st' := [.int (aimA (frC (frC (frC r 1 F) 1 1) 1 (q - 1)) V), .int ((frC (frC (frC r 1 F) 1 1) 1 (q - 1)).va V)]) rfl ?_
              refine x_icmp_eq C 244 (by decide) dL_areFrames_237 (fun hz => absurd hz (hgo3 (by omega))) (fun _ => ?_)
              refine x_iconst C 1 (by decide) dL_areFrames_240 ?_
              refine x_goto C 245 (by decide) dL_areFrames_241 ?_
              refine x_istore C [(6, .int 1), (7, .int (nI q)), (8, .int 6), (5, .int ((fr r 1 F).mv)), (4, .int (wrN r 6)), (0, .ref (ap 0)), (1, .int (nI F)), (2, .int (nI V)), (3, .int 1)] rfl (by decide) dL_areFrames_245 ?_
              refine x_iload C 0 rfl dL_areFrames_247 ?_
              exact x_zret C hr rfl (nle rfl) (nle rfl) dL_areFrames_249 ⟨rfl, (frC (frC (frC r 1 F) 1 1) 1 (q - 1)), d15, po14, pn14, sv14, rfl, HG14.up (by omega), hs14.1⟩
