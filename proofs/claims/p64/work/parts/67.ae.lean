/-! areElevons -/
theorem xv_ne {r : xR} (hM : gM r) (h : 0 < xN r) : r.xv 0 = nI (r.xv 0).toNatClampNeg ∧ (r.xv 0).toNatClampNeg < 6 := (hM 0 h).1
theorem xn_le0 {r : xR} (hb : rB r) (h : r.xn ≤ 0) : r.xn = 0 := by
  rcases Nat.eq_zero_or_pos (xN r) with y | y
  · rw [xn_ne hb, y]; rfl
  · rw [xn_ne hb] at h
    exact absurd h (nI_nle y (by have := xn_12 hb; omega))
theorem xn_gt0 {r : xR} (hb : rB r) (h : ¬ r.xn ≤ 0) : 0 < xN r := by
  rcases Nat.eq_zero_or_pos (xN r) with y | y
  · exact absurd (by rw [xn_ne hb, y]; decide) h
  · exact y
theorem cl_go {B : Int} {r : xR} (H : Gd B r) (h : 0 < xN r) : ¬ r.xn - (clC r (r.xv 0).toNatClampNeg).xn ≤ 0 ∧ xN (clC r (r.xv 0).toNatClampNeg) < xN r := by
  obtain ⟨h1, h2⟩ := (g_cl H (r.xv 0).toNatClampNeg).2.2.2 h (xv_ne H.2.2.1 h).1
  exact ⟨fun q => by have q2 := ti_le.mp q; have q3 := ti_lt.mp h1; omega, h2⟩
set_option maxRecDepth 100000 in
set_option maxHeartbeats 2000000 in
theorem el_lp {p : Program} {l : Launch} {e : Env} {s : State} {m : MethodId} {args : Array Value} {below : List Frame} {meth : Method} {c : Code} {Q : State → Prop} {nm : String} {g : xGt} {A : Nat → Prop} {ap ad : Nat → Nat} {mm : xPl} {B : Int} (C : xC p l s m args meth c cL_areElevons 9 RL nm g.1 (xT g) A) {lf rt : Nat} {hh x : Int32} (K : ∀ (r : xR) (d : Nat → Int32) (po pn : Int32) (sv : xPl), Gd B r → r.xn = 0 → pk po pn sv → xW p l e (xRm 8 200 600 4500) s m args below meth c g.1 A 9 (400) (2700) Q (wB g ap ad r d po pn sv mm) [(5, .int 1), (4, .int hh), (3, .int (nI rt)), (2, .int (nI lf)), (0, .ref (ap 0)), (1, .int x)] 88 []) : ∀ n, n ≤ 12 → ∀ (r : xR) (d : Nat → Int32) (po pn : Int32) (sv : xPl), Gd B r → xN r ≤ n → pk po pn sv → xW p l e (xRm 8 200 600 4500) s m args below meth c g.1 A 9 (30 + 30 * (12 - n)) (200 + 200 * (12 - n)) Q (wB g ap ad r d po pn sv mm) [(5, .int 1), (4, .int hh), (3, .int (nI rt)), (2, .int (nI lf)), (0, .ref (ap 0)), (1, .int x)] 54 [] := by
  intro n
  induction n with
  | zero =>
    intro hn r d po pn sv H hx Hp
    have ex : r.xn = 0 := by rw [xn_ne H.1.1, show xN r = 0 by omega]; rfl
    refine x_aload_n C 4 rfl rfl dL_areElevons_54 ?_
    refine x_EV0 [] [] C (a_mixes l g ap ad r d po pn sv mm  H.1 Hp) rfl yV_X6_mixes wML_L_53 0 rfl rfl rfl rfl (nle rfl) (nle rfl) (nle rfl) (show 30 + 30 * (12 - 0) + 0 ≤ 600 by omega) (show 200 + 200 * (12 - 0) + 0 ≤ 4500 by omega) dL_areElevons_55 (fun E w h => h.elim) (fun r0 w0 h0 => ?_)
    obtain ⟨rfl, rfl⟩ := h0
    refine x_st (st' := [.int r.xn]) rfl ?_
    refine x_if_le C 88 (by decide) dL_areElevons_58 (fun _ => ?_) (fun hz => absurd (by rw [ex]; exact Int32.le_refl _) hz)
    refine x_wid (k := 400) (n := 2700) (by omega) (by omega) ?_
    exact K r d po pn sv H ex Hp
  | succ n ih =>
    intro hn r d po pn sv H hx Hp
    by_cases q0 : r.xn ≤ 0
    · refine x_aload_n C 4 rfl rfl dL_areElevons_54 ?_
      refine x_EV0 [] [] C (a_mixes l g ap ad r d po pn sv mm  H.1 Hp) rfl yV_X6_mixes wML_L_53 0 rfl rfl rfl rfl (nle rfl) (nle rfl) (nle rfl) (show 30 + 30 * (12 - (n + 1)) + 0 ≤ 600 by omega) (show 200 + 200 * (12 - (n + 1)) + 0 ≤ 4500 by omega) dL_areElevons_55 (fun E w h => h.elim) (fun r0 w0 h0 => ?_)
      obtain ⟨rfl, rfl⟩ := h0
      refine x_st (st' := [.int r.xn]) rfl ?_
      refine x_if_le C 88 (by decide) dL_areElevons_58 (fun _ => ?_) (fun hz => absurd q0 hz)
      refine x_wid (k := 400) (n := 2700) (by omega) (by omega) ?_
      exact K r d po pn sv H (xn_le0 H.1.1 q0) Hp
    · have hx0 := xn_gt0 H.1.1 q0
      refine x_aload_n C 4 rfl rfl dL_areElevons_54 ?_
      refine x_EV0 [] [] C (a_mixes l g ap ad r d po pn sv mm  H.1 Hp) rfl yV_X6_mixes wML_L_53 0 rfl rfl rfl rfl (nle rfl) (nle rfl) (nle rfl) (show 30 + 30 * (12 - (n + 1)) + 0 ≤ 600 by omega) (show 200 + 200 * (12 - (n + 1)) + 0 ≤ 4500 by omega) dL_areElevons_55 (fun E w h => h.elim) (fun r0 w0 h0 => ?_)
      obtain ⟨rfl, rfl⟩ := h0
      refine x_st (st' := [.int r.xn]) rfl ?_
      refine x_if_le C 88 (by decide) dL_areElevons_58 (fun hz => absurd hz q0) (fun _ => ?_)
      refine x_iload C 0 rfl dL_areElevons_61 ?_
      refine x_if_eq C 88 (by decide) dL_areElevons_63 (fun hz => absurd hz (by decide)) (fun _ => ?_)
      refine x_aload_n C 4 rfl rfl dL_areElevons_66 ?_
      refine x_aload_n C 4 rfl rfl dL_areElevons_67 ?_
      refine x_iconst C 0 (by decide) dL_areElevons_68 ?_
      refine x_st (st' := [.int (nI 0), .ref (ap 0), .ref (ap 0)]) rfl ?_
      refine x_EV0 [.int (nI 0)] [.ref (ap 0)] C (a_mixServo l g ap ad r d po pn sv mm 0 hx0 H.1 Hp) rfl yV_X6_mixServo wML_L_127 0 rfl rfl rfl rfl (nle rfl) (nle rfl) (nle rfl) (show 30 + 30 * (12 - (n + 1)) + 0 + 1 ≤ 600 by omega) (show 200 + 200 * (12 - (n + 1)) + 0 + 6 ≤ 4500 by omega) dL_areElevons_69 (fun E w h => h.elim) (fun r0 w0 h0 => ?_)
      obtain ⟨rfl, rfl⟩ := h0
      refine x_st (st' := [.int (r.xv 0), .ref (ap 0)]) rfl ?_
      refine x_st (st' := [.int (nI ((r.xv 0).toNatClampNeg)), .ref (ap 0)]) (by rw [← (xv_ne H.2.2.1 hx0).1]) ?_
      refine x_EV0 [.int (nI ((r.xv 0).toNatClampNeg))] [] C (a_clearMixes l g ap ad r d po pn sv mm ((r.xv 0).toNatClampNeg) (xv_ne H.2.2.1 hx0).2 H.1 Hp) rfl yV_X6_clearMixes wML_L_57 0 rfl rfl rfl rfl (nle rfl) (nle rfl) (nle rfl) (show 30 + 30 * (12 - (n + 1)) + 0 + 1 + 26 ≤ 600 by omega) (show 200 + 200 * (12 - (n + 1)) + 0 + 6 + 192 ≤ 4500 by omega) dL_areElevons_72 (fun E w h => h.elim) (fun r0 w0 h0 => ?_)
      obtain ⟨rfl, d1, po1, pn1, sv1, rfl, hs1⟩ := h0
      have HG1 : Gd (B) (clC r ((r.xv 0).toNatClampNeg)) := (g_cl H _).1
      refine x_st (st' := [.int (r.xn - (clC r ((r.xv 0).toNatClampNeg)).xn)]) rfl ?_
      refine x_if_le C 82 (by decide) dL_areElevons_75 (fun hz => absurd hz (cl_go H hx0).1) (fun _ => ?_)
      refine x_iconst C 1 (by decide) dL_areElevons_78 ?_
      refine x_goto C 83 (by decide) dL_areElevons_79 ?_
      refine x_istore C [(5, .int 1), (4, .int hh), (3, .int (nI rt)), (2, .int (nI lf)), (0, .ref (ap 0)), (1, .int x)] rfl (by decide) dL_areElevons_83 ?_
      refine x_goto C 54 (by decide) dL_areElevons_85 ?_
      refine x_wid (k := 30 + 30 * (12 - n)) (n := 200 + 200 * (12 - n)) (by omega) (by omega) ?_
      exact ih (by omega) (clC r ((r.xv 0).toNatClampNeg)) d1 po1 pn1 sv1 HG1 (by have := (cl_go H hx0).2; omega) hs1.1
set_option maxRecDepth 100000 in
set_option maxHeartbeats 2000000 in
theorem k_L_areElevons (l : Launch) (g : xGt) (ap ad : Nat → Nat) (r : xR) (d : Nat → Int32) (po pn : Int32) (sv mm : xPl) (B : Int) (H : Gd B r) (Hp : pk po pn sv) (Hm : mk2 mm) (x : Int32) : xM l g.1 (xT g) yL_areElevons (ws_ yL_areElevons cL_areElevons 9 (some .boolean)) (xRm 8 200 600 4500) 600 4500 [.ref (ap 0), .int x] (wB g ap ad r d po pn sv mm) (fun r9 w9 => r9 = some (.int 1) ∧ ∃ d1 po1 pn1 sv1 mm1, w9 = wB g ap ad r d1 po1 pn1 sv1 mm1 ∧ pk po1 pn1 sv1 ∧ mk2 mm1 ∧ mm1 0 = mm 0) (fun _ _ => False) := by
  refine x_start (own := RL) (nm := "areElevons") rfl rfl (by decide +kernel) rfl (nle rfl) (fun p e σ m args below meth c A C hno hr => ?_)
  refine x_lve (lv' := [(0, .ref (ap 0)), (1, .int x)]) rfl ?_
  have hA : (upN x 6) < 6 := upN_lt _ (by decide)
  have hU : (upN (x >>> (3 &&& 31)) 5) < 5 := upN_lt _ (by decide)
  have hR : (((upN x 6) + 1 + (upN (x >>> (3 &&& 31)) 5)) % 6) < 6 := Nat.mod_lt _ (by decide)
  have hAR : ¬ (upN x 6) = (((upN x 6) + 1 + (upN (x >>> (3 &&& 31)) 5)) % 6) := by omega
  have hh : bt 1 150 (nI (1 + (upN (x >>> (5 &&& 31)) 150))) := bt_nI (by have := upN_lt (x >>> (5 &&& 31)) (n := 150) (by decide); omega) (by have := upN_lt (x >>> (5 &&& 31)) (n := 150) (by decide); omega) (by have := upN_lt (x >>> (5 &&& 31)) (n := 150) (by decide); omega)
  refine x_iload_n C 1 rfl rfl dL_areElevons_0 ?_
  refine x_bipush C 6 (by decide) dL_areElevons_1 ?_
  refine x_st (st' := [.int (nI 6), .int x]) rfl ?_
  refine x_FS (w1 := ([] : va_W)) (wc := ([] : va_W)) (w2 := (wB g ap ad r d po pn sv mm)) [.int x, .int (nI 6)] [] (wB g ap ad r d po pn sv mm) C (k_L_up l g x 6 (by decide) (by decide)) rfl yS_L_up wML_L_15 rfl rfl rfl (nle rfl) (nle rfl) (nle rfl) (nle rfl) (nle rfl) dL_areElevons_3 ?_
  refine x_istore_n C [(2, .int (nI (upN x 6))), (0, .ref (ap 0)), (1, .int x)] rfl rfl (by decide) dL_areElevons_6 ?_
  refine x_iload_n C 0 rfl rfl dL_areElevons_7 ?_
  refine x_iconst C 1 (by decide) dL_areElevons_8 ?_
  refine x_iaddN C (upN x 6) 1 rfl rfl dL_areElevons_9 ?_
  refine x_iload_n C 2 rfl rfl dL_areElevons_10 ?_
  refine x_iconst C 3 (by decide) dL_areElevons_11 ?_
  refine x_ishr C dL_areElevons_12 ?_
  refine x_iconst C 5 (by decide) dL_areElevons_13 ?_
  refine x_st (st' := [.int (nI 5), .int (x >>> (3 &&& 31)), .int (nI ((upN x 6) + 1))]) rfl ?_
  refine x_FS (w1 := ([] : va_W)) (wc := ([] : va_W)) (w2 := (wB g ap ad r d po pn sv mm)) [.int (x >>> (3 &&& 31)), .int (nI 5)] [.int (nI ((upN x 6) + 1))] (wB g ap ad r d po pn sv mm) C (k_L_up l g (x >>> (3 &&& 31)) 5 (by decide) (by decide)) rfl yS_L_up wML_L_15 rfl rfl rfl (nle rfl) (nle rfl) (nle rfl) (nle rfl) (nle rfl) dL_areElevons_14 ?_
  refine x_iaddN C ((upN x 6) + 1) (upN (x >>> (3 &&& 31)) 5) rfl rfl dL_areElevons_17 ?_
  refine x_bipush C 6 (by decide) dL_areElevons_18 ?_
  refine x_irem C (by decide) dL_areElevons_20 ?_
  refine x_st (st' := [.int (nI (((upN x 6) + 1 + (upN (x >>> (3 &&& 31)) 5)) % 6))]) (by rw [show nI ((upN x 6) + 1 + (upN (x >>> (3 &&& 31)) 5)) - nI ((upN x 6) + 1 + (upN (x >>> (3 &&& 31)) 5)) / (6 : Int32) * (6 : Int32) = nI (((upN x 6) + 1 + (upN (x >>> (3 &&& 31)) 5)) % 6) from pk_rem (by omega) (by decide) (by decide)]) ?_
  refine x_istore_n C [(3, .int (nI (((upN x 6) + 1 + (upN (x >>> (3 &&& 31)) 5)) % 6))), (2, .int (nI (upN x 6))), (0, .ref (ap 0)), (1, .int x)] rfl rfl (by decide) dL_areElevons_21 ?_
  refine x_iconst C 1 (by decide) dL_areElevons_22 ?_
  refine x_iload_n C 3 rfl rfl dL_areElevons_23 ?_
  refine x_iconst C 5 (by decide) dL_areElevons_24 ?_
  refine x_ishr C dL_areElevons_25 ?_
  refine x_sipush C 150 (by decide) dL_areElevons_26 ?_
  refine x_st (st' := [.int (nI 150), .int (x >>> (5 &&& 31)), .int 1]) rfl ?_
  refine x_FS (w1 := ([] : va_W)) (wc := ([] : va_W)) (w2 := (wB g ap ad r d po pn sv mm)) [.int (x >>> (5 &&& 31)), .int (nI 150)] [.int 1] (wB g ap ad r d po pn sv mm) C (k_L_up l g (x >>> (5 &&& 31)) 150 (by decide) (by decide)) rfl yS_L_up wML_L_15 rfl rfl rfl (nle rfl) (nle rfl) (nle rfl) (nle rfl) (nle rfl) dL_areElevons_29 ?_
  refine x_iaddN C 1 (upN (x >>> (5 &&& 31)) 150) rfl rfl dL_areElevons_32 ?_
  refine x_istore C [(4, .int (nI (1 + (upN (x >>> (5 &&& 31)) 150)))), (3, .int (nI (((upN x 6) + 1 + (upN (x >>> (3 &&& 31)) 5)) % 6))), (2, .int (nI (upN x 6))), (0, .ref (ap 0)), (1, .int x)] rfl (by decide) dL_areElevons_33 ?_
  refine x_aload_n C 3 rfl rfl dL_areElevons_35 ?_
  refine x_iconst C 1 (by decide) dL_areElevons_36 ?_
  refine x_st (st' := [.int (nI 1), .ref (ap 0)]) rfl ?_
  refine x_EV0 [.int (nI 1)] [] C (a_store l g ap ad r d po pn sv mm 1 (by decide) H.1 Hp Hm) rfl yV_X6_store wML_L_189 0 rfl rfl rfl rfl (nle rfl) (nle rfl) (nle rfl) (nle rfl) (nle rfl) dL_areElevons_37 (fun E w h => h.elim) (fun r0 w0 h0 => ?_)
  obtain ⟨rfl, mm1, rfl, hm1, ht1, ho1⟩ := h0
  refine x_st (st' := [.int r.xn]) rfl ?_
  refine x_aload_n C 3 rfl rfl dL_areElevons_40 ?_
  refine x_EV0 [] [.int r.xn] C (a_mixes l g ap ad r d po pn sv mm1  H.1 Hp) rfl yV_X6_mixes wML_L_53 0 rfl rfl rfl rfl (nle rfl) (nle rfl) (nle rfl) (nle rfl) (nle rfl) dL_areElevons_41 (fun E w h => h.elim) (fun r0 w0 h0 => ?_)
  obtain ⟨rfl, rfl⟩ := h0
  refine x_st (st' := [.int r.xn, .int r.xn]) rfl ?_
  refine x_icmp_ne C 51 (by decide) dL_areElevons_44 (fun hz => absurd rfl hz) (fun _ => ?_)
  refine x_iconst C 1 (by decide) dL_areElevons_47 ?_
  refine x_goto C 52 (by decide) dL_areElevons_48 ?_
  refine x_istore C [(5, .int 1), (4, .int (nI (1 + (upN (x >>> (5 &&& 31)) 150)))), (3, .int (nI (((upN x 6) + 1 + (upN (x >>> (3 &&& 31)) 5)) % 6))), (2, .int (nI (upN x 6))), (0, .ref (ap 0)), (1, .int x)] rfl (by decide) dL_areElevons_52 ?_
  refine x_lv [(5, .int 1), (4, .int (nI (1 + (upN (x >>> (5 &&& 31)) 150)))), (3, .int (nI (((upN x 6) + 1 + (upN (x >>> (3 &&& 31)) 5)) % 6))), (2, .int (nI (upN x 6))), (0, .ref (ap 0)), (1, .int x)] [0, 1, 2, 3, 4, 5] rfl ?_
  refine x_wid (k := 30 + 30 * (12 - 12)) (n := 200 + 200 * (12 - 12)) (nle rfl) (nle rfl) ?_
  refine el_lp (B := B) C (fun r' d' po' pn' sv' H' hx' Hp' => ?_) 12 (by decide) r d po pn sv H (xn_12 H.1.1) Hp
  refine x_iload C 0 rfl dL_areElevons_88 ?_
  refine x_if_eq C 109 (by decide) dL_areElevons_90 (fun hz => absurd hz (by decide)) (fun _ => ?_)
  refine x_aload_n C 4 rfl rfl dL_areElevons_93 ?_
  refine x_iload_n C 3 rfl rfl dL_areElevons_94 ?_
  refine x_iload_n C 2 rfl rfl dL_areElevons_95 ?_
  refine x_iload C 1 rfl dL_areElevons_96 ?_
  refine x_EV0 [.int (nI (upN x 6)), .int (nI (((upN x 6) + 1 + (upN (x >>> (3 &&& 31)) 5)) % 6)), .int (nI (1 + (upN (x >>> (5 &&& 31)) 150)))] [] C (a_elevons l g ap ad r' d' po' pn' sv' mm1 (upN x 6) (((upN x 6) + 1 + (upN (x >>> (3 &&& 31)) 5)) % 6) hA hR hAR (nI (1 + (upN (x >>> (5 &&& 31)) 150))) hh hx' H'.1 Hp') rfl yV_X6_elevons wML_L_192 0 rfl rfl rfl rfl (nle rfl) (nle rfl) (nle rfl) (nle rfl) (nle rfl) dL_areElevons_98 (fun E w h => h.elim) (fun r0 w0 h0 => ?_)
  obtain ⟨rfl, d41, po41, pn41, sv41, rfl, hs41⟩ := h0
  have HG41 : Gd (B) (elC r' (upN x 6) (((upN x 6) + 1 + (upN (x >>> (3 &&& 31)) 5)) % 6) (nI (1 + (upN (x >>> (5 &&& 31)) 150)))) := g_el H' hA hR _
  refine x_st (st' := [.int 4]) rfl ?_
  refine x_iconst C 4 (by decide) dL_areElevons_101 ?_
  refine x_icmp_ne C 109 (by decide) dL_areElevons_102 (fun hz => absurd (by decide) hz) (fun _ => ?_)
  refine x_iconst C 1 (by decide) dL_areElevons_105 ?_
  refine x_goto C 110 (by decide) dL_areElevons_106 ?_
  refine x_istore C [(5, .int 1), (4, .int (nI (1 + (upN (x >>> (5 &&& 31)) 150)))), (3, .int (nI (((upN x 6) + 1 + (upN (x >>> (3 &&& 31)) 5)) % 6))), (2, .int (nI (upN x 6))), (0, .ref (ap 0)), (1, .int x)] rfl (by decide) dL_areElevons_110 ?_
  refine x_aload_n C 4 rfl rfl dL_areElevons_112 ?_
  refine x_iload_n C 3 rfl rfl dL_areElevons_113 ?_
  refine x_EV0 [.int (nI (upN x 6))] [] C (a_demand l g ap ad (elC r' (upN x 6) (((upN x 6) + 1 + (upN (x >>> (3 &&& 31)) 5)) % 6) (nI (1 + (upN (x >>> (5 &&& 31)) 150)))) d41 po41 pn41 sv41 mm1 (upN x 6) hA HG41.1 hs41.1 HG41.2.2.1) rfl yV_X6_demand wML_L_142 0 rfl rfl rfl rfl (nle rfl) (nle rfl) (nle rfl) (nle rfl) (nle rfl) dL_areElevons_114 (fun E w h => h.elim) (fun r0 w0 h0 => ?_)
  obtain ⟨rfl, d42, rfl⟩ := h0
  refine x_st (st' := [.int (dmd (elC r' (upN x 6) (((upN x 6) + 1 + (upN (x >>> (3 &&& 31)) 5)) % 6) (nI (1 + (upN (x >>> (5 &&& 31)) 150)))) (upN x 6))]) rfl ?_
  refine x_istore C [(6, .int (dmd (elC r' (upN x 6) (((upN x 6) + 1 + (upN (x >>> (3 &&& 31)) 5)) % 6) (nI (1 + (upN (x >>> (5 &&& 31)) 150)))) (upN x 6))), (5, .int 1), (4, .int (nI (1 + (upN (x >>> (5 &&& 31)) 150)))), (3, .int (nI (((upN x 6) + 1 + (upN (x >>> (3 &&& 31)) 5)) % 6))), (2, .int (nI (upN x 6))), (0, .ref (ap 0)), (1, .int x)] rfl (by decide) dL_areElevons_117 ?_
  refine x_aload_n C 5 rfl rfl dL_areElevons_119 ?_
  refine x_iload_n C 3 rfl rfl dL_areElevons_120 ?_
  refine x_EV0 [.int (nI (((upN x 6) + 1 + (upN (x >>> (3 &&& 31)) 5)) % 6))] [] C (a_demand l g ap ad (elC r' (upN x 6) (((upN x 6) + 1 + (upN (x >>> (3 &&& 31)) 5)) % 6) (nI (1 + (upN (x >>> (5 &&& 31)) 150)))) d42 po41 pn41 sv41 mm1 (((upN x 6) + 1 + (upN (x >>> (3 &&& 31)) 5)) % 6) hR HG41.1 hs41.1 HG41.2.2.1) rfl yV_X6_demand wML_L_142 0 rfl rfl rfl rfl (nle rfl) (nle rfl) (nle rfl) (nle rfl) (nle rfl) dL_areElevons_121 (fun E w h => h.elim) (fun r0 w0 h0 => ?_)
  obtain ⟨rfl, d43, rfl⟩ := h0
  refine x_st (st' := [.int (dmd (elC r' (upN x 6) (((upN x 6) + 1 + (upN (x >>> (3 &&& 31)) 5)) % 6) (nI (1 + (upN (x >>> (5 &&& 31)) 150)))) (((upN x 6) + 1 + (upN (x >>> (3 &&& 31)) 5)) % 6))]) rfl ?_
  refine x_istore C [(7, .int (dmd (elC r' (upN x 6) (((upN x 6) + 1 + (upN (x >>> (3 &&& 31)) 5)) % 6) (nI (1 + (upN (x >>> (5 &&& 31)) 150)))) (((upN x 6) + 1 + (upN (x >>> (3 &&& 31)) 5)) % 6))), (6, .int (dmd (elC r' (upN x 6) (((upN x 6) + 1 + (upN (x >>> (3 &&& 31)) 5)) % 6) (nI (1 + (upN (x >>> (5 &&& 31)) 150)))) (upN x 6))), (5, .int 1), (4, .int (nI (1 + (upN (x >>> (5 &&& 31)) 150)))), (3, .int (nI (((upN x 6) + 1 + (upN (x >>> (3 &&& 31)) 5)) % 6))), (2, .int (nI (upN x 6))), (0, .ref (ap 0)), (1, .int x)] rfl (by decide) dL_areElevons_124 ?_
  refine x_iload C 1 rfl dL_areElevons_126 ?_
  refine x_FS (w1 := ([] : va_W)) (wc := ([] : va_W)) (w2 := (wB g ap ad (elC r' (upN x 6) (((upN x 6) + 1 + (upN (x >>> (3 &&& 31)) 5)) % 6) (nI (1 + (upN (x >>> (5 &&& 31)) 150)))) d43 po41 pn41 sv41 mm1)) [.int (dmd (elC r' (upN x 6) (((upN x 6) + 1 + (upN (x >>> (3 &&& 31)) 5)) % 6) (nI (1 + (upN (x >>> (5 &&& 31)) 150)))) (upN x 6))] [] (wB g ap ad (elC r' (upN x 6) (((upN x 6) + 1 + (upN (x >>> (3 &&& 31)) 5)) % 6) (nI (1 + (upN (x >>> (5 &&& 31)) 150)))) d43 po41 pn41 sv41 mm1) C (k_L_size l g (dmd (elC r' (upN x 6) (((upN x 6) + 1 + (upN (x >>> (3 &&& 31)) 5)) % 6) (nI (1 + (upN (x >>> (5 &&& 31)) 150)))) (upN x 6))) rfl yS_L_size wML_L_74 rfl rfl rfl (nle rfl) (nle rfl) (nle rfl) (nle rfl) (nle rfl) dL_areElevons_128 ?_
  refine x_sipush C 300 (by decide) dL_areElevons_131 ?_
  refine x_icmp_eq C 148 (by decide) dL_areElevons_134 (fun h1 => ?_) (fun h1 => ?_)
  · refine x_iconst C 1 (by decide) dL_areElevons_148 ?_
    refine x_goto C 153 (by decide) dL_areElevons_149 ?_
    refine x_istore C [(8, .int 1), (7, .int (dmd (elC r' (upN x 6) (((upN x 6) + 1 + (upN (x >>> (3 &&& 31)) 5)) % 6) (nI (1 + (upN (x >>> (5 &&& 31)) 150)))) (((upN x 6) + 1 + (upN (x >>> (3 &&& 31)) 5)) % 6))), (6, .int (dmd (elC r' (upN x 6) (((upN x 6) + 1 + (upN (x >>> (3 &&& 31)) 5)) % 6) (nI (1 + (upN (x >>> (5 &&& 31)) 150)))) (upN x 6))), (5, .int 1), (4, .int (nI (1 + (upN (x >>> (5 &&& 31)) 150)))), (3, .int (nI (((upN x 6) + 1 + (upN (x >>> (3 &&& 31)) 5)) % 6))), (2, .int (nI (upN x 6))), (0, .ref (ap 0)), (1, .int x)] rfl (by decide) dL_areElevons_153 ?_
    refine x_iload C 3 rfl dL_areElevons_155 ?_
    refine x_if_eq C 234 (by decide) dL_areElevons_157 (fun hz => absurd hz (by decide)) (fun _ => ?_)
    refine x_iload C 0 rfl dL_areElevons_160 ?_
    refine x_if_ne C 207 (by decide) dL_areElevons_162 (fun _ => ?_) (fun hz => absurd hz (by decide))
    refine x_aload_n C 7 rfl rfl dL_areElevons_207 ?_
    refine x_iconst C 0 (by decide) dL_areElevons_208 ?_
    refine x_st (st' := [.int (nI 0), .ref (ap 0)]) rfl ?_
    refine x_EV0 [.int (nI 0)] [] C (a_drivenBy l g ap ad (elC r' (upN x 6) (((upN x 6) + 1 + (upN (x >>> (3 &&& 31)) 5)) % 6) (nI (1 + (upN (x >>> (5 &&& 31)) 150)))) d43 po41 pn41 sv41 mm1 0 (by decide) HG41.1 hs41.1) rfl yV_X6_drivenBy wML_L_176 0 rfl rfl rfl rfl (nle rfl) (nle rfl) (nle rfl) (nle rfl) (nle rfl) dL_areElevons_209 (fun E w h => h.elim) (fun r0 w0 h0 => ?_)
    obtain ⟨rfl, rfl⟩ := h0
    refine x_st (st' := [.int (sp_dby (elC r' (upN x 6) (((upN x 6) + 1 + (upN (x >>> (3 &&& 31)) 5)) % 6) (nI (1 + (upN (x >>> (5 &&& 31)) 150)))) (nI 0) 0 6)]) rfl ?_
    refine x_iconst C 1 (by decide) dL_areElevons_212 ?_
    refine x_iload_n C 6 rfl rfl dL_areElevons_213 ?_
    refine x_ishl C dL_areElevons_214 ?_
    refine x_iconst C 1 (by decide) dL_areElevons_215 ?_
    refine x_iload_n C 5 rfl rfl dL_areElevons_216 ?_
    refine x_ishl C dL_areElevons_217 ?_
    refine x_ior C dL_areElevons_218 ?_
    refine x_icmp_ne C 234 (by decide) dL_areElevons_219 (fun hz => absurd (el_d0 H' hA hR) hz) (fun _ => ?_)
    refine x_aload_n C 7 rfl rfl dL_areElevons_222 ?_
    refine x_iconst C 2 (by decide) dL_areElevons_223 ?_
    refine x_st (st' := [.int (nI 2), .ref (ap 0)]) rfl ?_
    refine x_EV0 [.int (nI 2)] [] C (a_drivenBy l g ap ad (elC r' (upN x 6) (((upN x 6) + 1 + (upN (x >>> (3 &&& 31)) 5)) % 6) (nI (1 + (upN (x >>> (5 &&& 31)) 150)))) d43 po41 pn41 sv41 mm1 2 (by decide) HG41.1 hs41.1) rfl yV_X6_drivenBy wML_L_176 0 rfl rfl rfl rfl (nle rfl) (nle rfl) (nle rfl) (nle rfl) (nle rfl) dL_areElevons_224 (fun E w h => h.elim) (fun r0 w0 h0 => ?_)
    obtain ⟨rfl, rfl⟩ := h0
    refine x_st (st' := [.int (sp_dby (elC r' (upN x 6) (((upN x 6) + 1 + (upN (x >>> (3 &&& 31)) 5)) % 6) (nI (1 + (upN (x >>> (5 &&& 31)) 150)))) (nI 2) 0 6)]) rfl ?_
    refine x_if_ne C 234 (by decide) dL_areElevons_227 (fun hz => absurd (el_d2 H' hA hR) hz) (fun _ => ?_)
    refine x_iconst C 1 (by decide) dL_areElevons_230 ?_
    refine x_goto C 235 (by decide) dL_areElevons_231 ?_
    refine x_istore C [(5, .int 1), (8, .int 1), (7, .int (dmd (elC r' (upN x 6) (((upN x 6) + 1 + (upN (x >>> (3 &&& 31)) 5)) % 6) (nI (1 + (upN (x >>> (5 &&& 31)) 150)))) (((upN x 6) + 1 + (upN (x >>> (3 &&& 31)) 5)) % 6))), (6, .int (dmd (elC r' (upN x 6) (((upN x 6) + 1 + (upN (x >>> (3 &&& 31)) 5)) % 6) (nI (1 + (upN (x >>> (5 &&& 31)) 150)))) (upN x 6))), (4, .int (nI (1 + (upN (x >>> (5 &&& 31)) 150)))), (3, .int (nI (((upN x 6) + 1 + (upN (x >>> (3 &&& 31)) 5)) % 6))), (2, .int (nI (upN x 6))), (0, .ref (ap 0)), (1, .int x)] rfl (by decide) dL_areElevons_235 ?_
    refine x_iload C 0 rfl dL_areElevons_237 ?_
    refine x_if_eq C 258 (by decide) dL_areElevons_239 (fun hz => absurd hz (by decide)) (fun _ => ?_)
    refine x_aload_n C 7 rfl rfl dL_areElevons_242 ?_
    refine x_iconst C 1 (by decide) dL_areElevons_243 ?_
    refine x_st (st' := [.int (nI 1), .ref (ap 0)]) rfl ?_
    refine x_EV0 [.int (nI 1)] [] C (a_recall l g ap ad (elC r' (upN x 6) (((upN x 6) + 1 + (upN (x >>> (3 &&& 31)) 5)) % 6) (nI (1 + (upN (x >>> (5 &&& 31)) 150)))) r d43 po41 pn41 sv41 mm1 1 (by decide) HG41.1 hs41.1 hm1 ht1) rfl yV_X6_recall wML_L_195 0 rfl rfl rfl rfl (nle rfl) (nle rfl) (nle rfl) (nle rfl) (nle rfl) dL_areElevons_244 (fun E w h => h.elim) (fun r0 w0 h0 => ?_)
    obtain ⟨rfl, d44, po44, pn44, sv44, rfl, hs44⟩ := h0
    refine x_st (st' := [.int r.xn]) rfl ?_
    refine x_aload_n C 7 rfl rfl dL_areElevons_247 ?_
    refine x_EV0 [] [.int r.xn] C (a_mixes l g ap ad r d44 po44 pn44 sv44 mm1  H.1 hs44.1) rfl yV_X6_mixes wML_L_53 0 rfl rfl rfl rfl (nle rfl) (nle rfl) (nle rfl) (nle rfl) (nle rfl) dL_areElevons_248 (fun E w h => h.elim) (fun r0 w0 h0 => ?_)
    obtain ⟨rfl, rfl⟩ := h0
    refine x_st (st' := [.int r.xn, .int r.xn]) rfl ?_
    refine x_icmp_ne C 258 (by decide) dL_areElevons_251 (fun hz => absurd rfl hz) (fun _ => ?_)
    refine x_iconst C 1 (by decide) dL_areElevons_254 ?_
    refine x_goto C 259 (by decide) dL_areElevons_255 ?_
    exact x_zret C hr rfl (nle rfl) (nle rfl) dL_areElevons_259 ⟨rfl, d44, po44, pn44, sv44, mm1, rfl, hs44.1, hm1, ho1 0 (by decide)⟩
  · refine x_iload C 0 rfl dL_areElevons_137 ?_
    refine x_FS (w1 := ([] : va_W)) (wc := ([] : va_W)) (w2 := (wB g ap ad (elC r' (upN x 6) (((upN x 6) + 1 + (upN (x >>> (3 &&& 31)) 5)) % 6) (nI (1 + (upN (x >>> (5 &&& 31)) 150)))) d43 po41 pn41 sv41 mm1)) [.int (dmd (elC r' (upN x 6) (((upN x 6) + 1 + (upN (x >>> (3 &&& 31)) 5)) % 6) (nI (1 + (upN (x >>> (5 &&& 31)) 150)))) (((upN x 6) + 1 + (upN (x >>> (3 &&& 31)) 5)) % 6))] [] (wB g ap ad (elC r' (upN x 6) (((upN x 6) + 1 + (upN (x >>> (3 &&& 31)) 5)) % 6) (nI (1 + (upN (x >>> (5 &&& 31)) 150)))) d43 po41 pn41 sv41 mm1) C (k_L_size l g (dmd (elC r' (upN x 6) (((upN x 6) + 1 + (upN (x >>> (3 &&& 31)) 5)) % 6) (nI (1 + (upN (x >>> (5 &&& 31)) 150)))) (((upN x 6) + 1 + (upN (x >>> (3 &&& 31)) 5)) % 6))) rfl yS_L_size wML_L_74 rfl rfl rfl (nle rfl) (nle rfl) (nle rfl) (nle rfl) (nle rfl) dL_areElevons_139 ?_
    refine x_sipush C 300 (by decide) dL_areElevons_142 ?_
    refine x_icmp_ne C 152 (by decide) dL_areElevons_145 (fun h2 => ?_) (fun h2 => ?_)
    · refine x_iconst C 0 (by decide) dL_areElevons_152 ?_
      refine x_istore C [(8, .int 0), (7, .int (dmd (elC r' (upN x 6) (((upN x 6) + 1 + (upN (x >>> (3 &&& 31)) 5)) % 6) (nI (1 + (upN (x >>> (5 &&& 31)) 150)))) (((upN x 6) + 1 + (upN (x >>> (3 &&& 31)) 5)) % 6))), (6, .int (dmd (elC r' (upN x 6) (((upN x 6) + 1 + (upN (x >>> (3 &&& 31)) 5)) % 6) (nI (1 + (upN (x >>> (5 &&& 31)) 150)))) (upN x 6))), (5, .int 1), (4, .int (nI (1 + (upN (x >>> (5 &&& 31)) 150)))), (3, .int (nI (((upN x 6) + 1 + (upN (x >>> (3 &&& 31)) 5)) % 6))), (2, .int (nI (upN x 6))), (0, .ref (ap 0)), (1, .int x)] rfl (by decide) dL_areElevons_153 ?_
      refine x_iload C 3 rfl dL_areElevons_155 ?_
      refine x_if_eq C 234 (by decide) dL_areElevons_157 (fun hz => absurd hz (by decide)) (fun _ => ?_)
      refine x_iload C 0 rfl dL_areElevons_160 ?_
      refine x_if_ne C 207 (by decide) dL_areElevons_162 (fun hz => absurd (by decide) hz) (fun _ => ?_)
      refine x_iload C 2 rfl dL_areElevons_165 ?_
      refine x_iload C 1 rfl dL_areElevons_167 ?_
      refine x_iadd C dL_areElevons_169 ?_
      refine x_iconst C 2 (by decide) dL_areElevons_170 ?_
      refine x_aload_n C 7 rfl rfl dL_areElevons_171 ?_
      refine x_iconst C 1 (by decide) dL_areElevons_172 ?_
      refine x_st (st' := [.int (nI 1), .ref (ap 0), .int 2, .int ((dmd (elC r' (upN x 6) (((upN x 6) + 1 + (upN (x >>> (3 &&& 31)) 5)) % 6) (nI (1 + (upN (x >>> (5 &&& 31)) 150)))) (upN x 6)) + (dmd (elC r' (upN x 6) (((upN x 6) + 1 + (upN (x >>> (3 &&& 31)) 5)) % 6) (nI (1 + (upN (x >>> (5 &&& 31)) 150)))) (((upN x 6) + 1 + (upN (x >>> (3 &&& 31)) 5)) % 6)))]) rfl ?_
      refine x_EV0 [.int (nI 1)] [.int 2, .int ((dmd (elC r' (upN x 6) (((upN x 6) + 1 + (upN (x >>> (3 &&& 31)) 5)) % 6) (nI (1 + (upN (x >>> (5 &&& 31)) 150)))) (upN x 6)) + (dmd (elC r' (upN x 6) (((upN x 6) + 1 + (upN (x >>> (3 &&& 31)) 5)) % 6) (nI (1 + (upN (x >>> (5 &&& 31)) 150)))) (((upN x 6) + 1 + (upN (x >>> (3 &&& 31)) 5)) % 6)))] C (a_command l g ap ad (elC r' (upN x 6) (((upN x 6) + 1 + (upN (x >>> (3 &&& 31)) 5)) % 6) (nI (1 + (upN (x >>> (5 &&& 31)) 150)))) d43 po41 pn41 sv41 mm1 1 (by decide) HG41.1 hs41.1) rfl yV_X6_command wML_L_124 0 rfl rfl rfl rfl (nle rfl) (nle rfl) (nle rfl) (nle rfl) (nle rfl) dL_areElevons_173 (fun E w h => h.elim) (fun r0 w0 h0 => ?_)
      obtain ⟨rfl, rfl⟩ := h0
      refine x_st (st' := [.int (cmd (elC r' (upN x 6) (((upN x 6) + 1 + (upN (x >>> (3 &&& 31)) 5)) % 6) (nI (1 + (upN (x >>> (5 &&& 31)) 150)))) 1), .int 2, .int ((dmd (elC r' (upN x 6) (((upN x 6) + 1 + (upN (x >>> (3 &&& 31)) 5)) % 6) (nI (1 + (upN (x >>> (5 &&& 31)) 150)))) (upN x 6)) + (dmd (elC r' (upN x 6) (((upN x 6) + 1 + (upN (x >>> (3 &&& 31)) 5)) % 6) (nI (1 + (upN (x >>> (5 &&& 31)) 150)))) (((upN x 6) + 1 + (upN (x >>> (3 &&& 31)) 5)) % 6)))]) rfl ?_
      refine x_iload C 4 rfl dL_areElevons_176 ?_
      refine x_imul C dL_areElevons_178 ?_
      refine x_bipush C 100 (by decide) dL_areElevons_179 ?_
      refine x_idiv C (by decide) dL_areElevons_181 ?_
      refine x_imul C dL_areElevons_182 ?_
      refine x_icmp_ne C 234 (by decide) dL_areElevons_183 (fun hz => absurd (el_sum H' hA hR hAR hh h1 h2).1 hz) (fun _ => ?_)
      refine x_iload C 2 rfl dL_areElevons_186 ?_
      refine x_iload C 1 rfl dL_areElevons_188 ?_
      refine x_isub C dL_areElevons_190 ?_
      refine x_iconst C 2 (by decide) dL_areElevons_191 ?_
      refine x_aload_n C 7 rfl rfl dL_areElevons_192 ?_
      refine x_iconst C 0 (by decide) dL_areElevons_193 ?_
      refine x_st (st' := [.int (nI 0), .ref (ap 0), .int 2, .int ((dmd (elC r' (upN x 6) (((upN x 6) + 1 + (upN (x >>> (3 &&& 31)) 5)) % 6) (nI (1 + (upN (x >>> (5 &&& 31)) 150)))) (upN x 6)) - (dmd (elC r' (upN x 6) (((upN x 6) + 1 + (upN (x >>> (3 &&& 31)) 5)) % 6) (nI (1 + (upN (x >>> (5 &&& 31)) 150)))) (((upN x 6) + 1 + (upN (x >>> (3 &&& 31)) 5)) % 6)))]) rfl ?_
      refine x_EV0 [.int (nI 0)] [.int 2, .int ((dmd (elC r' (upN x 6) (((upN x 6) + 1 + (upN (x >>> (3 &&& 31)) 5)) % 6) (nI (1 + (upN (x >>> (5 &&& 31)) 150)))) (upN x 6)) - (dmd (elC r' (upN x 6) (((upN x 6) + 1 + (upN (x >>> (3 &&& 31)) 5)) % 6) (nI (1 + (upN (x >>> (5 &&& 31)) 150)))) (((upN x 6) + 1 + (upN (x >>> (3 &&& 31)) 5)) % 6)))] C (a_command l g ap ad (elC r' (upN x 6) (((upN x 6) + 1 + (upN (x >>> (3 &&& 31)) 5)) % 6) (nI (1 + (upN (x >>> (5 &&& 31)) 150)))) d43 po41 pn41 sv41 mm1 0 (by decide) HG41.1 hs41.1) rfl yV_X6_command wML_L_124 0 rfl rfl rfl rfl (nle rfl) (nle rfl) (nle rfl) (nle rfl) (nle rfl) dL_areElevons_194 (fun E w h => h.elim) (fun r0 w0 h0 => ?_)
      obtain ⟨rfl, rfl⟩ := h0
      refine x_st (st' := [.int (cmd (elC r' (upN x 6) (((upN x 6) + 1 + (upN (x >>> (3 &&& 31)) 5)) % 6) (nI (1 + (upN (x >>> (5 &&& 31)) 150)))) 0), .int 2, .int ((dmd (elC r' (upN x 6) (((upN x 6) + 1 + (upN (x >>> (3 &&& 31)) 5)) % 6) (nI (1 + (upN (x >>> (5 &&& 31)) 150)))) (upN x 6)) - (dmd (elC r' (upN x 6) (((upN x 6) + 1 + (upN (x >>> (3 &&& 31)) 5)) % 6) (nI (1 + (upN (x >>> (5 &&& 31)) 150)))) (((upN x 6) + 1 + (upN (x >>> (3 &&& 31)) 5)) % 6)))]) rfl ?_
      refine x_iload C 4 rfl dL_areElevons_197 ?_
      refine x_imul C dL_areElevons_199 ?_
      refine x_bipush C 100 (by decide) dL_areElevons_200 ?_
      refine x_idiv C (by decide) dL_areElevons_202 ?_
      refine x_imul C dL_areElevons_203 ?_
      refine x_icmp_ne C 234 (by decide) dL_areElevons_204 (fun hz => absurd (el_sum H' hA hR hAR hh h1 h2).2 hz) (fun _ => ?_)
      refine x_aload_n C 7 rfl rfl dL_areElevons_207 ?_
      refine x_iconst C 0 (by decide) dL_areElevons_208 ?_
      refine x_st (st' := [.int (nI 0), .ref (ap 0)]) rfl ?_
      refine x_EV0 [.int (nI 0)] [] C (a_drivenBy l g ap ad (elC r' (upN x 6) (((upN x 6) + 1 + (upN (x >>> (3 &&& 31)) 5)) % 6) (nI (1 + (upN (x >>> (5 &&& 31)) 150)))) d43 po41 pn41 sv41 mm1 0 (by decide) HG41.1 hs41.1) rfl yV_X6_drivenBy wML_L_176 0 rfl rfl rfl rfl (nle rfl) (nle rfl) (nle rfl) (nle rfl) (nle rfl) dL_areElevons_209 (fun E w h => h.elim) (fun r0 w0 h0 => ?_)
      obtain ⟨rfl, rfl⟩ := h0
      refine x_st (st' := [.int (sp_dby (elC r' (upN x 6) (((upN x 6) + 1 + (upN (x >>> (3 &&& 31)) 5)) % 6) (nI (1 + (upN (x >>> (5 &&& 31)) 150)))) (nI 0) 0 6)]) rfl ?_
      refine x_iconst C 1 (by decide) dL_areElevons_212 ?_
      refine x_iload_n C 6 rfl rfl dL_areElevons_213 ?_
      refine x_ishl C dL_areElevons_214 ?_
      refine x_iconst C 1 (by decide) dL_areElevons_215 ?_
      refine x_iload_n C 5 rfl rfl dL_areElevons_216 ?_
      refine x_ishl C dL_areElevons_217 ?_
      refine x_ior C dL_areElevons_218 ?_
      refine x_icmp_ne C 234 (by decide) dL_areElevons_219 (fun hz => absurd (el_d0 H' hA hR) hz) (fun _ => ?_)
      refine x_aload_n C 7 rfl rfl dL_areElevons_222 ?_
      refine x_iconst C 2 (by decide) dL_areElevons_223 ?_
      refine x_st (st' := [.int (nI 2), .ref (ap 0)]) rfl ?_
      refine x_EV0 [.int (nI 2)] [] C (a_drivenBy l g ap ad (elC r' (upN x 6) (((upN x 6) + 1 + (upN (x >>> (3 &&& 31)) 5)) % 6) (nI (1 + (upN (x >>> (5 &&& 31)) 150)))) d43 po41 pn41 sv41 mm1 2 (by decide) HG41.1 hs41.1) rfl yV_X6_drivenBy wML_L_176 0 rfl rfl rfl rfl (nle rfl) (nle rfl) (nle rfl) (nle rfl) (nle rfl) dL_areElevons_224 (fun E w h => h.elim) (fun r0 w0 h0 => ?_)
      obtain ⟨rfl, rfl⟩ := h0
      refine x_st (st' := [.int (sp_dby (elC r' (upN x 6) (((upN x 6) + 1 + (upN (x >>> (3 &&& 31)) 5)) % 6) (nI (1 + (upN (x >>> (5 &&& 31)) 150)))) (nI 2) 0 6)]) rfl ?_
      refine x_if_ne C 234 (by decide) dL_areElevons_227 (fun hz => absurd (el_d2 H' hA hR) hz) (fun _ => ?_)
      refine x_iconst C 1 (by decide) dL_areElevons_230 ?_
      refine x_goto C 235 (by decide) dL_areElevons_231 ?_
      refine x_istore C [(5, .int 1), (8, .int 0), (7, .int (dmd (elC r' (upN x 6) (((upN x 6) + 1 + (upN (x >>> (3 &&& 31)) 5)) % 6) (nI (1 + (upN (x >>> (5 &&& 31)) 150)))) (((upN x 6) + 1 + (upN (x >>> (3 &&& 31)) 5)) % 6))), (6, .int (dmd (elC r' (upN x 6) (((upN x 6) + 1 + (upN (x >>> (3 &&& 31)) 5)) % 6) (nI (1 + (upN (x >>> (5 &&& 31)) 150)))) (upN x 6))), (4, .int (nI (1 + (upN (x >>> (5 &&& 31)) 150)))), (3, .int (nI (((upN x 6) + 1 + (upN (x >>> (3 &&& 31)) 5)) % 6))), (2, .int (nI (upN x 6))), (0, .ref (ap 0)), (1, .int x)] rfl (by decide) dL_areElevons_235 ?_
      refine x_iload C 0 rfl dL_areElevons_237 ?_
      refine x_if_eq C 258 (by decide) dL_areElevons_239 (fun hz => absurd hz (by decide)) (fun _ => ?_)
      refine x_aload_n C 7 rfl rfl dL_areElevons_242 ?_
      refine x_iconst C 1 (by decide) dL_areElevons_243 ?_
      refine x_st (st' := [.int (nI 1), .ref (ap 0)]) rfl ?_
      refine x_EV0 [.int (nI 1)] [] C (a_recall l g ap ad (elC r' (upN x 6) (((upN x 6) + 1 + (upN (x >>> (3 &&& 31)) 5)) % 6) (nI (1 + (upN (x >>> (5 &&& 31)) 150)))) r d43 po41 pn41 sv41 mm1 1 (by decide) HG41.1 hs41.1 hm1 ht1) rfl yV_X6_recall wML_L_195 0 rfl rfl rfl rfl (nle rfl) (nle rfl) (nle rfl) (nle rfl) (nle rfl) dL_areElevons_244 (fun E w h => h.elim) (fun r0 w0 h0 => ?_)
      obtain ⟨rfl, d45, po45, pn45, sv45, rfl, hs45⟩ := h0
      refine x_st (st' := [.int r.xn]) rfl ?_
      refine x_aload_n C 7 rfl rfl dL_areElevons_247 ?_
      refine x_EV0 [] [.int r.xn] C (a_mixes l g ap ad r d45 po45 pn45 sv45 mm1  H.1 hs45.1) rfl yV_X6_mixes wML_L_53 0 rfl rfl rfl rfl (nle rfl) (nle rfl) (nle rfl) (nle rfl) (nle rfl) dL_areElevons_248 (fun E w h => h.elim) (fun r0 w0 h0 => ?_)
      obtain ⟨rfl, rfl⟩ := h0
      refine x_st (st' := [.int r.xn, .int r.xn]) rfl ?_
      refine x_icmp_ne C 258 (by decide) dL_areElevons_251 (fun hz => absurd rfl hz) (fun _ => ?_)
      refine x_iconst C 1 (by decide) dL_areElevons_254 ?_
      refine x_goto C 259 (by decide) dL_areElevons_255 ?_
      exact x_zret C hr rfl (nle rfl) (nle rfl) dL_areElevons_259 ⟨rfl, d45, po45, pn45, sv45, mm1, rfl, hs45.1, hm1, ho1 0 (by decide)⟩
    · refine x_iconst C 1 (by decide) dL_areElevons_148 ?_
      refine x_goto C 153 (by decide) dL_areElevons_149 ?_
      refine x_istore C [(8, .int 1), (7, .int (dmd (elC r' (upN x 6) (((upN x 6) + 1 + (upN (x >>> (3 &&& 31)) 5)) % 6) (nI (1 + (upN (x >>> (5 &&& 31)) 150)))) (((upN x 6) + 1 + (upN (x >>> (3 &&& 31)) 5)) % 6))), (6, .int (dmd (elC r' (upN x 6) (((upN x 6) + 1 + (upN (x >>> (3 &&& 31)) 5)) % 6) (nI (1 + (upN (x >>> (5 &&& 31)) 150)))) (upN x 6))), (5, .int 1), (4, .int (nI (1 + (upN (x >>> (5 &&& 31)) 150)))), (3, .int (nI (((upN x 6) + 1 + (upN (x >>> (3 &&& 31)) 5)) % 6))), (2, .int (nI (upN x 6))), (0, .ref (ap 0)), (1, .int x)] rfl (by decide) dL_areElevons_153 ?_
      refine x_iload C 3 rfl dL_areElevons_155 ?_
      refine x_if_eq C 234 (by decide) dL_areElevons_157 (fun hz => absurd hz (by decide)) (fun _ => ?_)
      refine x_iload C 0 rfl dL_areElevons_160 ?_
      refine x_if_ne C 207 (by decide) dL_areElevons_162 (fun _ => ?_) (fun hz => absurd hz (by decide))
      refine x_aload_n C 7 rfl rfl dL_areElevons_207 ?_
      refine x_iconst C 0 (by decide) dL_areElevons_208 ?_
      refine x_st (st' := [.int (nI 0), .ref (ap 0)]) rfl ?_
      refine x_EV0 [.int (nI 0)] [] C (a_drivenBy l g ap ad (elC r' (upN x 6) (((upN x 6) + 1 + (upN (x >>> (3 &&& 31)) 5)) % 6) (nI (1 + (upN (x >>> (5 &&& 31)) 150)))) d43 po41 pn41 sv41 mm1 0 (by decide) HG41.1 hs41.1) rfl yV_X6_drivenBy wML_L_176 0 rfl rfl rfl rfl (nle rfl) (nle rfl) (nle rfl) (nle rfl) (nle rfl) dL_areElevons_209 (fun E w h => h.elim) (fun r0 w0 h0 => ?_)
      obtain ⟨rfl, rfl⟩ := h0
      refine x_st (st' := [.int (sp_dby (elC r' (upN x 6) (((upN x 6) + 1 + (upN (x >>> (3 &&& 31)) 5)) % 6) (nI (1 + (upN (x >>> (5 &&& 31)) 150)))) (nI 0) 0 6)]) rfl ?_
      refine x_iconst C 1 (by decide) dL_areElevons_212 ?_
      refine x_iload_n C 6 rfl rfl dL_areElevons_213 ?_
      refine x_ishl C dL_areElevons_214 ?_
      refine x_iconst C 1 (by decide) dL_areElevons_215 ?_
      refine x_iload_n C 5 rfl rfl dL_areElevons_216 ?_
      refine x_ishl C dL_areElevons_217 ?_
      refine x_ior C dL_areElevons_218 ?_
      refine x_icmp_ne C 234 (by decide) dL_areElevons_219 (fun hz => absurd (el_d0 H' hA hR) hz) (fun _ => ?_)
      refine x_aload_n C 7 rfl rfl dL_areElevons_222 ?_
      refine x_iconst C 2 (by decide) dL_areElevons_223 ?_
      refine x_st (st' := [.int (nI 2), .ref (ap 0)]) rfl ?_
      refine x_EV0 [.int (nI 2)] [] C (a_drivenBy l g ap ad (elC r' (upN x 6) (((upN x 6) + 1 + (upN (x >>> (3 &&& 31)) 5)) % 6) (nI (1 + (upN (x >>> (5 &&& 31)) 150)))) d43 po41 pn41 sv41 mm1 2 (by decide) HG41.1 hs41.1) rfl yV_X6_drivenBy wML_L_176 0 rfl rfl rfl rfl (nle rfl) (nle rfl) (nle rfl) (nle rfl) (nle rfl) dL_areElevons_224 (fun E w h => h.elim) (fun r0 w0 h0 => ?_)
      obtain ⟨rfl, rfl⟩ := h0
      refine x_st (st' := [.int (sp_dby (elC r' (upN x 6) (((upN x 6) + 1 + (upN (x >>> (3 &&& 31)) 5)) % 6) (nI (1 + (upN (x >>> (5 &&& 31)) 150)))) (nI 2) 0 6)]) rfl ?_
      refine x_if_ne C 234 (by decide) dL_areElevons_227 (fun hz => absurd (el_d2 H' hA hR) hz) (fun _ => ?_)
      refine x_iconst C 1 (by decide) dL_areElevons_230 ?_
      refine x_goto C 235 (by decide) dL_areElevons_231 ?_
      refine x_istore C [(5, .int 1), (8, .int 1), (7, .int (dmd (elC r' (upN x 6) (((upN x 6) + 1 + (upN (x >>> (3 &&& 31)) 5)) % 6) (nI (1 + (upN (x >>> (5 &&& 31)) 150)))) (((upN x 6) + 1 + (upN (x >>> (3 &&& 31)) 5)) % 6))), (6, .int (dmd (elC r' (upN x 6) (((upN x 6) + 1 + (upN (x >>> (3 &&& 31)) 5)) % 6) (nI (1 + (upN (x >>> (5 &&& 31)) 150)))) (upN x 6))), (4, .int (nI (1 + (upN (x >>> (5 &&& 31)) 150)))), (3, .int (nI (((upN x 6) + 1 + (upN (x >>> (3 &&& 31)) 5)) % 6))), (2, .int (nI (upN x 6))), (0, .ref (ap 0)), (1, .int x)] rfl (by decide) dL_areElevons_235 ?_
      refine x_iload C 0 rfl dL_areElevons_237 ?_
      refine x_if_eq C 258 (by decide) dL_areElevons_239 (fun hz => absurd hz (by decide)) (fun _ => ?_)
      refine x_aload_n C 7 rfl rfl dL_areElevons_242 ?_
      refine x_iconst C 1 (by decide) dL_areElevons_243 ?_
      refine x_st (st' := [.int (nI 1), .ref (ap 0)]) rfl ?_
      refine x_EV0 [.int (nI 1)] [] C (a_recall l g ap ad (elC r' (upN x 6) (((upN x 6) + 1 + (upN (x >>> (3 &&& 31)) 5)) % 6) (nI (1 + (upN (x >>> (5 &&& 31)) 150)))) r d43 po41 pn41 sv41 mm1 1 (by decide) HG41.1 hs41.1 hm1 ht1) rfl yV_X6_recall wML_L_195 0 rfl rfl rfl rfl (nle rfl) (nle rfl) (nle rfl) (nle rfl) (nle rfl) dL_areElevons_244 (fun E w h => h.elim) (fun r0 w0 h0 => ?_)
      obtain ⟨rfl, d46, po46, pn46, sv46, rfl, hs46⟩ := h0
      refine x_st (st' := [.int r.xn]) rfl ?_
      refine x_aload_n C 7 rfl rfl dL_areElevons_247 ?_
      refine x_EV0 [] [.int r.xn] C (a_mixes l g ap ad r d46 po46 pn46 sv46 mm1  H.1 hs46.1) rfl yV_X6_mixes wML_L_53 0 rfl rfl rfl rfl (nle rfl) (nle rfl) (nle rfl) (nle rfl) (nle rfl) dL_areElevons_248 (fun E w h => h.elim) (fun r0 w0 h0 => ?_)
      obtain ⟨rfl, rfl⟩ := h0
      refine x_st (st' := [.int r.xn, .int r.xn]) rfl ?_
      refine x_icmp_ne C 258 (by decide) dL_areElevons_251 (fun hz => absurd rfl hz) (fun _ => ?_)
      refine x_iconst C 1 (by decide) dL_areElevons_254 ?_
      refine x_goto C 259 (by decide) dL_areElevons_255 ?_
      exact x_zret C hr rfl (nle rfl) (nle rfl) dL_areElevons_259 ⟨rfl, d46, po46, pn46, sv46, mm1, rfl, hs46.1, hm1, ho1 0 (by decide)⟩
