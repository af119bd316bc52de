/-! acts -/
theorem bt_nI {n : Nat} {lo hi : Int} (h1 : lo ≤ n) (h2 : (n : Int) ≤ hi) (h3 : n < 2147483648) : bt lo hi (nI n) := by
  unfold bt
  rw [ti_n h3]
  exact ⟨h1, h2⟩
theorem bt_s {n : Nat} {K : Int32} {k lo hi : Int} (hK : K.toInt = k) (h3 : n < 1000000) (hk : 0 ≤ k ∧ k < 1000000) (h1 : lo ≤ n - k) (h2 : (n : Int) - k ≤ hi) : bt lo hi (nI n - K) := by
  have e := ti_n (n := n) (by omega)
  unfold bt
  rw [ti_sub (by omega) (by omega), e, hK]
  exact ⟨h1, h2⟩
theorem bt_m {n : Nat} {lo hi : Int} (h3 : n < 1000000) (h1 : lo ≤ -(n : Int)) (h2 : -(n : Int) ≤ hi) : bt lo hi (-(nI n)) := by
  have e := ti_n (n := n) (by omega)
  unfold bt
  rw [ti_neg (by omega), e]
  exact ⟨h1, h2⟩
theorem ge_of {x K : Int32} {lo hi : Int} (h : bt lo hi x) (hK : K.toInt ≤ lo) : ¬ x < K := fun q => by
  have := ti_lt.mp q
  have := h.1
  omega
theorem gt_of {x K : Int32} {lo hi : Int} (h : bt lo hi x) (hK : K.toInt < lo) : ¬ x ≤ K := fun q => by
  have := ti_le.mp q
  have := h.1
  omega
theorem xn_lt {r : xR} (hb : rB r) (h : ¬ r.xn = 12) : xN r < 12 := by
  have h12 := xn_12 hb
  rcases Nat.lt_or_ge (xN r) 12 with y | y
  · exact y
  · exact absurd (by rw [xn_ne hb, show xN r = 12 by omega]; rfl) h
theorem xn_pos {r : xR} (hb : rB r) (h : ¬ r.xn = 0) : 0 < xN r := by
  rcases Nat.eq_zero_or_pos (xN r) with y | y
  · exact absurd (by rw [xn_ne hb, y]; rfl) h
  · exact y
theorem lim_nn {r : xR} (hV : gV r) {k : Nat} (hk : k < 6) : ¬ r.vu k - r.vl k < 0 := fun q => by
  obtain ⟨a1, a2⟩ := (hV k hk).2.2.1
  obtain ⟨b1, b2⟩ := (hV k hk).2.2.2.1
  have q2 := ti_lt.mp q
  rw [ti_sub (by omega) (by omega)] at q2
  have z0 : (0 : Int32).toInt = 0 := rfl
  omega
theorem chg_nn {B : Int} {r : xR} (H : Gd B r) : ¬ 20000 - r.jb < 0 := fun q => by
  obtain ⟨a1, a2⟩ := H.2.2.2.2.2.2.1
  have q2 := ti_lt.mp q
  have z : (20000 : Int32).toInt = 20000 := by decide
  rw [ti_sub (by omega) (by omega)] at q2
  have z0 : (0 : Int32).toInt = 0 := rfl
  omega
set_option maxRecDepth 100000 in
set_option maxHeartbeats 1000000 in
theorem ac_0 {p : Program} {l : Launch} {e : Env} {s : State} {m : MethodId} {args : Array Value} {below : List Frame} {meth : Method} {c : Code} {Q : State → Prop} {nm : String} {g : xGt} {A : Nat → Prop} {ap ad : Nat → Nat} {r : xR} {d : Nat → Int32} {po pn : Int32} {sv mm : xPl} {B : Int} (C : xC p l s m args meth c cL_acts 5 RL nm g.1 (xT g) A) (H : Gd B r) (hB : B ≤ 900) (Hp : pk po pn sv) (x y : Int32) (hx : upN x 16 = 0) (K : ∀ (r1 : xR) (d1 : Nat → Int32) (po1 pn1 : Int32) (sv1 : xPl) (k n pc : Nat) (lv : List (Nat × Value)), k ≤ 200 → n ≤ 1400 → decode cL_acts pc = .ok (.ireturn, 1) → Gd (B + 1) r1 → pk po1 pn1 sv1 → (11 < upN x 16 → sd r pn po1 pn1 sv1) → xW p l e (xRm 8 180 200 1400) s m args below meth c g.1 A 5 k n Q (wB g ap ad r1 d1 po1 pn1 sv1 mm) lv pc [.int 1]) : xW p l e (xRm 8 180 200 1400) s m args below meth c g.1 A 5 0 0 Q (wB g ap ad r d po pn sv mm) [(4, .int (nI (upN y 6))), (3, .int (nI (upN y 4))), (0, .ref (ap 0)), (1, .int x), (2, .int y)] 84 [] := by
  have hS := upN_lt y (n := 4) (by decide)
  have hV := upN_lt y (n := 6) (by decide)
  refine x_aload_n C 2 rfl rfl dL_acts_84 ?_
  refine x_EV0 [] [] C (a_switchRates l g ap ad r d po pn sv mm  H.1 Hp) rfl yV_X6_switchRates wML_L_21 0 rfl rfl rfl rfl (nle rfl) (nle rfl) (nle rfl) (nle rfl) (nle rfl) dL_acts_85 (fun E w h => h.elim) (fun r0 w0 h0 => ?_)
  obtain ⟨rfl, d1, po1, pn1, sv1, rfl, hs1⟩ := h0
  have HG1 : Gd (B) (r.set_kh (if r.kh = 0 then (1 : Int32) else 0)) := g_kh H (bool_ite (Or.inr rfl) (Or.inl rfl))
  refine x_st (st' := [.int (if r.kh = 0 then (1 : Int32) else 0)]) rfl ?_
  refine x_aload_n C 2 rfl rfl dL_acts_88 ?_
  refine x_EV0 [] [.int (if r.kh = 0 then (1 : Int32) else 0)] C (a_isHigh l g ap ad (r.set_kh (if r.kh = 0 then (1 : Int32) else 0)) d1 po1 pn1 sv1 mm  HG1.1 hs1.1) rfl yV_X6_isHigh wML_L_25 0 rfl rfl rfl rfl (nle rfl) (nle rfl) (nle rfl) (nle rfl) (nle rfl) dL_acts_89 (fun E w h => h.elim) (fun r0 w0 h0 => ?_)
  obtain ⟨rfl, rfl⟩ := h0
  refine x_st (st' := [.int ((r.set_kh (if r.kh = 0 then (1 : Int32) else 0)).kh), .int (if r.kh = 0 then (1 : Int32) else 0)]) rfl ?_
  refine x_icmp_ne C 99 (by decide) dL_acts_92 (fun hz => absurd rfl hz) (fun _ => ?_)
  refine x_iconst C 1 (by decide) dL_acts_95 ?_
  refine x_goto C 100 (by decide) dL_acts_96 ?_
  exact K (r.set_kh (if r.kh = 0 then (1 : Int32) else 0)) d1 po1 pn1 sv1 _ _ _ _ (nle rfl) (nle rfl) dL_acts_100 (HG1.up (show B ≤ B + 1 by omega)) hs1.1 (fun q => absurd q (by omega))
set_option maxRecDepth 100000 in
set_option maxHeartbeats 1000000 in
theorem ac_1 {p : Program} {l : Launch} {e : Env} {s : State} {m : MethodId} {args : Array Value} {below : List Frame} {meth : Method} {c : Code} {Q : State → Prop} {nm : String} {g : xGt} {A : Nat → Prop} {ap ad : Nat → Nat} {r : xR} {d : Nat → Int32} {po pn : Int32} {sv mm : xPl} {B : Int} (C : xC p l s m args meth c cL_acts 5 RL nm g.1 (xT g) A) (H : Gd B r) (hB : B ≤ 900) (Hp : pk po pn sv) (x y : Int32) (hx : upN x 16 = 1) (K : ∀ (r1 : xR) (d1 : Nat → Int32) (po1 pn1 : Int32) (sv1 : xPl) (k n pc : Nat) (lv : List (Nat × Value)), k ≤ 200 → n ≤ 1400 → decode cL_acts pc = .ok (.ireturn, 1) → Gd (B + 1) r1 → pk po1 pn1 sv1 → (11 < upN x 16 → sd r pn po1 pn1 sv1) → xW p l e (xRm 8 180 200 1400) s m args below meth c g.1 A 5 k n Q (wB g ap ad r1 d1 po1 pn1 sv1 mm) lv pc [.int 1]) : xW p l e (xRm 8 180 200 1400) s m args below meth c g.1 A 5 0 0 Q (wB g ap ad r d po pn sv mm) [(4, .int (nI (upN y 6))), (3, .int (nI (upN y 4))), (0, .ref (ap 0)), (1, .int x), (2, .int y)] 101 [] := by
  have hS := upN_lt y (n := 4) (by decide)
  have hV := upN_lt y (n := 6) (by decide)
  refine x_aload_n C 2 rfl rfl dL_acts_101 ?_
  refine x_iload_n C 4 rfl rfl dL_acts_102 ?_
  refine x_iconst C 1 (by decide) dL_acts_103 ?_
  refine x_iand C dL_acts_104 ?_
  refine x_iconst C 1 (by decide) dL_acts_105 ?_
  refine x_icmp_ne C 113 (by decide) dL_acts_106 (fun h1 => ?_) (fun h1 => ?_)
  · refine x_iconst C 0 (by decide) dL_acts_113 ?_
    refine x_EV0 [.int 0] [] C (a_cutThrottle l g ap ad r d po pn sv mm 0 (Or.inl rfl) H.1 Hp) rfl yV_X6_cutThrottle wML_L_28 0 rfl rfl rfl rfl (nle rfl) (nle rfl) (nle rfl) (nle rfl) (nle rfl) dL_acts_114 (fun E w h => h.elim) (fun r0 w0 h0 => ?_)
    obtain ⟨rfl, d1, po1, pn1, sv1, rfl, hs1⟩ := h0
    have HG1 : Gd (B) (r.set_kc 0) := g_kc H (Or.inl rfl)
    refine x_st (st' := [.int r.kc]) rfl ?_
    refine x_if_ne C 139 (by decide) dL_acts_117 (fun h2 => ?_) (fun h2 => ?_)
    · refine x_iconst C 1 (by decide) dL_acts_139 ?_
      refine x_goto C 144 (by decide) dL_acts_140 ?_
      exact K (r.set_kc 0) d1 po1 pn1 sv1 _ _ _ _ (nle rfl) (nle rfl) dL_acts_144 (HG1.up (show B ≤ B + 1 by omega)) hs1.1 (fun q => absurd q (by omega))
    · refine x_aload_n C 2 rfl rfl dL_acts_120 ?_
      refine x_EV0 [] [] C (a_isCut l g ap ad (r.set_kc 0) d1 po1 pn1 sv1 mm  HG1.1 hs1.1) rfl yV_X6_isCut wML_L_32 0 rfl rfl rfl rfl (nle rfl) (nle rfl) (nle rfl) (nle rfl) (nle rfl) dL_acts_121 (fun E w h => h.elim) (fun r0 w0 h0 => ?_)
      obtain ⟨rfl, rfl⟩ := h0
      refine x_st (st' := [.int ((r.set_kc 0).kc)]) rfl ?_
      refine x_iload_n C 4 rfl rfl dL_acts_124 ?_
      refine x_iconst C 1 (by decide) dL_acts_125 ?_
      refine x_iand C dL_acts_126 ?_
      refine x_iconst C 1 (by decide) dL_acts_127 ?_
      refine x_icmp_ne C 135 (by decide) dL_acts_128 (fun _ => ?_) (fun hz => absurd hz h1)
      refine x_iconst C 0 (by decide) dL_acts_135 ?_
      refine x_icmp_ne C 143 (by decide) dL_acts_136 (fun hz => absurd rfl hz) (fun _ => ?_)
      refine x_iconst C 1 (by decide) dL_acts_139 ?_
      refine x_goto C 144 (by decide) dL_acts_140 ?_
      exact K (r.set_kc 0) d1 po1 pn1 sv1 _ _ _ _ (nle rfl) (nle rfl) dL_acts_144 (HG1.up (show B ≤ B + 1 by omega)) hs1.1 (fun q => absurd q (by omega))
  · refine x_iconst C 1 (by decide) dL_acts_109 ?_
    refine x_goto C 114 (by decide) dL_acts_110 ?_
    refine x_EV0 [.int 1] [] C (a_cutThrottle l g ap ad r d po pn sv mm 1 (Or.inr rfl) H.1 Hp) rfl yV_X6_cutThrottle wML_L_28 0 rfl rfl rfl rfl (nle rfl) (nle rfl) (nle rfl) (nle rfl) (nle rfl) dL_acts_114 (fun E w h => h.elim) (fun r0 w0 h0 => ?_)
    obtain ⟨rfl, d2, po2, pn2, sv2, rfl, hs2⟩ := h0
    have HG2 : Gd (B) (r.set_kc 1) := g_kc H (Or.inr rfl)
    refine x_st (st' := [.int r.kc]) rfl ?_
    refine x_if_ne C 139 (by decide) dL_acts_117 (fun h3 => ?_) (fun h3 => ?_)
    · refine x_iconst C 1 (by decide) dL_acts_139 ?_
      refine x_goto C 144 (by decide) dL_acts_140 ?_
      exact K (r.set_kc 1) d2 po2 pn2 sv2 _ _ _ _ (nle rfl) (nle rfl) dL_acts_144 (HG2.up (show B ≤ B + 1 by omega)) hs2.1 (fun q => absurd q (by omega))
    · refine x_aload_n C 2 rfl rfl dL_acts_120 ?_
      refine x_EV0 [] [] C (a_isCut l g ap ad (r.set_kc 1) d2 po2 pn2 sv2 mm  HG2.1 hs2.1) rfl yV_X6_isCut wML_L_32 0 rfl rfl rfl rfl (nle rfl) (nle rfl) (nle rfl) (nle rfl) (nle rfl) dL_acts_121 (fun E w h => h.elim) (fun r0 w0 h0 => ?_)
      obtain ⟨rfl, rfl⟩ := h0
      refine x_st (st' := [.int ((r.set_kc 1).kc)]) rfl ?_
      refine x_iload_n C 4 rfl rfl dL_acts_124 ?_
      refine x_iconst C 1 (by decide) dL_acts_125 ?_
      refine x_iand C dL_acts_126 ?_
      refine x_iconst C 1 (by decide) dL_acts_127 ?_
      refine x_icmp_ne C 135 (by decide) dL_acts_128 (fun hz => absurd h1 hz) (fun _ => ?_)
      refine x_iconst C 1 (by decide) dL_acts_131 ?_
      refine x_goto C 136 (by decide) dL_acts_132 ?_
      refine x_icmp_ne C 143 (by decide) dL_acts_136 (fun hz => absurd rfl hz) (fun _ => ?_)
      refine x_iconst C 1 (by decide) dL_acts_139 ?_
      refine x_goto C 144 (by decide) dL_acts_140 ?_
      exact K (r.set_kc 1) d2 po2 pn2 sv2 _ _ _ _ (nle rfl) (nle rfl) dL_acts_144 (HG2.up (show B ≤ B + 1 by omega)) hs2.1 (fun q => absurd q (by omega))
set_option maxRecDepth 100000 in
set_option maxHeartbeats 1000000 in
theorem ac_2 {p : Program} {l : Launch} {e : Env} {s : State} {m : MethodId} {args : Array Value} {below : List Frame} {meth : Method} {c : Code} {Q : State → Prop} {nm : String} {g : xGt} {A : Nat → Prop} {ap ad : Nat → Nat} {r : xR} {d : Nat → Int32} {po pn : Int32} {sv mm : xPl} {B : Int} (C : xC p l s m args meth c cL_acts 5 RL nm g.1 (xT g) A) (H : Gd B r) (hB : B ≤ 900) (Hp : pk po pn sv) (x y : Int32) (hx : upN x 16 = 2) (K : ∀ (r1 : xR) (d1 : Nat → Int32) (po1 pn1 : Int32) (sv1 : xPl) (k n pc : Nat) (lv : List (Nat × Value)), k ≤ 200 → n ≤ 1400 → decode cL_acts pc = .ok (.ireturn, 1) → Gd (B + 1) r1 → pk po1 pn1 sv1 → (11 < upN x 16 → sd r pn po1 pn1 sv1) → xW p l e (xRm 8 180 200 1400) s m args below meth c g.1 A 5 k n Q (wB g ap ad r1 d1 po1 pn1 sv1 mm) lv pc [.int 1]) : xW p l e (xRm 8 180 200 1400) s m args below meth c g.1 A 5 0 0 Q (wB g ap ad r d po pn sv mm) [(4, .int (nI (upN y 6))), (3, .int (nI (upN y 4))), (0, .ref (ap 0)), (1, .int x), (2, .int y)] 145 [] := by
  have hS := upN_lt y (n := 4) (by decide)
  have hV := upN_lt y (n := 6) (by decide)
  refine x_aload_n C 2 rfl rfl dL_acts_145 ?_
  refine x_iload_n C 1 rfl rfl dL_acts_146 ?_
  refine x_iload_n C 4 rfl rfl dL_acts_147 ?_
  refine x_iconst C 2 (by decide) dL_acts_148 ?_
  refine x_ishr C dL_acts_149 ?_
  refine x_bipush C 126 (by decide) dL_acts_150 ?_
  refine x_st (st' := [.int (nI 126), .int (y >>> (2 &&& 31)), .int (nI (upN y 4)), .ref (ap 0)]) rfl ?_
  refine x_FS (w1 := ([] : va_W)) (wc := ([] : va_W)) (w2 := (wB g ap ad r d po pn sv mm)) [.int (y >>> (2 &&& 31)), .int (nI 126)] [.int (nI (upN y 4)), .ref (ap 0)] (wB g ap ad r d po pn sv mm) C (k_L_up l g (y >>> (2 &&& 31)) 126 (by decide) (by decide)) rfl yS_L_up wML_L_15 rfl rfl rfl (nle rfl) (nle rfl) (nle rfl) (nle rfl) (nle rfl) dL_acts_152 ?_
  refine x_EV0 [.int (nI (upN y 4)), .int (nI (upN (y >>> (2 &&& 31)) 126))] [] C (a_setRate l g ap ad r d po pn sv mm (upN y 4) (upN_lt _ (by decide)) (nI (upN (y >>> (2 &&& 31)) 126)) (bt_nI (n := upN (y >>> (2 &&& 31)) 126) (lo := 0) (hi := 125) (by have := upN_lt (y >>> (2 &&& 31)) (n := 126) (by decide); omega) (by have := upN_lt (y >>> (2 &&& 31)) (n := 126) (by decide); omega) (by have := upN_lt (y >>> (2 &&& 31)) (n := 126) (by decide); omega)) H.1 Hp) rfl yV_X6_setRate wML_L_35 0 rfl rfl rfl rfl (nle rfl) (nle rfl) (nle rfl) (nle rfl) (nle rfl) dL_acts_155 (fun E w h => h.elim) (fun r0 w0 h0 => ?_)
  obtain ⟨rfl, d1, po1, pn1, sv1, rfl, hs1⟩ := h0
  have HG1 : Gd (B) (r.set_kr (upd r.kr (slN r.kh (upN y 4)) (nI (upN (y >>> (2 &&& 31)) 126)))) := g_kr H (slN_lt r.kh hS) (bt_nI (n := upN (y >>> (2 &&& 31)) 126) (lo := 0) (hi := 125) (by have := upN_lt (y >>> (2 &&& 31)) (n := 126) (by decide); omega) (by have := upN_lt (y >>> (2 &&& 31)) (n := 126) (by decide); omega) (by have := upN_lt (y >>> (2 &&& 31)) (n := 126) (by decide); omega))
  refine x_st (st' := [.int (r.kr (slN r.kh (upN y 4)))]) rfl ?_
  refine x_if_lt C 181 (by decide) dL_acts_158 (fun hz => absurd hz (ge_of (H.2.1.2.2.1 _ (slN_lt r.kh hS)) (by decide))) (fun _ => ?_)
  refine x_aload_n C 2 rfl rfl dL_acts_161 ?_
  refine x_iload_n C 1 rfl rfl dL_acts_162 ?_
  refine x_EV0 [.int (nI (upN y 4))] [] C (a_rate l g ap ad (r.set_kr (upd r.kr (slN r.kh (upN y 4)) (nI (upN (y >>> (2 &&& 31)) 126)))) d1 po1 pn1 sv1 mm (upN y 4) (upN_lt _ (by decide)) HG1.1 hs1.1) rfl yV_X6_rate wML_L_38 0 rfl rfl rfl rfl (nle rfl) (nle rfl) (nle rfl) (nle rfl) (nle rfl) dL_acts_163 (fun E w h => h.elim) (fun r0 w0 h0 => ?_)
  obtain ⟨rfl, rfl⟩ := h0
  refine x_st (st' := [.int ((r.set_kr (upd r.kr (slN r.kh (upN y 4)) (nI (upN (y >>> (2 &&& 31)) 126)))).kr (slN (r.set_kr (upd r.kr (slN r.kh (upN y 4)) (nI (upN (y >>> (2 &&& 31)) 126)))).kh (upN y 4)))]) rfl ?_
  refine x_iload_n C 4 rfl rfl dL_acts_166 ?_
  refine x_iconst C 2 (by decide) dL_acts_167 ?_
  refine x_ishr C dL_acts_168 ?_
  refine x_bipush C 126 (by decide) dL_acts_169 ?_
  refine x_st (st' := [.int (nI 126), .int (y >>> (2 &&& 31)), .int ((r.set_kr (upd r.kr (slN r.kh (upN y 4)) (nI (upN (y >>> (2 &&& 31)) 126)))).kr (slN (r.set_kr (upd r.kr (slN r.kh (upN y 4)) (nI (upN (y >>> (2 &&& 31)) 126)))).kh (upN y 4)))]) rfl ?_
  refine x_FS (w1 := ([] : va_W)) (wc := ([] : va_W)) (w2 := (wB g ap ad (r.set_kr (upd r.kr (slN r.kh (upN y 4)) (nI (upN (y >>> (2 &&& 31)) 126)))) d1 po1 pn1 sv1 mm)) [.int (y >>> (2 &&& 31)), .int (nI 126)] [.int ((r.set_kr (upd r.kr (slN r.kh (upN y 4)) (nI (upN (y >>> (2 &&& 31)) 126)))).kr (slN (r.set_kr (upd r.kr (slN r.kh (upN y 4)) (nI (upN (y >>> (2 &&& 31)) 126)))).kh (upN y 4)))] (wB g ap ad (r.set_kr (upd r.kr (slN r.kh (upN y 4)) (nI (upN (y >>> (2 &&& 31)) 126)))) d1 po1 pn1 sv1 mm) C (k_L_up l g (y >>> (2 &&& 31)) 126 (by decide) (by decide)) rfl yS_L_up wML_L_15 rfl rfl rfl (nle rfl) (nle rfl) (nle rfl) (nle rfl) (nle rfl) dL_acts_171 ?_
  refine x_icmp_ne C 181 (by decide) dL_acts_174 (fun hz => absurd (up_eq (f := r.kr) (k := slN r.kh (upN y 4)) (x := nI (upN (y >>> (2 &&& 31)) 126))) hz) (fun _ => ?_)
  refine x_iconst C 1 (by decide) dL_acts_177 ?_
  refine x_goto C 182 (by decide) dL_acts_178 ?_
  exact K (r.set_kr (upd r.kr (slN r.kh (upN y 4)) (nI (upN (y >>> (2 &&& 31)) 126)))) d1 po1 pn1 sv1 _ _ _ _ (nle rfl) (nle rfl) dL_acts_182 (HG1.up (show B ≤ B + 1 by omega)) hs1.1 (fun q => absurd q (by omega))
set_option maxRecDepth 100000 in
set_option maxHeartbeats 1000000 in
theorem ac_3 {p : Program} {l : Launch} {e : Env} {s : State} {m : MethodId} {args : Array Value} {below : List Frame} {meth : Method} {c : Code} {Q : State → Prop} {nm : String} {g : xGt} {A : Nat → Prop} {ap ad : Nat → Nat} {r : xR} {d : Nat → Int32} {po pn : Int32} {sv mm : xPl} {B : Int} (C : xC p l s m args meth c cL_acts 5 RL nm g.1 (xT g) A) (H : Gd B r) (hB : B ≤ 900) (Hp : pk po pn sv) (x y : Int32) (hx : upN x 16 = 3) (K : ∀ (r1 : xR) (d1 : Nat → Int32) (po1 pn1 : Int32) (sv1 : xPl) (k n pc : Nat) (lv : List (Nat × Value)), k ≤ 200 → n ≤ 1400 → decode cL_acts pc = .ok (.ireturn, 1) → Gd (B + 1) r1 → pk po1 pn1 sv1 → (11 < upN x 16 → sd r pn po1 pn1 sv1) → xW p l e (xRm 8 180 200 1400) s m args below meth c g.1 A 5 k n Q (wB g ap ad r1 d1 po1 pn1 sv1 mm) lv pc [.int 1]) : xW p l e (xRm 8 180 200 1400) s m args below meth c g.1 A 5 0 0 Q (wB g ap ad r d po pn sv mm) [(4, .int (nI (upN y 6))), (3, .int (nI (upN y 4))), (0, .ref (ap 0)), (1, .int x), (2, .int y)] 183 [] := by
  have hS := upN_lt y (n := 4) (by decide)
  have hV := upN_lt y (n := 6) (by decide)
  refine x_aload_n C 2 rfl rfl dL_acts_183 ?_
  refine x_iload_n C 1 rfl rfl dL_acts_184 ?_
  refine x_iload_n C 4 rfl rfl dL_acts_185 ?_
  refine x_iconst C 2 (by decide) dL_acts_186 ?_
  refine x_ishr C dL_acts_187 ?_
  refine x_bipush C 101 (by decide) dL_acts_188 ?_
  refine x_st (st' := [.int (nI 101), .int (y >>> (2 &&& 31)), .int (nI (upN y 4)), .ref (ap 0)]) rfl ?_
  refine x_FS (w1 := ([] : va_W)) (wc := ([] : va_W)) (w2 := (wB g ap ad r d po pn sv mm)) [.int (y >>> (2 &&& 31)), .int (nI 101)] [.int (nI (upN y 4)), .ref (ap 0)] (wB g ap ad r d po pn sv mm) C (k_L_up l g (y >>> (2 &&& 31)) 101 (by decide) (by decide)) rfl yS_L_up wML_L_15 rfl rfl rfl (nle rfl) (nle rfl) (nle rfl) (nle rfl) (nle rfl) dL_acts_190 ?_
  refine x_EV0 [.int (nI (upN y 4)), .int (nI (upN (y >>> (2 &&& 31)) 101))] [] C (a_setExpo l g ap ad r d po pn sv mm (upN y 4) (upN_lt _ (by decide)) (nI (upN (y >>> (2 &&& 31)) 101)) (bt_nI (n := upN (y >>> (2 &&& 31)) 101) (lo := 0) (hi := 100) (by have := upN_lt (y >>> (2 &&& 31)) (n := 101) (by decide); omega) (by have := upN_lt (y >>> (2 &&& 31)) (n := 101) (by decide); omega) (by have := upN_lt (y >>> (2 &&& 31)) (n := 101) (by decide); omega)) H.1 Hp) rfl yV_X6_setExpo wML_L_41 0 rfl rfl rfl rfl (nle rfl) (nle rfl) (nle rfl) (nle rfl) (nle rfl) dL_acts_193 (fun E w h => h.elim) (fun r0 w0 h0 => ?_)
  obtain ⟨rfl, d1, po1, pn1, sv1, rfl, hs1⟩ := h0
  have HG1 : Gd (B) (r.set_ke (upd r.ke (upN y 4) (nI (upN (y >>> (2 &&& 31)) 101)))) := g_ke H hS (bt_nI (n := upN (y >>> (2 &&& 31)) 101) (lo := 0) (hi := 100) (by have := upN_lt (y >>> (2 &&& 31)) (n := 101) (by decide); omega) (by have := upN_lt (y >>> (2 &&& 31)) (n := 101) (by decide); omega) (by have := upN_lt (y >>> (2 &&& 31)) (n := 101) (by decide); omega))
  refine x_st (st' := [.int (r.ke (upN y 4))]) rfl ?_
  refine x_if_lt C 219 (by decide) dL_acts_196 (fun hz => absurd hz (ge_of (H.2.1.2.1 _ hS) (by decide))) (fun _ => ?_)
  refine x_aload_n C 2 rfl rfl dL_acts_199 ?_
  refine x_iload_n C 1 rfl rfl dL_acts_200 ?_
  refine x_EV0 [.int (nI (upN y 4))] [] C (a_expo l g ap ad (r.set_ke (upd r.ke (upN y 4) (nI (upN (y >>> (2 &&& 31)) 101)))) d1 po1 pn1 sv1 mm (upN y 4) (upN_lt _ (by decide)) HG1.1 hs1.1) rfl yV_X6_expo wML_L_44 0 rfl rfl rfl rfl (nle rfl) (nle rfl) (nle rfl) (nle rfl) (nle rfl) dL_acts_201 (fun E w h => h.elim) (fun r0 w0 h0 => ?_)
  obtain ⟨rfl, rfl⟩ := h0
  refine x_st (st' := [.int ((r.set_ke (upd r.ke (upN y 4) (nI (upN (y >>> (2 &&& 31)) 101)))).ke (upN y 4))]) rfl ?_
  refine x_iload_n C 4 rfl rfl dL_acts_204 ?_
  refine x_iconst C 2 (by decide) dL_acts_205 ?_
  refine x_ishr C dL_acts_206 ?_
  refine x_bipush C 101 (by decide) dL_acts_207 ?_
  refine x_st (st' := [.int (nI 101), .int (y >>> (2 &&& 31)), .int ((r.set_ke (upd r.ke (upN y 4) (nI (upN (y >>> (2 &&& 31)) 101)))).ke (upN y 4))]) rfl ?_
  refine x_FS (w1 := ([] : va_W)) (wc := ([] : va_W)) (w2 := (wB g ap ad (r.set_ke (upd r.ke (upN y 4) (nI (upN (y >>> (2 &&& 31)) 101)))) d1 po1 pn1 sv1 mm)) [.int (y >>> (2 &&& 31)), .int (nI 101)] [.int ((r.set_ke (upd r.ke (upN y 4) (nI (upN (y >>> (2 &&& 31)) 101)))).ke (upN y 4))] (wB g ap ad (r.set_ke (upd r.ke (upN y 4) (nI (upN (y >>> (2 &&& 31)) 101)))) d1 po1 pn1 sv1 mm) C (k_L_up l g (y >>> (2 &&& 31)) 101 (by decide) (by decide)) rfl yS_L_up wML_L_15 rfl rfl rfl (nle rfl) (nle rfl) (nle rfl) (nle rfl) (nle rfl) dL_acts_209 ?_
  refine x_icmp_ne C 219 (by decide) dL_acts_212 (fun hz => absurd (up_eq (f := r.ke) (k := upN y 4) (x := nI (upN (y >>> (2 &&& 31)) 101))) hz) (fun _ => ?_)
  refine x_iconst C 1 (by decide) dL_acts_215 ?_
  refine x_goto C 220 (by decide) dL_acts_216 ?_
  exact K (r.set_ke (upd r.ke (upN y 4) (nI (upN (y >>> (2 &&& 31)) 101)))) d1 po1 pn1 sv1 _ _ _ _ (nle rfl) (nle rfl) dL_acts_220 (HG1.up (show B ≤ B + 1 by omega)) hs1.1 (fun q => absurd q (by omega))
set_option maxRecDepth 100000 in
set_option maxHeartbeats 1000000 in
theorem ac_4 {p : Program} {l : Launch} {e : Env} {s : State} {m : MethodId} {args : Array Value} {below : List Frame} {meth : Method} {c : Code} {Q : State → Prop} {nm : String} {g : xGt} {A : Nat → Prop} {ap ad : Nat → Nat} {r : xR} {d : Nat → Int32} {po pn : Int32} {sv mm : xPl} {B : Int} (C : xC p l s m args meth c cL_acts 5 RL nm g.1 (xT g) A) (H : Gd B r) (hB : B ≤ 900) (Hp : pk po pn sv) (x y : Int32) (hx : upN x 16 = 4) (K : ∀ (r1 : xR) (d1 : Nat → Int32) (po1 pn1 : Int32) (sv1 : xPl) (k n pc : Nat) (lv : List (Nat × Value)), k ≤ 200 → n ≤ 1400 → decode cL_acts pc = .ok (.ireturn, 1) → Gd (B + 1) r1 → pk po1 pn1 sv1 → (11 < upN x 16 → sd r pn po1 pn1 sv1) → xW p l e (xRm 8 180 200 1400) s m args below meth c g.1 A 5 k n Q (wB g ap ad r1 d1 po1 pn1 sv1 mm) lv pc [.int 1]) : xW p l e (xRm 8 180 200 1400) s m args below meth c g.1 A 5 0 0 Q (wB g ap ad r d po pn sv mm) [(4, .int (nI (upN y 6))), (3, .int (nI (upN y 4))), (0, .ref (ap 0)), (1, .int x), (2, .int y)] 221 [] := by
  have hS := upN_lt y (n := 4) (by decide)
  have hV := upN_lt y (n := 6) (by decide)
  refine x_aload_n C 2 rfl rfl dL_acts_221 ?_
  refine x_iload_n C 1 rfl rfl dL_acts_222 ?_
  refine x_iload_n C 4 rfl rfl dL_acts_223 ?_
  refine x_iconst C 2 (by decide) dL_acts_224 ?_
  refine x_ishr C dL_acts_225 ?_
  refine x_bipush C 51 (by decide) dL_acts_226 ?_
  refine x_st (st' := [.int (nI 51), .int (y >>> (2 &&& 31)), .int (nI (upN y 4)), .ref (ap 0)]) rfl ?_
  refine x_FS (w1 := ([] : va_W)) (wc := ([] : va_W)) (w2 := (wB g ap ad r d po pn sv mm)) [.int (y >>> (2 &&& 31)), .int (nI 51)] [.int (nI (upN y 4)), .ref (ap 0)] (wB g ap ad r d po pn sv mm) C (k_L_up l g (y >>> (2 &&& 31)) 51 (by decide) (by decide)) rfl yS_L_up wML_L_15 rfl rfl rfl (nle rfl) (nle rfl) (nle rfl) (nle rfl) (nle rfl) dL_acts_228 ?_
  refine x_bipush C 25 (by decide) dL_acts_231 ?_
  refine x_isub C dL_acts_233 ?_
  refine x_EV0 [.int (nI (upN y 4)), .int ((nI (upN (y >>> (2 &&& 31)) 51)) - 25)] [] C (a_setTrim l g ap ad r d po pn sv mm (upN y 4) (upN_lt _ (by decide)) ((nI (upN (y >>> (2 &&& 31)) 51)) - 25) (bt_s (n := upN (y >>> (2 &&& 31)) 51) (k := 25) (lo := -25) (hi := 25) rfl (by have := upN_lt (y >>> (2 &&& 31)) (n := 51) (by decide); omega) (by decide) (by have := upN_lt (y >>> (2 &&& 31)) (n := 51) (by decide); omega) (by have := upN_lt (y >>> (2 &&& 31)) (n := 51) (by decide); omega)) H.1 Hp) rfl yV_X6_setTrim wML_L_47 0 rfl rfl rfl rfl (nle rfl) (nle rfl) (nle rfl) (nle rfl) (nle rfl) dL_acts_234 (fun E w h => h.elim) (fun r0 w0 h0 => ?_)
  obtain ⟨rfl, d1, po1, pn1, sv1, rfl, hs1⟩ := h0
  have HG1 : Gd (B) (r.set_kt (upd r.kt (slN r.kh (upN y 4)) ((nI (upN (y >>> (2 &&& 31)) 51)) - 25))) := g_kt H (slN_lt r.kh hS) (bt_s (n := upN (y >>> (2 &&& 31)) 51) (k := 25) (lo := -25) (hi := 25) rfl (by have := upN_lt (y >>> (2 &&& 31)) (n := 51) (by decide); omega) (by decide) (by have := upN_lt (y >>> (2 &&& 31)) (n := 51) (by decide); omega) (by have := upN_lt (y >>> (2 &&& 31)) (n := 51) (by decide); omega))
  refine x_st (st' := [.int (r.kt (slN r.kh (upN y 4)))]) rfl ?_
  refine x_bipush C (-25) (by decide) dL_acts_237 ?_
  refine x_icmp_lt C 265 (by decide) dL_acts_239 (fun hz => absurd hz (ge_of (H.2.1.2.2.2 _ (slN_lt r.kh hS)) (by decide))) (fun _ => ?_)
  refine x_aload_n C 2 rfl rfl dL_acts_242 ?_
  refine x_iload_n C 1 rfl rfl dL_acts_243 ?_
  refine x_EV0 [.int (nI (upN y 4))] [] C (a_trim l g ap ad (r.set_kt (upd r.kt (slN r.kh (upN y 4)) ((nI (upN (y >>> (2 &&& 31)) 51)) - 25))) d1 po1 pn1 sv1 mm (upN y 4) (upN_lt _ (by decide)) HG1.1 hs1.1) rfl yV_X6_trim wML_L_50 0 rfl rfl rfl rfl (nle rfl) (nle rfl) (nle rfl) (nle rfl) (nle rfl) dL_acts_244 (fun E w h => h.elim) (fun r0 w0 h0 => ?_)
  obtain ⟨rfl, rfl⟩ := h0
  refine x_st (st' := [.int ((r.set_kt (upd r.kt (slN r.kh (upN y 4)) ((nI (upN (y >>> (2 &&& 31)) 51)) - 25))).kt (slN (r.set_kt (upd r.kt (slN r.kh (upN y 4)) ((nI (upN (y >>> (2 &&& 31)) 51)) - 25))).kh (upN y 4)))]) rfl ?_
  refine x_iload_n C 4 rfl rfl dL_acts_247 ?_
  refine x_iconst C 2 (by decide) dL_acts_248 ?_
  refine x_ishr C dL_acts_249 ?_
  refine x_bipush C 51 (by decide) dL_acts_250 ?_
  refine x_st (st' := [.int (nI 51), .int (y >>> (2 &&& 31)), .int ((r.set_kt (upd r.kt (slN r.kh (upN y 4)) ((nI (upN (y >>> (2 &&& 31)) 51)) - 25))).kt (slN (r.set_kt (upd r.kt (slN r.kh (upN y 4)) ((nI (upN (y >>> (2 &&& 31)) 51)) - 25))).kh (upN y 4)))]) rfl ?_
  refine x_FS (w1 := ([] : va_W)) (wc := ([] : va_W)) (w2 := (wB g ap ad (r.set_kt (upd r.kt (slN r.kh (upN y 4)) ((nI (upN (y >>> (2 &&& 31)) 51)) - 25))) d1 po1 pn1 sv1 mm)) [.int (y >>> (2 &&& 31)), .int (nI 51)] [.int ((r.set_kt (upd r.kt (slN r.kh (upN y 4)) ((nI (upN (y >>> (2 &&& 31)) 51)) - 25))).kt (slN (r.set_kt (upd r.kt (slN r.kh (upN y 4)) ((nI (upN (y >>> (2 &&& 31)) 51)) - 25))).kh (upN y 4)))] (wB g ap ad (r.set_kt (upd r.kt (slN r.kh (upN y 4)) ((nI (upN (y >>> (2 &&& 31)) 51)) - 25))) d1 po1 pn1 sv1 mm) C (k_L_up l g (y >>> (2 &&& 31)) 51 (by decide) (by decide)) rfl yS_L_up wML_L_15 rfl rfl rfl (nle rfl) (nle rfl) (nle rfl) (nle rfl) (nle rfl) dL_acts_252 ?_
  refine x_bipush C 25 (by decide) dL_acts_255 ?_
  refine x_isub C dL_acts_257 ?_
  refine x_icmp_ne C 265 (by decide) dL_acts_258 (fun hz => absurd (up_eq (f := r.kt) (k := slN r.kh (upN y 4)) (x := nI (upN (y >>> (2 &&& 31)) 51) - 25)) hz) (fun _ => ?_)
  refine x_iconst C 1 (by decide) dL_acts_261 ?_
  refine x_goto C 266 (by decide) dL_acts_262 ?_
  exact K (r.set_kt (upd r.kt (slN r.kh (upN y 4)) ((nI (upN (y >>> (2 &&& 31)) 51)) - 25))) d1 po1 pn1 sv1 _ _ _ _ (nle rfl) (nle rfl) dL_acts_266 (HG1.up (show B ≤ B + 1 by omega)) hs1.1 (fun q => absurd q (by omega))
set_option maxRecDepth 100000 in
set_option maxHeartbeats 1000000 in
theorem ac_5 {p : Program} {l : Launch} {e : Env} {s : State} {m : MethodId} {args : Array Value} {below : List Frame} {meth : Method} {c : Code} {Q : State → Prop} {nm : String} {g : xGt} {A : Nat → Prop} {ap ad : Nat → Nat} {r : xR} {d : Nat → Int32} {po pn : Int32} {sv mm : xPl} {B : Int} (C : xC p l s m args meth c cL_acts 5 RL nm g.1 (xT g) A) (H : Gd B r) (hB : B ≤ 900) (Hp : pk po pn sv) (x y : Int32) (hx : upN x 16 = 5) (K : ∀ (r1 : xR) (d1 : Nat → Int32) (po1 pn1 : Int32) (sv1 : xPl) (k n pc : Nat) (lv : List (Nat × Value)), k ≤ 200 → n ≤ 1400 → decode cL_acts pc = .ok (.ireturn, 1) → Gd (B + 1) r1 → pk po1 pn1 sv1 → (11 < upN x 16 → sd r pn po1 pn1 sv1) → xW p l e (xRm 8 180 200 1400) s m args below meth c g.1 A 5 k n Q (wB g ap ad r1 d1 po1 pn1 sv1 mm) lv pc [.int 1]) : xW p l e (xRm 8 180 200 1400) s m args below meth c g.1 A 5 0 0 Q (wB g ap ad r d po pn sv mm) [(4, .int (nI (upN y 6))), (3, .int (nI (upN y 4))), (0, .ref (ap 0)), (1, .int x), (2, .int y)] 267 [] := by
  have hS := upN_lt y (n := 4) (by decide)
  have hV := upN_lt y (n := 6) (by decide)
  refine x_aload_n C 2 rfl rfl dL_acts_267 ?_
  refine x_EV0 [] [] C (a_mixes l g ap ad r d po pn sv mm  H.1 Hp) rfl yV_X6_mixes wML_L_53 0 rfl rfl rfl rfl (nle rfl) (nle rfl) (nle rfl) (nle rfl) (nle rfl) dL_acts_268 (fun E w h => h.elim) (fun r0 w0 h0 => ?_)
  obtain ⟨rfl, rfl⟩ := h0
  refine x_st (st' := [.int r.xn]) rfl ?_
  refine x_bipush C 12 (by decide) dL_acts_271 ?_
  refine x_icmp_ne C 293 (by decide) dL_acts_273 (fun h1 => ?_) (fun h1 => ?_)
  · refine x_aload_n C 2 rfl rfl dL_acts_293 ?_
    refine x_iload_n C 4 rfl rfl dL_acts_294 ?_
    refine x_iconst C 3 (by decide) dL_acts_295 ?_
    refine x_ishr C dL_acts_296 ?_
    refine x_iconst C 4 (by decide) dL_acts_297 ?_
    refine x_iload C 0 rfl dL_acts_298 ?_
    refine x_iaddN C 4 (upN y 6) rfl rfl dL_acts_300 ?_
    refine x_FS (w1 := ([] : va_W)) (wc := ([] : va_W)) (w2 := (wB g ap ad r d po pn sv mm)) [.int (y >>> (3 &&& 31)), .int (nI (4 + (upN y 6)))] [.ref (ap 0)] (wB g ap ad r d po pn sv mm) C (k_L_up l g (y >>> (3 &&& 31)) (4 + (upN y 6)) (by omega) (by omega)) rfl yS_L_up wML_L_15 rfl rfl rfl (nle rfl) (nle rfl) (nle rfl) (nle rfl) (nle rfl) dL_acts_301 ?_
    refine x_iload C 0 rfl dL_acts_304 ?_
    refine x_iconst C 1 (by decide) dL_acts_306 ?_
    refine x_iload_n C 4 rfl rfl dL_acts_307 ?_
    refine x_bipush C 7 (by decide) dL_acts_308 ?_
    refine x_ishr C dL_acts_310 ?_
    refine x_sipush C 150 (by decide) dL_acts_311 ?_
    refine x_st (st' := [.int (nI 150), .int (y >>> (7 &&& 31)), .int 1, .int (nI (upN y 6)), .int (nI (upN (y >>> (3 &&& 31)) (4 + (upN y 6)))), .ref (ap 0)]) rfl ?_
    refine x_FS (w1 := ([] : va_W)) (wc := ([] : va_W)) (w2 := (wB g ap ad r d po pn sv mm)) [.int (y >>> (7 &&& 31)), .int (nI 150)] [.int 1, .int (nI (upN y 6)), .int (nI (upN (y >>> (3 &&& 31)) (4 + (upN y 6)))), .ref (ap 0)] (wB g ap ad r d po pn sv mm) C (k_L_up l g (y >>> (7 &&& 31)) 150 (by decide) (by decide)) rfl yS_L_up wML_L_15 rfl rfl rfl (nle rfl) (nle rfl) (nle rfl) (nle rfl) (nle rfl) dL_acts_314 ?_
    refine x_iaddN C 1 (upN (y >>> (7 &&& 31)) 150) rfl rfl dL_acts_317 ?_
    refine x_iload_n C 4 rfl rfl dL_acts_318 ?_
    refine x_bipush C 9 (by decide) dL_acts_319 ?_
    refine x_ishr C dL_acts_321 ?_
    refine x_bipush C 101 (by decide) dL_acts_322 ?_
    refine x_st (st' := [.int (nI 101), .int (y >>> (9 &&& 31)), .int (nI (1 + (upN (y >>> (7 &&& 31)) 150))), .int (nI (upN y 6)), .int (nI (upN (y >>> (3 &&& 31)) (4 + (upN y 6)))), .ref (ap 0)]) rfl ?_
    refine x_FS (w1 := ([] : va_W)) (wc := ([] : va_W)) (w2 := (wB g ap ad r d po pn sv mm)) [.int (y >>> (9 &&& 31)), .int (nI 101)] [.int (nI (1 + (upN (y >>> (7 &&& 31)) 150))), .int (nI (upN y 6)), .int (nI (upN (y >>> (3 &&& 31)) (4 + (upN y 6)))), .ref (ap 0)] (wB g ap ad r d po pn sv mm) C (k_L_up l g (y >>> (9 &&& 31)) 101 (by decide) (by decide)) rfl yS_L_up wML_L_15 rfl rfl rfl (nle rfl) (nle rfl) (nle rfl) (nle rfl) (nle rfl) dL_acts_324 ?_
    refine x_bipush C 50 (by decide) dL_acts_327 ?_
    refine x_isub C dL_acts_329 ?_
    refine x_iload_n C 4 rfl rfl dL_acts_330 ?_
    refine x_bipush C 12 (by decide) dL_acts_331 ?_
    refine x_ishr C dL_acts_333 ?_
    refine x_iconst C 3 (by decide) dL_acts_334 ?_
    refine x_st (st' := [.int (nI 3), .int (y >>> (12 &&& 31)), .int ((nI (upN (y >>> (9 &&& 31)) 101)) - 50), .int (nI (1 + (upN (y >>> (7 &&& 31)) 150))), .int (nI (upN y 6)), .int (nI (upN (y >>> (3 &&& 31)) (4 + (upN y 6)))), .ref (ap 0)]) rfl ?_
    refine x_FS (w1 := ([] : va_W)) (wc := ([] : va_W)) (w2 := (wB g ap ad r d po pn sv mm)) [.int (y >>> (12 &&& 31)), .int (nI 3)] [.int ((nI (upN (y >>> (9 &&& 31)) 101)) - 50), .int (nI (1 + (upN (y >>> (7 &&& 31)) 150))), .int (nI (upN y 6)), .int (nI (upN (y >>> (3 &&& 31)) (4 + (upN y 6)))), .ref (ap 0)] (wB g ap ad r d po pn sv mm) C (k_L_up l g (y >>> (12 &&& 31)) 3 (by decide) (by decide)) rfl yS_L_up wML_L_15 rfl rfl rfl (nle rfl) (nle rfl) (nle rfl) (nle rfl) (nle rfl) dL_acts_335 ?_
    refine x_EV0 [.int (nI (upN (y >>> (3 &&& 31)) (4 + (upN y 6)))), .int (nI (upN y 6)), .int (nI (1 + (upN (y >>> (7 &&& 31)) 150))), .int ((nI (upN (y >>> (9 &&& 31)) 101)) - 50), .int (nI (upN (y >>> (12 &&& 31)) 3))] [] C (a_addMix l g ap ad r d po pn sv mm (upN (y >>> (3 &&& 31)) (4 + (upN y 6))) (upN y 6) (upN_lt _ (by decide)) (upN_lt (y >>> (3 &&& 31)) (by omega)) (nI (1 + (upN (y >>> (7 &&& 31)) 150))) ((nI (upN (y >>> (9 &&& 31)) 101)) - 50) (nI (upN (y >>> (12 &&& 31)) 3)) (bt_nI (n := 1 + upN (y >>> (7 &&& 31)) 150) (lo := 1) (hi := 150) (by have := upN_lt (y >>> (7 &&& 31)) (n := 150) (by decide); omega) (by have := upN_lt (y >>> (7 &&& 31)) (n := 150) (by decide); omega) (by have := upN_lt (y >>> (7 &&& 31)) (n := 150) (by decide); omega)) (bt_s (n := upN (y >>> (9 &&& 31)) 101) (k := 50) (lo := -50) (hi := 50) rfl (by have := upN_lt (y >>> (9 &&& 31)) (n := 101) (by decide); omega) (by decide) (by have := upN_lt (y >>> (9 &&& 31)) (n := 101) (by decide); omega) (by have := upN_lt (y >>> (9 &&& 31)) (n := 101) (by decide); omega)) (bt_nI (n := upN (y >>> (12 &&& 31)) 3) (lo := 0) (hi := 2) (by have := upN_lt (y >>> (12 &&& 31)) (n := 3) (by decide); omega) (by have := upN_lt (y >>> (12 &&& 31)) (n := 3) (by decide); omega) (by have := upN_lt (y >>> (12 &&& 31)) (n := 3) (by decide); omega)) (xn_lt H.1.1 h1) H.1 Hp) rfl yV_X6_addMix wML_L_60 0 rfl rfl rfl rfl (nle rfl) (nle rfl) (nle rfl) (nle rfl) (nle rfl) dL_acts_338 (fun E w h => h.elim) (fun r0 w0 h0 => ?_)
    obtain ⟨rfl, d1, po1, pn1, sv1, rfl, hs1⟩ := h0
    have HG1 : Gd (B) (adC r (upN (y >>> (3 &&& 31)) (4 + (upN y 6))) (upN y 6) (nI (1 + (upN (y >>> (7 &&& 31)) 150))) ((nI (upN (y >>> (9 &&& 31)) 101)) - 50) (nI (upN (y >>> (12 &&& 31)) 3))) := g_ad H hV (upN_lt (y >>> (3 &&& 31)) (by omega)) (xn_lt H.1.1 h1) _ _ _
    refine x_st (st' := [.int (r.xn + 1 - 1)]) rfl ?_
    refine x_aload_n C 2 rfl rfl dL_acts_341 ?_
    refine x_EV0 [] [.int (r.xn + 1 - 1)] C (a_mixes l g ap ad (adC r (upN (y >>> (3 &&& 31)) (4 + (upN y 6))) (upN y 6) (nI (1 + (upN (y >>> (7 &&& 31)) 150))) ((nI (upN (y >>> (9 &&& 31)) 101)) - 50) (nI (upN (y >>> (12 &&& 31)) 3))) d1 po1 pn1 sv1 mm  HG1.1 hs1.1) rfl yV_X6_mixes wML_L_53 0 rfl rfl rfl rfl (nle rfl) (nle rfl) (nle rfl) (nle rfl) (nle rfl) dL_acts_342 (fun E w h => h.elim) (fun r0 w0 h0 => ?_)
    obtain ⟨rfl, rfl⟩ := h0
    refine x_st (st' := [.int ((adC r (upN (y >>> (3 &&& 31)) (4 + (upN y 6))) (upN y 6) (nI (1 + (upN (y >>> (7 &&& 31)) 150))) ((nI (upN (y >>> (9 &&& 31)) 101)) - 50) (nI (upN (y >>> (12 &&& 31)) 3))).xn), .int (r.xn + 1 - 1)]) rfl ?_
    refine x_iconst C 1 (by decide) dL_acts_345 ?_
    refine x_isub C dL_acts_346 ?_
    refine x_icmp_ne C 354 (by decide) dL_acts_347 (fun hz => absurd rfl hz) (fun _ => ?_)
    refine x_iconst C 1 (by decide) dL_acts_350 ?_
    refine x_goto C 355 (by decide) dL_acts_351 ?_
    exact K (adC r (upN (y >>> (3 &&& 31)) (4 + (upN y 6))) (upN y 6) (nI (1 + (upN (y >>> (7 &&& 31)) 150))) ((nI (upN (y >>> (9 &&& 31)) 101)) - 50) (nI (upN (y >>> (12 &&& 31)) 3))) d1 po1 pn1 sv1 _ _ _ _ (nle rfl) (nle rfl) dL_acts_355 (HG1.up (show B ≤ B + 1 by omega)) hs1.1 (fun q => absurd q (by omega))
  · refine x_aload_n C 2 rfl rfl dL_acts_276 ?_
    refine x_iload C 0 rfl dL_acts_277 ?_
    refine x_EV0 [.int (nI (upN y 6))] [] C (a_clearMixes l g ap ad r d po pn sv mm (upN y 6) (upN_lt _ (by decide)) H.1 Hp) rfl yV_X6_clearMixes wML_L_57 0 rfl rfl rfl rfl (nle rfl) (nle rfl) (nle rfl) (nle rfl) (nle rfl) dL_acts_279 (fun E w h => h.elim) (fun r0 w0 h0 => ?_)
    obtain ⟨rfl, d2, po2, pn2, sv2, rfl, hs2⟩ := h0
    have HG2 : Gd (B) (clC r (upN y 6)) := (g_cl H (upN y 6)).1
    refine x_st (st' := [.int (r.xn - (clC r (upN y 6)).xn)]) rfl ?_
    refine x_if_lt C 289 (by decide) dL_acts_282 (fun hz => absurd hz (g_cl H (upN y 6)).2.1) (fun _ => ?_)
    refine x_iconst C 1 (by decide) dL_acts_285 ?_
    refine x_goto C 355 (by decide) dL_acts_286 ?_
    exact K (clC r (upN y 6)) d2 po2 pn2 sv2 _ _ _ _ (nle rfl) (nle rfl) dL_acts_355 (HG2.up (show B ≤ B + 1 by omega)) hs2.1 (fun q => absurd q (by omega))
set_option maxRecDepth 100000 in
set_option maxHeartbeats 1000000 in
theorem ac_6 {p : Program} {l : Launch} {e : Env} {s : State} {m : MethodId} {args : Array Value} {below : List Frame} {meth : Method} {c : Code} {Q : State → Prop} {nm : String} {g : xGt} {A : Nat → Prop} {ap ad : Nat → Nat} {r : xR} {d : Nat → Int32} {po pn : Int32} {sv mm : xPl} {B : Int} (C : xC p l s m args meth c cL_acts 5 RL nm g.1 (xT g) A) (H : Gd B r) (hB : B ≤ 900) (Hp : pk po pn sv) (x y : Int32) (hx : upN x 16 = 6) (K : ∀ (r1 : xR) (d1 : Nat → Int32) (po1 pn1 : Int32) (sv1 : xPl) (k n pc : Nat) (lv : List (Nat × Value)), k ≤ 200 → n ≤ 1400 → decode cL_acts pc = .ok (.ireturn, 1) → Gd (B + 1) r1 → pk po1 pn1 sv1 → (11 < upN x 16 → sd r pn po1 pn1 sv1) → xW p l e (xRm 8 180 200 1400) s m args below meth c g.1 A 5 k n Q (wB g ap ad r1 d1 po1 pn1 sv1 mm) lv pc [.int 1]) : xW p l e (xRm 8 180 200 1400) s m args below meth c g.1 A 5 0 0 Q (wB g ap ad r d po pn sv mm) [(4, .int (nI (upN y 6))), (3, .int (nI (upN y 4))), (0, .ref (ap 0)), (1, .int x), (2, .int y)] 356 [] := by
  have hS := upN_lt y (n := 4) (by decide)
  have hV := upN_lt y (n := 6) (by decide)
  refine x_aload_n C 2 rfl rfl dL_acts_356 ?_
  refine x_EV0 [] [] C (a_mixes l g ap ad r d po pn sv mm  H.1 Hp) rfl yV_X6_mixes wML_L_53 0 rfl rfl rfl rfl (nle rfl) (nle rfl) (nle rfl) (nle rfl) (nle rfl) dL_acts_357 (fun E w h => h.elim) (fun r0 w0 h0 => ?_)
  obtain ⟨rfl, rfl⟩ := h0
  refine x_st (st' := [.int r.xn]) rfl ?_
  refine x_if_eq C 382 (by decide) dL_acts_360 (fun h1 => ?_) (fun h1 => ?_)
  · refine x_iconst C 1 (by decide) dL_acts_382 ?_
    refine x_goto C 387 (by decide) dL_acts_383 ?_
    exact K r d po pn sv _ _ _ _ (nle rfl) (nle rfl) dL_acts_387 (H.up (show B ≤ B + 1 by omega)) Hp (fun q => absurd q (by omega))
  · refine x_aload_n C 2 rfl rfl dL_acts_363 ?_
    refine x_iload_n C 4 rfl rfl dL_acts_364 ?_
    refine x_aload_n C 2 rfl rfl dL_acts_365 ?_
    refine x_EV0 [] [.int y, .ref (ap 0)] C (a_mixes l g ap ad r d po pn sv mm  H.1 Hp) rfl yV_X6_mixes wML_L_53 0 rfl rfl rfl rfl (nle rfl) (nle rfl) (nle rfl) (nle rfl) (nle rfl) dL_acts_366 (fun E w h => h.elim) (fun r0 w0 h0 => ?_)
    obtain ⟨rfl, rfl⟩ := h0
    refine x_st (st' := [.int r.xn, .int y, .ref (ap 0)]) rfl ?_
    refine x_st (st' := [.int (nI (xN r)), .int y, .ref (ap 0)]) (by rw [← xn_ne H.1.1]) ?_
    refine x_FS (w1 := ([] : va_W)) (wc := ([] : va_W)) (w2 := (wB g ap ad r d po pn sv mm)) [.int y, .int (nI (xN r))] [.ref (ap 0)] (wB g ap ad r d po pn sv mm) C (k_L_up l g y (xN r) (xn_pos H.1.1 h1) (by have := xn_12 H.1.1; omega)) rfl yS_L_up wML_L_15 rfl rfl rfl (nle rfl) (nle rfl) (nle rfl) (nle rfl) (nle rfl) dL_acts_369 ?_
    refine x_EV0 [.int (nI (upN y (xN r)))] [] C (a_removeMix l g ap ad r d po pn sv mm (upN y (xN r)) (upN_lt y (xn_pos H.1.1 h1)) H.1 Hp) rfl yV_X6_removeMix wML_L_64 0 rfl rfl rfl rfl (nle rfl) (nle rfl) (nle rfl) (nle rfl) (nle rfl) dL_acts_372 (fun E w h => h.elim) (fun r0 w0 h0 => ?_)
    obtain ⟨rfl, d1, po1, pn1, sv1, rfl, hs1⟩ := h0
    have HG1 : Gd (B) (rmC r (upN y (xN r))) := g_rm H (upN_lt y (xn_pos H.1.1 h1))
    refine x_st (st' := [.int (r.xn - 1)]) rfl ?_
    refine x_aload_n C 2 rfl rfl dL_acts_375 ?_
    refine x_EV0 [] [.int (r.xn - 1)] C (a_mixes l g ap ad (rmC r (upN y (xN r))) d1 po1 pn1 sv1 mm  HG1.1 hs1.1) rfl yV_X6_mixes wML_L_53 0 rfl rfl rfl rfl (nle rfl) (nle rfl) (nle rfl) (nle rfl) (nle rfl) dL_acts_376 (fun E w h => h.elim) (fun r0 w0 h0 => ?_)
    obtain ⟨rfl, rfl⟩ := h0
    refine x_st (st' := [.int ((rmC r (upN y (xN r))).xn), .int (r.xn - 1)]) rfl ?_
    refine x_icmp_ne C 386 (by decide) dL_acts_379 (fun hz => absurd rfl hz) (fun _ => ?_)
    refine x_iconst C 1 (by decide) dL_acts_382 ?_
    refine x_goto C 387 (by decide) dL_acts_383 ?_
    exact K (rmC r (upN y (xN r))) d1 po1 pn1 sv1 _ _ _ _ (nle rfl) (nle rfl) dL_acts_387 (HG1.up (show B ≤ B + 1 by omega)) hs1.1 (fun q => absurd q (by omega))
set_option maxRecDepth 100000 in
set_option maxHeartbeats 1000000 in
theorem ac_7 {p : Program} {l : Launch} {e : Env} {s : State} {m : MethodId} {args : Array Value} {below : List Frame} {meth : Method} {c : Code} {Q : State → Prop} {nm : String} {g : xGt} {A : Nat → Prop} {ap ad : Nat → Nat} {r : xR} {d : Nat → Int32} {po pn : Int32} {sv mm : xPl} {B : Int} (C : xC p l s m args meth c cL_acts 5 RL nm g.1 (xT g) A) (H : Gd B r) (hB : B ≤ 900) (Hp : pk po pn sv) (x y : Int32) (hx : upN x 16 = 7) (K : ∀ (r1 : xR) (d1 : Nat → Int32) (po1 pn1 : Int32) (sv1 : xPl) (k n pc : Nat) (lv : List (Nat × Value)), k ≤ 200 → n ≤ 1400 → decode cL_acts pc = .ok (.ireturn, 1) → Gd (B + 1) r1 → pk po1 pn1 sv1 → (11 < upN x 16 → sd r pn po1 pn1 sv1) → xW p l e (xRm 8 180 200 1400) s m args below meth c g.1 A 5 k n Q (wB g ap ad r1 d1 po1 pn1 sv1 mm) lv pc [.int 1]) : xW p l e (xRm 8 180 200 1400) s m args below meth c g.1 A 5 0 0 Q (wB g ap ad r d po pn sv mm) [(4, .int (nI (upN y 6))), (3, .int (nI (upN y 4))), (0, .ref (ap 0)), (1, .int x), (2, .int y)] 388 [] := by
  have hS := upN_lt y (n := 4) (by decide)
  have hV := upN_lt y (n := 6) (by decide)
  refine x_iload_n C 4 rfl rfl dL_acts_388 ?_
  refine x_iconst C 1 (by decide) dL_acts_389 ?_
  refine x_iand C dL_acts_390 ?_
  refine x_iconst C 1 (by decide) dL_acts_391 ?_
  refine x_icmp_ne C 427 (by decide) dL_acts_392 (fun h1 => ?_) (fun h1 => ?_)
  · refine x_aload_n C 2 rfl rfl dL_acts_427 ?_
    refine x_iload C 0 rfl dL_acts_428 ?_
    refine x_iload_n C 4 rfl rfl dL_acts_430 ?_
    refine x_iconst C 4 (by decide) dL_acts_431 ?_
    refine x_ishr C dL_acts_432 ?_
    refine x_bipush C 101 (by decide) dL_acts_433 ?_
    refine x_st (st' := [.int (nI 101), .int (y >>> (4 &&& 31)), .int (nI (upN y 6)), .ref (ap 0)]) rfl ?_
    refine x_FS (w1 := ([] : va_W)) (wc := ([] : va_W)) (w2 := (wB g ap ad r d po pn sv mm)) [.int (y >>> (4 &&& 31)), .int (nI 101)] [.int (nI (upN y 6)), .ref (ap 0)] (wB g ap ad r d po pn sv mm) C (k_L_up l g (y >>> (4 &&& 31)) 101 (by decide) (by decide)) rfl yS_L_up wML_L_15 rfl rfl rfl (nle rfl) (nle rfl) (nle rfl) (nle rfl) (nle rfl) dL_acts_435 ?_
    refine x_bipush C 50 (by decide) dL_acts_438 ?_
    refine x_isub C dL_acts_440 ?_
    refine x_EV0 [.int (nI (upN y 6)), .int ((nI (upN (y >>> (4 &&& 31)) 101)) - 50)] [] C (a_setNeutral l g ap ad r d po pn sv mm (upN y 6) (upN_lt _ (by decide)) ((nI (upN (y >>> (4 &&& 31)) 101)) - 50) (bt_s (n := upN (y >>> (4 &&& 31)) 101) (k := 50) (lo := -50) (hi := 50) rfl (by have := upN_lt (y >>> (4 &&& 31)) (n := 101) (by decide); omega) (by decide) (by have := upN_lt (y >>> (4 &&& 31)) (n := 101) (by decide); omega) (by have := upN_lt (y >>> (4 &&& 31)) (n := 101) (by decide); omega)) H.1 Hp) rfl yV_X6_setNeutral wML_L_77 0 rfl rfl rfl rfl (nle rfl) (nle rfl) (nle rfl) (nle rfl) (nle rfl) dL_acts_441 (fun E w h => h.elim) (fun r0 w0 h0 => ?_)
    obtain ⟨rfl, d1, po1, pn1, sv1, rfl, hs1⟩ := h0
    have HG1 : Gd (B) (r.set_vn (upd r.vn (upN y 6) ((nI (upN (y >>> (4 &&& 31)) 101)) - 50))) := g_vn H hV (bt_s (n := upN (y >>> (4 &&& 31)) 101) (k := 50) (lo := -50) (hi := 50) rfl (by have := upN_lt (y >>> (4 &&& 31)) (n := 101) (by decide); omega) (by decide) (by have := upN_lt (y >>> (4 &&& 31)) (n := 101) (by decide); omega) (by have := upN_lt (y >>> (4 &&& 31)) (n := 101) (by decide); omega))
    refine x_st (st' := [.int (r.vn (upN y 6))]) rfl ?_
    refine x_bipush C (-50) (by decide) dL_acts_444 ?_
    refine x_icmp_lt C 453 (by decide) dL_acts_446 (fun hz => absurd hz (ge_of (H.2.2.2.1 _ hV).2.1 (by decide))) (fun _ => ?_)
    refine x_iconst C 1 (by decide) dL_acts_449 ?_
    refine x_goto C 454 (by decide) dL_acts_450 ?_
    exact K (r.set_vn (upd r.vn (upN y 6) ((nI (upN (y >>> (4 &&& 31)) 101)) - 50))) d1 po1 pn1 sv1 _ _ _ _ (nle rfl) (nle rfl) dL_acts_454 (HG1.up (show B ≤ B + 1 by omega)) hs1.1 (fun q => absurd q (by omega))
  · refine x_aload_n C 2 rfl rfl dL_acts_395 ?_
    refine x_iload C 0 rfl dL_acts_396 ?_
    refine x_EV0 [.int (nI (upN y 6))] [] C (a_reverse l g ap ad r d po pn sv mm (upN y 6) (upN_lt _ (by decide)) H.1 Hp) rfl yV_X6_reverse wML_L_67 0 rfl rfl rfl rfl (nle rfl) (nle rfl) (nle rfl) (nle rfl) (nle rfl) dL_acts_398 (fun E w h => h.elim) (fun r0 w0 h0 => ?_)
    obtain ⟨rfl, d2, po2, pn2, sv2, rfl, hs2⟩ := h0
    have HG2 : Gd (B) (r.set_vd (upd r.vd (upN y 6) (-(r.vd (upN y 6))))) := g_vd H hV
    refine x_st (st' := [.int (sp_X6_reverse r (nI (upN y 6)))]) rfl ?_
    refine x_if_ne C 419 (by decide) dL_acts_401 (fun h2 => ?_) (fun h2 => ?_)
    · refine x_iconst C 1 (by decide) dL_acts_419 ?_
      refine x_goto C 454 (by decide) dL_acts_420 ?_
      exact K (r.set_vd (upd r.vd (upN y 6) (-(r.vd (upN y 6))))) d2 po2 pn2 sv2 _ _ _ _ (nle rfl) (nle rfl) dL_acts_454 (HG2.up (show B ≤ B + 1 by omega)) hs2.1 (fun q => absurd q (by omega))
    · refine x_aload_n C 2 rfl rfl dL_acts_404 ?_
      refine x_iload C 0 rfl dL_acts_405 ?_
      refine x_EV0 [.int (nI (upN y 6))] [] C (a_aim l g ap ad (r.set_vd (upd r.vd (upN y 6) (-(r.vd (upN y 6))))) d2 po2 pn2 sv2 mm (upN y 6) (upN_lt _ (by decide)) HG2.1 hs2.1 HG2.2.2.1) rfl yV_X6_aim wML_L_71 0 rfl rfl rfl rfl (nle rfl) (nle rfl) (nle rfl) (nle rfl) (nle rfl) dL_acts_407 (fun E w h => h.elim) (fun r0 w0 h0 => ?_)
      obtain ⟨rfl, d3, rfl⟩ := h0
      refine x_st (st' := [.int (aimA (r.set_vd (upd r.vd (upN y 6) (-(r.vd (upN y 6))))) (upN y 6))]) rfl ?_
      refine x_FS (w1 := ([] : va_W)) (wc := ([] : va_W)) (w2 := (wB g ap ad (r.set_vd (upd r.vd (upN y 6) (-(r.vd (upN y 6))))) d3 po2 pn2 sv2 mm)) [.int (aimA (r.set_vd (upd r.vd (upN y 6) (-(r.vd (upN y 6))))) (upN y 6))] [] (wB g ap ad (r.set_vd (upd r.vd (upN y 6) (-(r.vd (upN y 6))))) d3 po2 pn2 sv2 mm) C (k_L_size l g (aimA (r.set_vd (upd r.vd (upN y 6) (-(r.vd (upN y 6))))) (upN y 6))) rfl yS_L_size wML_L_74 rfl rfl rfl (nle rfl) (nle rfl) (nle rfl) (nle rfl) (nle rfl) dL_acts_410 ?_
      refine x_sipush C 150 (by decide) dL_acts_413 ?_
      refine x_icmp_gt C 423 (by decide) dL_acts_416 (fun hz => absurd hz (Int32.not_lt.mpr (sz_le (n := 150) (by decide) (by decide) (aim_b HG2.2.2.2.1 hV)))) (fun _ => ?_)
      refine x_iconst C 1 (by decide) dL_acts_419 ?_
      refine x_goto C 454 (by decide) dL_acts_420 ?_
      exact K (r.set_vd (upd r.vd (upN y 6) (-(r.vd (upN y 6))))) d3 po2 pn2 sv2 _ _ _ _ (nle rfl) (nle rfl) dL_acts_454 (HG2.up (show B ≤ B + 1 by omega)) hs2.1 (fun q => absurd q (by omega))
set_option maxRecDepth 100000 in
set_option maxHeartbeats 1000000 in
theorem ac_8 {p : Program} {l : Launch} {e : Env} {s : State} {m : MethodId} {args : Array Value} {below : List Frame} {meth : Method} {c : Code} {Q : State → Prop} {nm : String} {g : xGt} {A : Nat → Prop} {ap ad : Nat → Nat} {r : xR} {d : Nat → Int32} {po pn : Int32} {sv mm : xPl} {B : Int} (C : xC p l s m args meth c cL_acts 5 RL nm g.1 (xT g) A) (H : Gd B r) (hB : B ≤ 900) (Hp : pk po pn sv) (x y : Int32) (hx : upN x 16 = 8) (K : ∀ (r1 : xR) (d1 : Nat → Int32) (po1 pn1 : Int32) (sv1 : xPl) (k n pc : Nat) (lv : List (Nat × Value)), k ≤ 200 → n ≤ 1400 → decode cL_acts pc = .ok (.ireturn, 1) → Gd (B + 1) r1 → pk po1 pn1 sv1 → (11 < upN x 16 → sd r pn po1 pn1 sv1) → xW p l e (xRm 8 180 200 1400) s m args below meth c g.1 A 5 k n Q (wB g ap ad r1 d1 po1 pn1 sv1 mm) lv pc [.int 1]) : xW p l e (xRm 8 180 200 1400) s m args below meth c g.1 A 5 0 0 Q (wB g ap ad r d po pn sv mm) [(4, .int (nI (upN y 6))), (3, .int (nI (upN y 4))), (0, .ref (ap 0)), (1, .int x), (2, .int y)] 455 [] := by
  have hS := upN_lt y (n := 4) (by decide)
  have hV := upN_lt y (n := 6) (by decide)
  refine x_aload_n C 2 rfl rfl dL_acts_455 ?_
  refine x_iload C 0 rfl dL_acts_456 ?_
  refine x_iload_n C 4 rfl rfl dL_acts_458 ?_
  refine x_iconst C 3 (by decide) dL_acts_459 ?_
  refine x_ishr C dL_acts_460 ?_
  refine x_sipush C 151 (by decide) dL_acts_461 ?_
  refine x_st (st' := [.int (nI 151), .int (y >>> (3 &&& 31)), .int (nI (upN y 6)), .ref (ap 0)]) rfl ?_
  refine x_FS (w1 := ([] : va_W)) (wc := ([] : va_W)) (w2 := (wB g ap ad r d po pn sv mm)) [.int (y >>> (3 &&& 31)), .int (nI 151)] [.int (nI (upN y 6)), .ref (ap 0)] (wB g ap ad r d po pn sv mm) C (k_L_up l g (y >>> (3 &&& 31)) 151 (by decide) (by decide)) rfl yS_L_up wML_L_15 rfl rfl rfl (nle rfl) (nle rfl) (nle rfl) (nle rfl) (nle rfl) dL_acts_464 ?_
  refine x_ineg C dL_acts_467 ?_
  refine x_iload_n C 4 rfl rfl dL_acts_468 ?_
  refine x_bipush C 8 (by decide) dL_acts_469 ?_
  refine x_ishr C dL_acts_471 ?_
  refine x_sipush C 151 (by decide) dL_acts_472 ?_
  refine x_st (st' := [.int (nI 151), .int (y >>> (8 &&& 31)), .int (-(nI (upN (y >>> (3 &&& 31)) 151))), .int (nI (upN y 6)), .ref (ap 0)]) rfl ?_
  refine x_FS (w1 := ([] : va_W)) (wc := ([] : va_W)) (w2 := (wB g ap ad r d po pn sv mm)) [.int (y >>> (8 &&& 31)), .int (nI 151)] [.int (-(nI (upN (y >>> (3 &&& 31)) 151))), .int (nI (upN y 6)), .ref (ap 0)] (wB g ap ad r d po pn sv mm) C (k_L_up l g (y >>> (8 &&& 31)) 151 (by decide) (by decide)) rfl yS_L_up wML_L_15 rfl rfl rfl (nle rfl) (nle rfl) (nle rfl) (nle rfl) (nle rfl) dL_acts_475 ?_
  refine x_EV0 [.int (nI (upN y 6)), .int (-(nI (upN (y >>> (3 &&& 31)) 151))), .int (nI (upN (y >>> (8 &&& 31)) 151))] [] C (a_setLimits l g ap ad r d po pn sv mm (upN y 6) (upN_lt _ (by decide)) (-(nI (upN (y >>> (3 &&& 31)) 151))) (bt_m (n := upN (y >>> (3 &&& 31)) 151) (lo := -150) (hi := 0) (by have := upN_lt (y >>> (3 &&& 31)) (n := 151) (by decide); omega) (by have := upN_lt (y >>> (3 &&& 31)) (n := 151) (by decide); omega) (by have := upN_lt (y >>> (3 &&& 31)) (n := 151) (by decide); omega)) (nI (upN (y >>> (8 &&& 31)) 151)) (bt_nI (n := upN (y >>> (8 &&& 31)) 151) (lo := 0) (hi := 150) (by have := upN_lt (y >>> (8 &&& 31)) (n := 151) (by decide); omega) (by have := upN_lt (y >>> (8 &&& 31)) (n := 151) (by decide); omega) (by have := upN_lt (y >>> (8 &&& 31)) (n := 151) (by decide); omega)) H.1 Hp) rfl yV_X6_setLimits wML_L_80 0 rfl rfl rfl rfl (nle rfl) (nle rfl) (nle rfl) (nle rfl) (nle rfl) dL_acts_478 (fun E w h => h.elim) (fun r0 w0 h0 => ?_)
  obtain ⟨rfl, d1, po1, pn1, sv1, rfl, hs1⟩ := h0
  have HG1 : Gd (B) (limC r (upN y 6) (-(nI (upN (y >>> (3 &&& 31)) 151))) (nI (upN (y >>> (8 &&& 31)) 151))) := g_lim H hV (bt_m (n := upN (y >>> (3 &&& 31)) 151) (lo := -150) (hi := 0) (by have := upN_lt (y >>> (3 &&& 31)) (n := 151) (by decide); omega) (by have := upN_lt (y >>> (3 &&& 31)) (n := 151) (by decide); omega) (by have := upN_lt (y >>> (3 &&& 31)) (n := 151) (by decide); omega)) (bt_nI (n := upN (y >>> (8 &&& 31)) 151) (lo := 0) (hi := 150) (by have := upN_lt (y >>> (8 &&& 31)) (n := 151) (by decide); omega) (by have := upN_lt (y >>> (8 &&& 31)) (n := 151) (by decide); omega) (by have := upN_lt (y >>> (8 &&& 31)) (n := 151) (by decide); omega))
  refine x_st (st' := [.int (r.vu (upN y 6) - r.vl (upN y 6))]) rfl ?_
  refine x_if_lt C 488 (by decide) dL_acts_481 (fun hz => absurd hz (lim_nn H.2.2.2.1 hV)) (fun _ => ?_)
  refine x_iconst C 1 (by decide) dL_acts_484 ?_
  refine x_goto C 489 (by decide) dL_acts_485 ?_
  exact K (limC r (upN y 6) (-(nI (upN (y >>> (3 &&& 31)) 151))) (nI (upN (y >>> (8 &&& 31)) 151))) d1 po1 pn1 sv1 _ _ _ _ (nle rfl) (nle rfl) dL_acts_489 (HG1.up (show B ≤ B + 1 by omega)) hs1.1 (fun q => absurd q (by omega))
set_option maxRecDepth 100000 in
set_option maxHeartbeats 1000000 in
theorem ac_9 {p : Program} {l : Launch} {e : Env} {s : State} {m : MethodId} {args : Array Value} {below : List Frame} {meth : Method} {c : Code} {Q : State → Prop} {nm : String} {g : xGt} {A : Nat → Prop} {ap ad : Nat → Nat} {r : xR} {d : Nat → Int32} {po pn : Int32} {sv mm : xPl} {B : Int} (C : xC p l s m args meth c cL_acts 5 RL nm g.1 (xT g) A) (H : Gd B r) (hB : B ≤ 900) (Hp : pk po pn sv) (x y : Int32) (hx : upN x 16 = 9) (K : ∀ (r1 : xR) (d1 : Nat → Int32) (po1 pn1 : Int32) (sv1 : xPl) (k n pc : Nat) (lv : List (Nat × Value)), k ≤ 200 → n ≤ 1400 → decode cL_acts pc = .ok (.ireturn, 1) → Gd (B + 1) r1 → pk po1 pn1 sv1 → (11 < upN x 16 → sd r pn po1 pn1 sv1) → xW p l e (xRm 8 180 200 1400) s m args below meth c g.1 A 5 k n Q (wB g ap ad r1 d1 po1 pn1 sv1 mm) lv pc [.int 1]) : xW p l e (xRm 8 180 200 1400) s m args below meth c g.1 A 5 0 0 Q (wB g ap ad r d po pn sv mm) [(4, .int (nI (upN y 6))), (3, .int (nI (upN y 4))), (0, .ref (ap 0)), (1, .int x), (2, .int y)] 490 [] := by
  have hS := upN_lt y (n := 4) (by decide)
  have hV := upN_lt y (n := 6) (by decide)
  refine x_aload_n C 2 rfl rfl dL_acts_490 ?_
  refine x_iload C 0 rfl dL_acts_491 ?_
  refine x_iconst C 1 (by decide) dL_acts_493 ?_
  refine x_iload_n C 4 rfl rfl dL_acts_494 ?_
  refine x_iconst C 3 (by decide) dL_acts_495 ?_
  refine x_ishr C dL_acts_496 ?_
  refine x_iload_n C 4 rfl rfl dL_acts_497 ?_
  refine x_bipush C 12 (by decide) dL_acts_498 ?_
  refine x_ishr C dL_acts_500 ?_
  refine x_iconst C 1 (by decide) dL_acts_501 ?_
  refine x_iand C dL_acts_502 ?_
  refine x_if_ne C 512 (by decide) dL_acts_503 (fun h1 => ?_) (fun h1 => ?_)
  · refine x_bipush C 20 (by decide) dL_acts_512 ?_
    refine x_st (st' := [.int (nI 20), .int (y >>> (3 &&& 31)), .int 1, .int (nI (upN y 6)), .ref (ap 0)]) rfl ?_
    refine x_FS (w1 := ([] : va_W)) (wc := ([] : va_W)) (w2 := (wB g ap ad r d po pn sv mm)) [.int (y >>> (3 &&& 31)), .int (nI 20)] [.int 1, .int (nI (upN y 6)), .ref (ap 0)] (wB g ap ad r d po pn sv mm) C (k_L_up l g (y >>> (3 &&& 31)) 20 (by decide) (by decide)) rfl yS_L_up wML_L_15 rfl rfl rfl (nle rfl) (nle rfl) (nle rfl) (nle rfl) (nle rfl) dL_acts_514 ?_
    refine x_iaddN C 1 (upN (y >>> (3 &&& 31)) 20) rfl rfl dL_acts_517 ?_
    refine x_EV0 [.int (nI (upN y 6)), .int (nI (1 + (upN (y >>> (3 &&& 31)) 20)))] [] C (a_setSpeed l g ap ad r d po pn sv mm (upN y 6) (upN_lt _ (by decide)) (nI (1 + (upN (y >>> (3 &&& 31)) 20))) (bt_nI (n := 1 + upN (y >>> (3 &&& 31)) 20) (lo := 1) (hi := 300) (by have := upN_lt (y >>> (3 &&& 31)) (n := 20) (by decide); omega) (by have := upN_lt (y >>> (3 &&& 31)) (n := 20) (by decide); omega) (by have := upN_lt (y >>> (3 &&& 31)) (n := 20) (by decide); omega)) H.1 Hp) rfl yV_X6_setSpeed wML_L_84 0 rfl rfl rfl rfl (nle rfl) (nle rfl) (nle rfl) (nle rfl) (nle rfl) dL_acts_518 (fun E w h => h.elim) (fun r0 w0 h0 => ?_)
    obtain ⟨rfl, d1, po1, pn1, sv1, rfl, hs1⟩ := h0
    have HG1 : Gd (B) (r.set_vs (upd r.vs (upN y 6) (nI (1 + (upN (y >>> (3 &&& 31)) 20))))) := g_vs H hV (bt_nI (n := 1 + upN (y >>> (3 &&& 31)) 20) (lo := 1) (hi := 300) (by have := upN_lt (y >>> (3 &&& 31)) (n := 20) (by decide); omega) (by have := upN_lt (y >>> (3 &&& 31)) (n := 20) (by decide); omega) (by have := upN_lt (y >>> (3 &&& 31)) (n := 20) (by decide); omega))
    refine x_st (st' := [.int (r.vs (upN y 6))]) rfl ?_
    refine x_if_le C 528 (by decide) dL_acts_521 (fun hz => absurd hz (gt_of (H.2.2.2.1 _ hV).2.2.2.2.1 (by decide))) (fun _ => ?_)
    refine x_iconst C 1 (by decide) dL_acts_524 ?_
    refine x_goto C 529 (by decide) dL_acts_525 ?_
    exact K (r.set_vs (upd r.vs (upN y 6) (nI (1 + (upN (y >>> (3 &&& 31)) 20))))) d1 po1 pn1 sv1 _ _ _ _ (nle rfl) (nle rfl) dL_acts_529 (HG1.up (show B ≤ B + 1 by omega)) hs1.1 (fun q => absurd q (by omega))
  · refine x_sipush C 300 (by decide) dL_acts_506 ?_
    refine x_goto C 514 (by decide) dL_acts_509 ?_
    refine x_st (st' := [.int (nI 300), .int (y >>> (3 &&& 31)), .int 1, .int (nI (upN y 6)), .ref (ap 0)]) rfl ?_
    refine x_FS (w1 := ([] : va_W)) (wc := ([] : va_W)) (w2 := (wB g ap ad r d po pn sv mm)) [.int (y >>> (3 &&& 31)), .int (nI 300)] [.int 1, .int (nI (upN y 6)), .ref (ap 0)] (wB g ap ad r d po pn sv mm) C (k_L_up l g (y >>> (3 &&& 31)) 300 (by decide) (by decide)) rfl yS_L_up wML_L_15 rfl rfl rfl (nle rfl) (nle rfl) (nle rfl) (nle rfl) (nle rfl) dL_acts_514 ?_
    refine x_iaddN C 1 (upN (y >>> (3 &&& 31)) 300) rfl rfl dL_acts_517 ?_
    refine x_EV0 [.int (nI (upN y 6)), .int (nI (1 + (upN (y >>> (3 &&& 31)) 300)))] [] C (a_setSpeed l g ap ad r d po pn sv mm (upN y 6) (upN_lt _ (by decide)) (nI (1 + (upN (y >>> (3 &&& 31)) 300))) (bt_nI (n := 1 + upN (y >>> (3 &&& 31)) 300) (lo := 1) (hi := 300) (by have := upN_lt (y >>> (3 &&& 31)) (n := 300) (by decide); omega) (by have := upN_lt (y >>> (3 &&& 31)) (n := 300) (by decide); omega) (by have := upN_lt (y >>> (3 &&& 31)) (n := 300) (by decide); omega)) H.1 Hp) rfl yV_X6_setSpeed wML_L_84 0 rfl rfl rfl rfl (nle rfl) (nle rfl) (nle rfl) (nle rfl) (nle rfl) dL_acts_518 (fun E w h => h.elim) (fun r0 w0 h0 => ?_)
    obtain ⟨rfl, d2, po2, pn2, sv2, rfl, hs2⟩ := h0
    have HG2 : Gd (B) (r.set_vs (upd r.vs (upN y 6) (nI (1 + (upN (y >>> (3 &&& 31)) 300))))) := g_vs H hV (bt_nI (n := 1 + upN (y >>> (3 &&& 31)) 300) (lo := 1) (hi := 300) (by have := upN_lt (y >>> (3 &&& 31)) (n := 300) (by decide); omega) (by have := upN_lt (y >>> (3 &&& 31)) (n := 300) (by decide); omega) (by have := upN_lt (y >>> (3 &&& 31)) (n := 300) (by decide); omega))
    refine x_st (st' := [.int (r.vs (upN y 6))]) rfl ?_
    refine x_if_le C 528 (by decide) dL_acts_521 (fun hz => absurd hz (gt_of (H.2.2.2.1 _ hV).2.2.2.2.1 (by decide))) (fun _ => ?_)
    refine x_iconst C 1 (by decide) dL_acts_524 ?_
    refine x_goto C 529 (by decide) dL_acts_525 ?_
    exact K (r.set_vs (upd r.vs (upN y 6) (nI (1 + (upN (y >>> (3 &&& 31)) 300))))) d2 po2 pn2 sv2 _ _ _ _ (nle rfl) (nle rfl) dL_acts_529 (HG2.up (show B ≤ B + 1 by omega)) hs2.1 (fun q => absurd q (by omega))
set_option maxRecDepth 100000 in
set_option maxHeartbeats 1000000 in
theorem ac_10 {p : Program} {l : Launch} {e : Env} {s : State} {m : MethodId} {args : Array Value} {below : List Frame} {meth : Method} {c : Code} {Q : State → Prop} {nm : String} {g : xGt} {A : Nat → Prop} {ap ad : Nat → Nat} {r : xR} {d : Nat → Int32} {po pn : Int32} {sv mm : xPl} {B : Int} (C : xC p l s m args meth c cL_acts 5 RL nm g.1 (xT g) A) (H : Gd B r) (hB : B ≤ 900) (Hp : pk po pn sv) (x y : Int32) (hx : upN x 16 = 10) (K : ∀ (r1 : xR) (d1 : Nat → Int32) (po1 pn1 : Int32) (sv1 : xPl) (k n pc : Nat) (lv : List (Nat × Value)), k ≤ 200 → n ≤ 1400 → decode cL_acts pc = .ok (.ireturn, 1) → Gd (B + 1) r1 → pk po1 pn1 sv1 → (11 < upN x 16 → sd r pn po1 pn1 sv1) → xW p l e (xRm 8 180 200 1400) s m args below meth c g.1 A 5 k n Q (wB g ap ad r1 d1 po1 pn1 sv1 mm) lv pc [.int 1]) : xW p l e (xRm 8 180 200 1400) s m args below meth c g.1 A 5 0 0 Q (wB g ap ad r d po pn sv mm) [(4, .int (nI (upN y 6))), (3, .int (nI (upN y 4))), (0, .ref (ap 0)), (1, .int x), (2, .int y)] 530 [] := by
  have hS := upN_lt y (n := 4) (by decide)
  have hV := upN_lt y (n := 6) (by decide)
  refine x_aload_n C 2 rfl rfl dL_acts_530 ?_
  refine x_iload C 0 rfl dL_acts_531 ?_
  refine x_iload_n C 4 rfl rfl dL_acts_533 ?_
  refine x_iconst C 3 (by decide) dL_acts_534 ?_
  refine x_ishr C dL_acts_535 ?_
  refine x_iconst C 3 (by decide) dL_acts_536 ?_
  refine x_st (st' := [.int (nI 3), .int (y >>> (3 &&& 31)), .int (nI (upN y 6)), .ref (ap 0)]) rfl ?_
  refine x_FS (w1 := ([] : va_W)) (wc := ([] : va_W)) (w2 := (wB g ap ad r d po pn sv mm)) [.int (y >>> (3 &&& 31)), .int (nI 3)] [.int (nI (upN y 6)), .ref (ap 0)] (wB g ap ad r d po pn sv mm) C (k_L_up l g (y >>> (3 &&& 31)) 3 (by decide) (by decide)) rfl yS_L_up wML_L_15 rfl rfl rfl (nle rfl) (nle rfl) (nle rfl) (nle rfl) (nle rfl) dL_acts_537 ?_
  refine x_iload_n C 4 rfl rfl dL_acts_540 ?_
  refine x_iconst C 5 (by decide) dL_acts_541 ?_
  refine x_ishr C dL_acts_542 ?_
  refine x_sipush C 301 (by decide) dL_acts_543 ?_
  refine x_st (st' := [.int (nI 301), .int (y >>> (5 &&& 31)), .int (nI (upN (y >>> (3 &&& 31)) 3)), .int (nI (upN y 6)), .ref (ap 0)]) rfl ?_
  refine x_FS (w1 := ([] : va_W)) (wc := ([] : va_W)) (w2 := (wB g ap ad r d po pn sv mm)) [.int (y >>> (5 &&& 31)), .int (nI 301)] [.int (nI (upN (y >>> (3 &&& 31)) 3)), .int (nI (upN y 6)), .ref (ap 0)] (wB g ap ad r d po pn sv mm) C (k_L_up l g (y >>> (5 &&& 31)) 301 (by decide) (by decide)) rfl yS_L_up wML_L_15 rfl rfl rfl (nle rfl) (nle rfl) (nle rfl) (nle rfl) (nle rfl) dL_acts_546 ?_
  refine x_sipush C 150 (by decide) dL_acts_549 ?_
  refine x_isub C dL_acts_552 ?_
  refine x_EV0 [.int (nI (upN y 6)), .int (nI (upN (y >>> (3 &&& 31)) 3)), .int ((nI (upN (y >>> (5 &&& 31)) 301)) - 150)] [] C (a_setFailsafe l g ap ad r d po pn sv mm (upN y 6) (upN_lt _ (by decide)) (nI (upN (y >>> (3 &&& 31)) 3)) (bt_nI (n := upN (y >>> (3 &&& 31)) 3) (lo := 0) (hi := 2) (by have := upN_lt (y >>> (3 &&& 31)) (n := 3) (by decide); omega) (by have := upN_lt (y >>> (3 &&& 31)) (n := 3) (by decide); omega) (by have := upN_lt (y >>> (3 &&& 31)) (n := 3) (by decide); omega)) ((nI (upN (y >>> (5 &&& 31)) 301)) - 150) (bt_s (n := upN (y >>> (5 &&& 31)) 301) (k := 150) (lo := -150) (hi := 150) rfl (by have := upN_lt (y >>> (5 &&& 31)) (n := 301) (by decide); omega) (by decide) (by have := upN_lt (y >>> (5 &&& 31)) (n := 301) (by decide); omega) (by have := upN_lt (y >>> (5 &&& 31)) (n := 301) (by decide); omega)) H.1 Hp) rfl yV_X6_setFailsafe wML_L_87 0 rfl rfl rfl rfl (nle rfl) (nle rfl) (nle rfl) (nle rfl) (nle rfl) dL_acts_553 (fun E w h => h.elim) (fun r0 w0 h0 => ?_)
  obtain ⟨rfl, d1, po1, pn1, sv1, rfl, hs1⟩ := h0
  have HG1 : Gd (B) (flsC r (upN y 6) (nI (upN (y >>> (3 &&& 31)) 3)) ((nI (upN (y >>> (5 &&& 31)) 301)) - 150)) := g_fls H hV (bt_nI (n := upN (y >>> (3 &&& 31)) 3) (lo := 0) (hi := 2) (by have := upN_lt (y >>> (3 &&& 31)) (n := 3) (by decide); omega) (by have := upN_lt (y >>> (3 &&& 31)) (n := 3) (by decide); omega) (by have := upN_lt (y >>> (3 &&& 31)) (n := 3) (by decide); omega))
  refine x_st (st' := [.int (r.vm (upN y 6))]) rfl ?_
  refine x_if_lt C 581 (by decide) dL_acts_556 (fun hz => absurd hz (fun q => by have q2 := ti_lt.mp q; have q3 := (H.2.2.2.1 _ hV).2.2.2.2.2; have z0 : (0 : Int32).toInt = 0 := rfl; omega)) (fun _ => ?_)
  refine x_aload_n C 2 rfl rfl dL_acts_559 ?_
  refine x_iconst C 1 (by decide) dL_acts_560 ?_
  refine x_iload_n C 4 rfl rfl dL_acts_561 ?_
  refine x_bipush C 7 (by decide) dL_acts_562 ?_
  refine x_ishr C dL_acts_564 ?_
  refine x_bipush C 9 (by decide) dL_acts_565 ?_
  refine x_st (st' := [.int (nI 9), .int (y >>> (7 &&& 31)), .int 1, .ref (ap 0)]) rfl ?_
  refine x_FS (w1 := ([] : va_W)) (wc := ([] : va_W)) (w2 := (wB g ap ad (flsC r (upN y 6) (nI (upN (y >>> (3 &&& 31)) 3)) ((nI (upN (y >>> (5 &&& 31)) 301)) - 150)) d1 po1 pn1 sv1 mm)) [.int (y >>> (7 &&& 31)), .int (nI 9)] [.int 1, .ref (ap 0)] (wB g ap ad (flsC r (upN y 6) (nI (upN (y >>> (3 &&& 31)) 3)) ((nI (upN (y >>> (5 &&& 31)) 301)) - 150)) d1 po1 pn1 sv1 mm) C (k_L_up l g (y >>> (7 &&& 31)) 9 (by decide) (by decide)) rfl yS_L_up wML_L_15 rfl rfl rfl (nle rfl) (nle rfl) (nle rfl) (nle rfl) (nle rfl) dL_acts_567 ?_
  refine x_iaddN C 1 (upN (y >>> (7 &&& 31)) 9) rfl rfl dL_acts_570 ?_
  refine x_EV0 [.int (nI (1 + (upN (y >>> (7 &&& 31)) 9)))] [] C (a_setDelay l g ap ad (flsC r (upN y 6) (nI (upN (y >>> (3 &&& 31)) 3)) ((nI (upN (y >>> (5 &&& 31)) 301)) - 150)) d1 po1 pn1 sv1 mm (nI (1 + (upN (y >>> (7 &&& 31)) 9))) (bt_nI (n := 1 + upN (y >>> (7 &&& 31)) 9) (lo := 1) (hi := 50) (by have := upN_lt (y >>> (7 &&& 31)) (n := 9) (by decide); omega) (by have := upN_lt (y >>> (7 &&& 31)) (n := 9) (by decide); omega) (by have := upN_lt (y >>> (7 &&& 31)) (n := 9) (by decide); omega)) HG1.1 hs1.1) rfl yV_X6_setDelay wML_L_90 0 rfl rfl rfl rfl (nle rfl) (nle rfl) (nle rfl) (nle rfl) (nle rfl) dL_acts_571 (fun E w h => h.elim) (fun r0 w0 h0 => ?_)
  obtain ⟨rfl, d2, po2, pn2, sv2, rfl, hs2⟩ := h0
  have HG2 : Gd (B) ((flsC r (upN y 6) (nI (upN (y >>> (3 &&& 31)) 3)) ((nI (upN (y >>> (5 &&& 31)) 301)) - 150)).set_jd (nI (1 + (upN (y >>> (7 &&& 31)) 9)))) := g_jd HG1 (bt_nI (n := 1 + upN (y >>> (7 &&& 31)) 9) (lo := 1) (hi := 50) (by have := upN_lt (y >>> (7 &&& 31)) (n := 9) (by decide); omega) (by have := upN_lt (y >>> (7 &&& 31)) (n := 9) (by decide); omega) (by have := upN_lt (y >>> (7 &&& 31)) (n := 9) (by decide); omega))
  refine x_st (st' := [.int ((flsC r (upN y 6) (nI (upN (y >>> (3 &&& 31)) 3)) ((nI (upN (y >>> (5 &&& 31)) 301)) - 150)).jd)]) rfl ?_
  refine x_if_le C 581 (by decide) dL_acts_574 (fun hz => absurd hz (fun q => by have q2 := ti_le.mp q; have q3 : 1 ≤ r.jd.toInt := H.2.2.2.2.2.1; have q4 : r.jd.toInt ≤ (0 : Int32).toInt := q2; have z0 : (0 : Int32).toInt = 0 := rfl; omega)) (fun _ => ?_)
  refine x_iconst C 1 (by decide) dL_acts_577 ?_
  refine x_goto C 582 (by decide) dL_acts_578 ?_
  exact K ((flsC r (upN y 6) (nI (upN (y >>> (3 &&& 31)) 3)) ((nI (upN (y >>> (5 &&& 31)) 301)) - 150)).set_jd (nI (1 + (upN (y >>> (7 &&& 31)) 9)))) d2 po2 pn2 sv2 _ _ _ _ (nle rfl) (nle rfl) dL_acts_582 (HG2.up (show B ≤ B + 1 by omega)) hs2.1 (fun q => absurd q (by omega))
set_option maxRecDepth 100000 in
set_option maxHeartbeats 1000000 in
theorem ac_11 {p : Program} {l : Launch} {e : Env} {s : State} {m : MethodId} {args : Array Value} {below : List Frame} {meth : Method} {c : Code} {Q : State → Prop} {nm : String} {g : xGt} {A : Nat → Prop} {ap ad : Nat → Nat} {r : xR} {d : Nat → Int32} {po pn : Int32} {sv mm : xPl} {B : Int} (C : xC p l s m args meth c cL_acts 5 RL nm g.1 (xT g) A) (H : Gd B r) (hB : B ≤ 900) (Hp : pk po pn sv) (x y : Int32) (hx : upN x 16 = 11) (K : ∀ (r1 : xR) (d1 : Nat → Int32) (po1 pn1 : Int32) (sv1 : xPl) (k n pc : Nat) (lv : List (Nat × Value)), k ≤ 200 → n ≤ 1400 → decode cL_acts pc = .ok (.ireturn, 1) → Gd (B + 1) r1 → pk po1 pn1 sv1 → (11 < upN x 16 → sd r pn po1 pn1 sv1) → xW p l e (xRm 8 180 200 1400) s m args below meth c g.1 A 5 k n Q (wB g ap ad r1 d1 po1 pn1 sv1 mm) lv pc [.int 1]) : xW p l e (xRm 8 180 200 1400) s m args below meth c g.1 A 5 0 0 Q (wB g ap ad r d po pn sv mm) [(4, .int (nI (upN y 6))), (3, .int (nI (upN y 4))), (0, .ref (ap 0)), (1, .int x), (2, .int y)] 583 [] := by
  have hS := upN_lt y (n := 4) (by decide)
  have hV := upN_lt y (n := 6) (by decide)
  refine x_aload_n C 2 rfl rfl dL_acts_583 ?_
  refine x_EV0 [] [] C (a_charge l g ap ad r d po pn sv mm  H.1 Hp) rfl yV_X6_charge wML_L_93 0 rfl rfl rfl rfl (nle rfl) (nle rfl) (nle rfl) (nle rfl) (nle rfl) dL_acts_584 (fun E w h => h.elim) (fun r0 w0 h0 => ?_)
  obtain ⟨rfl, d1, po1, pn1, sv1, rfl, hs1⟩ := h0
  have HG1 : Gd (B + 1) (chgC r) := g_chg H (by omega)
  refine x_st (st' := [.int (20000 - r.jb)]) rfl ?_
  refine x_if_lt C 604 (by decide) dL_acts_587 (fun hz => absurd hz (chg_nn H)) (fun _ => ?_)
  refine x_aload_n C 2 rfl rfl dL_acts_590 ?_
  refine x_EV0 [] [] C (a_battery l g ap ad (chgC r) d1 po1 pn1 sv1 mm  HG1.1 hs1.1) rfl yV_X6_battery wML_L_96 0 rfl rfl rfl rfl (nle rfl) (nle rfl) (nle rfl) (nle rfl) (nle rfl) dL_acts_591 (fun E w h => h.elim) (fun r0 w0 h0 => ?_)
  obtain ⟨rfl, rfl⟩ := h0
  refine x_st (st' := [.int ((chgC r).jb)]) rfl ?_
  refine x_sipush C 20000 (by decide) dL_acts_594 ?_
  refine x_icmp_ne C 604 (by decide) dL_acts_597 (fun hz => absurd rfl hz) (fun _ => ?_)
  refine x_iconst C 1 (by decide) dL_acts_600 ?_
  refine x_goto C 605 (by decide) dL_acts_601 ?_
  exact K (chgC r) d1 po1 pn1 sv1 _ _ _ _ (nle rfl) (nle rfl) dL_acts_605 HG1 hs1.1 (fun q => absurd q (by omega))
set_option maxRecDepth 100000 in
set_option maxHeartbeats 1000000 in
theorem ac_12 {p : Program} {l : Launch} {e : Env} {s : State} {m : MethodId} {args : Array Value} {below : List Frame} {meth : Method} {c : Code} {Q : State → Prop} {nm : String} {g : xGt} {A : Nat → Prop} {ap ad : Nat → Nat} {r : xR} {d : Nat → Int32} {po pn : Int32} {sv mm : xPl} {B : Int} (C : xC p l s m args meth c cL_acts 5 RL nm g.1 (xT g) A) (H : Gd B r) (hB : B ≤ 900) (Hp : pk po pn sv) (x y : Int32) (hx : 11 < upN x 16) (K : ∀ (r1 : xR) (d1 : Nat → Int32) (po1 pn1 : Int32) (sv1 : xPl) (k n pc : Nat) (lv : List (Nat × Value)), k ≤ 200 → n ≤ 1400 → decode cL_acts pc = .ok (.ireturn, 1) → Gd (B + 1) r1 → pk po1 pn1 sv1 → (11 < upN x 16 → sd r pn po1 pn1 sv1) → xW p l e (xRm 8 180 200 1400) s m args below meth c g.1 A 5 k n Q (wB g ap ad r1 d1 po1 pn1 sv1 mm) lv pc [.int 1]) : xW p l e (xRm 8 180 200 1400) s m args below meth c g.1 A 5 0 0 Q (wB g ap ad r d po pn sv mm) [(4, .int (nI (upN y 6))), (3, .int (nI (upN y 4))), (0, .ref (ap 0)), (1, .int x), (2, .int y)] 606 [] := by
  have hS := upN_lt y (n := 4) (by decide)
  have hV := upN_lt y (n := 6) (by decide)
  refine x_aload_n C 2 rfl rfl dL_acts_606 ?_
  refine x_iload_n C 1 rfl rfl dL_acts_607 ?_
  refine x_iload_n C 4 rfl rfl dL_acts_608 ?_
  refine x_iconst C 2 (by decide) dL_acts_609 ?_
  refine x_ishr C dL_acts_610 ?_
  refine x_sipush C 201 (by decide) dL_acts_611 ?_
  refine x_st (st' := [.int (nI 201), .int (y >>> (2 &&& 31)), .int (nI (upN y 4)), .ref (ap 0)]) rfl ?_
  refine x_FS (w1 := ([] : va_W)) (wc := ([] : va_W)) (w2 := (wB g ap ad r d po pn sv mm)) [.int (y >>> (2 &&& 31)), .int (nI 201)] [.int (nI (upN y 4)), .ref (ap 0)] (wB g ap ad r d po pn sv mm) C (k_L_up l g (y >>> (2 &&& 31)) 201 (by decide) (by decide)) rfl yS_L_up wML_L_15 rfl rfl rfl (nle rfl) (nle rfl) (nle rfl) (nle rfl) (nle rfl) dL_acts_614 ?_
  refine x_bipush C 100 (by decide) dL_acts_617 ?_
  refine x_isub C dL_acts_619 ?_
  refine x_EV0 [.int (nI (upN y 4)), .int ((nI (upN (y >>> (2 &&& 31)) 201)) - 100)] [] C (a_move l g ap ad r d po pn sv mm (upN y 4) (upN_lt _ (by decide)) ((nI (upN (y >>> (2 &&& 31)) 201)) - 100) (bt_s (n := upN (y >>> (2 &&& 31)) 201) (k := 100) (lo := -100) (hi := 100) rfl (by have := upN_lt (y >>> (2 &&& 31)) (n := 201) (by decide); omega) (by decide) (by have := upN_lt (y >>> (2 &&& 31)) (n := 201) (by decide); omega) (by have := upN_lt (y >>> (2 &&& 31)) (n := 201) (by decide); omega)) H.1 Hp) rfl yV_X6_move wML_L_99 0 rfl rfl rfl rfl (nle rfl) (nle rfl) (nle rfl) (nle rfl) (nle rfl) dL_acts_620 (fun E w h => h.elim) (fun r0 w0 h0 => ?_)
  obtain ⟨rfl, d1, po1, pn1, sv1, rfl, hs1⟩ := h0
  have HG1 : Gd (B) (r.set_kp (upd r.kp (upN y 4) ((nI (upN (y >>> (2 &&& 31)) 201)) - 100))) := g_kp H hS (bt_s (n := upN (y >>> (2 &&& 31)) 201) (k := 100) (lo := -100) (hi := 100) rfl (by have := upN_lt (y >>> (2 &&& 31)) (n := 201) (by decide); omega) (by decide) (by have := upN_lt (y >>> (2 &&& 31)) (n := 201) (by decide); omega) (by have := upN_lt (y >>> (2 &&& 31)) (n := 201) (by decide); omega))
  refine x_st (st' := [.int (r.kp (upN y 4))]) rfl ?_
  refine x_bipush C (-100) (by decide) dL_acts_623 ?_
  refine x_icmp_lt C 652 (by decide) dL_acts_625 (fun hz => absurd hz (ge_of (H.2.1.1 _ hS) (by decide))) (fun _ => ?_)
  refine x_aload_n C 2 rfl rfl dL_acts_628 ?_
  refine x_iload_n C 1 rfl rfl dL_acts_629 ?_
  refine x_EV0 [.int (nI (upN y 4))] [] C (a_position l g ap ad (r.set_kp (upd r.kp (upN y 4) ((nI (upN (y >>> (2 &&& 31)) 201)) - 100))) d1 po1 pn1 sv1 mm (upN y 4) (upN_lt _ (by decide)) HG1.1 hs1.1) rfl yV_X6_position wML_L_102 0 rfl rfl rfl rfl (nle rfl) (nle rfl) (nle rfl) (nle rfl) (nle rfl) dL_acts_630 (fun E w h => h.elim) (fun r0 w0 h0 => ?_)
  obtain ⟨rfl, rfl⟩ := h0
  refine x_st (st' := [.int ((r.set_kp (upd r.kp (upN y 4) ((nI (upN (y >>> (2 &&& 31)) 201)) - 100))).kp (upN y 4))]) rfl ?_
  refine x_iload_n C 4 rfl rfl dL_acts_633 ?_
  refine x_iconst C 2 (by decide) dL_acts_634 ?_
  refine x_ishr C dL_acts_635 ?_
  refine x_sipush C 201 (by decide) dL_acts_636 ?_
  refine x_st (st' := [.int (nI 201), .int (y >>> (2 &&& 31)), .int ((r.set_kp (upd r.kp (upN y 4) ((nI (upN (y >>> (2 &&& 31)) 201)) - 100))).kp (upN y 4))]) rfl ?_
  refine x_FS (w1 := ([] : va_W)) (wc := ([] : va_W)) (w2 := (wB g ap ad (r.set_kp (upd r.kp (upN y 4) ((nI (upN (y >>> (2 &&& 31)) 201)) - 100))) d1 po1 pn1 sv1 mm)) [.int (y >>> (2 &&& 31)), .int (nI 201)] [.int ((r.set_kp (upd r.kp (upN y 4) ((nI (upN (y >>> (2 &&& 31)) 201)) - 100))).kp (upN y 4))] (wB g ap ad (r.set_kp (upd r.kp (upN y 4) ((nI (upN (y >>> (2 &&& 31)) 201)) - 100))) d1 po1 pn1 sv1 mm) C (k_L_up l g (y >>> (2 &&& 31)) 201 (by decide) (by decide)) rfl yS_L_up wML_L_15 rfl rfl rfl (nle rfl) (nle rfl) (nle rfl) (nle rfl) (nle rfl) dL_acts_639 ?_
  refine x_bipush C 100 (by decide) dL_acts_642 ?_
  refine x_isub C dL_acts_644 ?_
  refine x_icmp_ne C 652 (by decide) dL_acts_645 (fun hz => absurd (up_eq (f := r.kp) (k := upN y 4) (x := nI (upN (y >>> (2 &&& 31)) 201) - 100)) hz) (fun _ => ?_)
  refine x_iconst C 1 (by decide) dL_acts_648 ?_
  refine x_goto C 653 (by decide) dL_acts_649 ?_
  exact K (r.set_kp (upd r.kp (upN y 4) ((nI (upN (y >>> (2 &&& 31)) 201)) - 100))) d1 po1 pn1 sv1 _ _ _ _ (nle rfl) (nle rfl) dL_acts_653 (HG1.up (show B ≤ B + 1 by omega)) hs1.1 (fun _ => hs1)
set_option maxRecDepth 100000 in
set_option maxHeartbeats 1000000 in
theorem k_L_acts (l : Launch) (g : xGt) (ap ad : Nat → Nat) (r : xR) (d : Nat → Int32) (po pn : Int32) (sv mm : xPl) (B : Int) (H : Gd B r) (hB : B ≤ 900) (Hp : pk po pn sv) (x y : Int32) : xM l g.1 (xT g) yL_acts (ws_ yL_acts cL_acts 5 (some .boolean)) (xRm 8 180 200 1400) 200 1400 [.ref (ap 0), .int x, .int y] (wB g ap ad r d po pn sv mm) (fun r9 w9 => r9 = some (.int 1) ∧ ∃ r1 d1 po1 pn1 sv1, w9 = wB g ap ad r1 d1 po1 pn1 sv1 mm ∧ Gd (B + 1) r1 ∧ pk po1 pn1 sv1 ∧ (11 < upN x 16 → sd r pn po1 pn1 sv1)) (fun _ _ => False) := by
  refine x_start (own := RL) (nm := "acts") rfl rfl (by decide +kernel) rfl (nle rfl) (fun p e σ m args below meth c A C hno hr => ?_)
  refine x_lve (lv' := [(0, .ref (ap 0)), (1, .int x), (2, .int y)]) rfl ?_
  refine x_iload_n C 2 rfl rfl dL_acts_0 ?_
  refine x_iconst C 4 (by decide) dL_acts_1 ?_
  refine x_st (st' := [.int (nI 4), .int y]) rfl ?_
  refine x_FS (w1 := ([] : va_W)) (wc := ([] : va_W)) (w2 := (wB g ap ad r d po pn sv mm)) [.int y, .int (nI 4)] [] (wB g ap ad r d po pn sv mm) C (k_L_up l g y 4 (by decide) (by decide)) rfl yS_L_up wML_L_15 rfl rfl rfl (nle rfl) (nle rfl) (nle rfl) (nle rfl) (nle rfl) dL_acts_2 ?_
  refine x_istore_n C [(3, .int (nI (upN y 4))), (0, .ref (ap 0)), (1, .int x), (2, .int y)] rfl rfl (by decide) dL_acts_5 ?_
  refine x_iload_n C 3 rfl rfl dL_acts_6 ?_
  refine x_bipush C 6 (by decide) dL_acts_7 ?_
  refine x_st (st' := [.int (nI 6), .int y]) rfl ?_
  refine x_FS (w1 := ([] : va_W)) (wc := ([] : va_W)) (w2 := (wB g ap ad r d po pn sv mm)) [.int y, .int (nI 6)] [] (wB g ap ad r d po pn sv mm) C (k_L_up l g y 6 (by decide) (by decide)) rfl yS_L_up wML_L_15 rfl rfl rfl (nle rfl) (nle rfl) (nle rfl) (nle rfl) (nle rfl) dL_acts_9 ?_
  refine x_istore C [(4, .int (nI (upN y 6))), (3, .int (nI (upN y 4))), (0, .ref (ap 0)), (1, .int x), (2, .int y)] rfl (by decide) dL_acts_12 ?_
  refine x_iload_n C 3 rfl rfl dL_acts_14 ?_
  refine x_bipush C 16 (by decide) dL_acts_15 ?_
  refine x_st (st' := [.int (nI 16), .int x]) rfl ?_
  refine x_FS (w1 := ([] : va_W)) (wc := ([] : va_W)) (w2 := (wB g ap ad r d po pn sv mm)) [.int x, .int (nI 16)] [] (wB g ap ad r d po pn sv mm) C (k_L_up l g x 16 (by decide) (by decide)) rfl yS_L_up wML_L_15 rfl rfl rfl (nle rfl) (nle rfl) (nle rfl) (nle rfl) (nle rfl) dL_acts_17 ?_
  refine x_wid (k := 0) (n := 0) (nle rfl) (nle rfl) ?_
  have hX := upN_lt x (n := 16) (by decide)
  have K : ∀ (r1 : xR) (d1 : Nat → Int32) (po1 pn1 : Int32) (sv1 : xPl) (k n pc : Nat) (lv : List (Nat × Value)), k ≤ 200 → n ≤ 1400 → decode cL_acts pc = .ok (.ireturn, 1) → Gd (B + 1) r1 → pk po1 pn1 sv1 → (11 < upN x 16 → sd r pn po1 pn1 sv1) → xW p l e (xRm 8 180 200 1400) σ m args below meth c g.1 A 5 k n (vx_MQ below (xQc g.1 A (fun r9 w9 => r9 = some (.int 1) ∧ ∃ r1 d1 po1 pn1 sv1, w9 = wB g ap ad r1 d1 po1 pn1 sv1 mm ∧ Gd (B + 1) r1 ∧ pk po1 pn1 sv1 ∧ (11 < upN x 16 → sd r pn po1 pn1 sv1))) (xXC g.1 A (fun _ _ => False)) args σ 200 1400 A) (wB g ap ad r1 d1 po1 pn1 sv1 mm) lv pc [.int 1] := fun r1 d1 po1 pn1 sv1 k n pc lv hk hn hd h1 h2 h3 => x_zret C hr rfl hk hn hd ⟨rfl, r1, d1, po1, pn1, sv1, rfl, h1, h2, h3⟩
  rcases (show upN x 16 = 0 ∨ upN x 16 = 1 ∨ upN x 16 = 2 ∨ upN x 16 = 3 ∨ upN x 16 = 4 ∨ upN x 16 = 5 ∨ upN x 16 = 6 ∨ upN x 16 = 7 ∨ upN x 16 = 8 ∨ upN x 16 = 9 ∨ upN x 16 = 10 ∨ upN x 16 = 11 ∨ 11 < upN x 16 by omega) with hx | hx | hx | hx | hx | hx | hx | hx | hx | hx | hx | hx | hx
  · refine x_tabIn C 84 dL_acts_20 (by rw [hx]; decide) (by rw [hx]; decide) (by rw [hx]; rfl) (by decide) ?_
    exact ac_0 C H hB Hp x y hx K
  · refine x_tabIn C 101 dL_acts_20 (by rw [hx]; decide) (by rw [hx]; decide) (by rw [hx]; rfl) (by decide) ?_
    exact ac_1 C H hB Hp x y hx K
  · refine x_tabIn C 145 dL_acts_20 (by rw [hx]; decide) (by rw [hx]; decide) (by rw [hx]; rfl) (by decide) ?_
    exact ac_2 C H hB Hp x y hx K
  · refine x_tabIn C 183 dL_acts_20 (by rw [hx]; decide) (by rw [hx]; decide) (by rw [hx]; rfl) (by decide) ?_
    exact ac_3 C H hB Hp x y hx K
  · refine x_tabIn C 221 dL_acts_20 (by rw [hx]; decide) (by rw [hx]; decide) (by rw [hx]; rfl) (by decide) ?_
    exact ac_4 C H hB Hp x y hx K
  · refine x_tabIn C 267 dL_acts_20 (by rw [hx]; decide) (by rw [hx]; decide) (by rw [hx]; rfl) (by decide) ?_
    exact ac_5 C H hB Hp x y hx K
  · refine x_tabIn C 356 dL_acts_20 (by rw [hx]; decide) (by rw [hx]; decide) (by rw [hx]; rfl) (by decide) ?_
    exact ac_6 C H hB Hp x y hx K
  · refine x_tabIn C 388 dL_acts_20 (by rw [hx]; decide) (by rw [hx]; decide) (by rw [hx]; rfl) (by decide) ?_
    exact ac_7 C H hB Hp x y hx K
  · refine x_tabIn C 455 dL_acts_20 (by rw [hx]; decide) (by rw [hx]; decide) (by rw [hx]; rfl) (by decide) ?_
    exact ac_8 C H hB Hp x y hx K
  · refine x_tabIn C 490 dL_acts_20 (by rw [hx]; decide) (by rw [hx]; decide) (by rw [hx]; rfl) (by decide) ?_
    exact ac_9 C H hB Hp x y hx K
  · refine x_tabIn C 530 dL_acts_20 (by rw [hx]; decide) (by rw [hx]; decide) (by rw [hx]; rfl) (by decide) ?_
    exact ac_10 C H hB Hp x y hx K
  · refine x_tabIn C 583 dL_acts_20 (by rw [hx]; decide) (by rw [hx]; decide) (by rw [hx]; rfl) (by decide) ?_
    exact ac_11 C H hB Hp x y hx K
  · refine x_tabOut C 606 dL_acts_20 (Or.inr (by rw [ti_n (by omega)]; omega)) (by decide) ?_
    exact ac_12 C H hB Hp x y hx K
