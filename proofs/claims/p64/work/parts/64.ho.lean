/-! holds -/
set_option maxRecDepth 100000 in
set_option maxHeartbeats 2000000 in
theorem ho_e {p : Program} {l : Launch} {e : Env} {s : State} {m : MethodId} {args : Array Value} {below : List Frame} {meth : Method} {c : Code} {Q : State → Prop} {nm : String} {g : xGt} {A : Nat → Prop} {ap ad : Nat → Nat} {r : xR} {po pn : Int32} {sv mm : xPl} {B : Int} (C : xC p l s m args meth c cL_holds 5 RL nm g.1 (xT g) A) (H : Gd B r) (hB : B ≤ 1000) (Hp : pk po pn sv) {k n0 s0 : Nat} (hk : k < 6) (hn0 : n0 + 120 ≤ 1000) (hs0 : s0 + 720 ≤ 6000) (K : ∀ d, xW p l e (xRm 9 200 1000 6000) s m args below meth c g.1 A 5 (n0 + 100) (s0 + 600) Q (wB g ap ad r d po pn sv mm) [(4, .int (nI (xN r))), (3, .int (smr r k (dmd r) (xN r))), (1, .int 1), (2, .int (nI k)), (0, .ref (ap 0))] 229 []) : ∀ (n j : Nat), j + n = xN r → ∀ d, xW p l e (xRm 9 200 1000 6000) s m args below meth c g.1 A 5 (n0 + 8 * j) (s0 + 48 * j) Q (wB g ap ad r d po pn sv mm) [(4, .int (nI (j))), (3, .int (smr r k (dmd r) (j))), (1, .int 1), (2, .int (nI k)), (0, .ref (ap 0))] 136 [] := by
  have h12 := xn_12 H.1.1
  intro n
  induction n with
  | zero =>
    intro j hj d
    have ej : j = xN r := by omega
    refine x_iload C 0 rfl dL_holds_136 ?_
    refine x_aload_n C 4 rfl rfl dL_holds_138 ?_
    refine x_EV0 [] [.int (nI j)] C (a_mixes l g ap ad r d po pn sv mm  H.1 Hp) rfl yV_X6_mixes wML_L_53 0 rfl rfl rfl rfl (nle rfl) (nle rfl) (nle rfl) (show n0 + 8 * j + 0 ≤ 1000 by omega) (show s0 + 48 * j + 0 ≤ 6000 by omega) dL_holds_139 (fun E w h => h.elim) (fun r0 w0 h0 => ?_)
    obtain ⟨rfl, rfl⟩ := h0
    refine x_st (st' := [.int r.xn, .int (nI j)]) rfl ?_
    refine x_icmp_ge C 229 (by decide) dL_holds_142 (fun _ => ?_) (fun hz => absurd (by rw [xn_ne H.1.1, ej]; exact Int32.le_refl _) hz)
    refine x_lve (lv' := [(4, .int (nI (xN r))), (3, .int (smr r k (dmd r) (xN r))), (1, .int 1), (2, .int (nI k)), (0, .ref (ap 0))]) (by rw [ej]) ?_
    refine x_wid (k := n0 + 100) (n := s0 + 600) (by omega) (by omega) ?_
    exact K d
  | succ n ih =>
    intro j hj d
    have hjx : j < xN r := by omega
    have hM := H.2.2.1
    have hb := H.1.1
    refine x_iload C 0 rfl dL_holds_136 ?_
    refine x_aload_n C 4 rfl rfl dL_holds_138 ?_
    refine x_EV0 [] [.int (nI j)] C (a_mixes l g ap ad r d po pn sv mm  H.1 Hp) rfl yV_X6_mixes wML_L_53 0 rfl rfl rfl rfl (nle rfl) (nle rfl) (nle rfl) (show n0 + 8 * j + 0 ≤ 1000 by omega) (show s0 + 48 * j + 0 ≤ 6000 by omega) dL_holds_139 (fun E w h => h.elim) (fun r0 w0 h0 => ?_)
    obtain ⟨rfl, rfl⟩ := h0
    refine x_st (st' := [.int r.xn, .int (nI j)]) rfl ?_
    refine x_icmp_ge C 229 (by decide) dL_holds_142 (fun hz => absurd hz (fun q => by rw [xn_ne H.1.1] at q; have := (nI_leI (by omega) (by omega)).mp q; omega)) (fun _ => ?_)
    refine x_iload_n C 1 rfl rfl dL_holds_145 ?_
    refine x_aload_n C 4 rfl rfl dL_holds_146 ?_
    refine x_iload C 0 rfl dL_holds_147 ?_
    refine x_EV0 [.int (nI j)] [.int (smr r k (dmd r) j)] C (a_mixServo l g ap ad r d po pn sv mm j hjx H.1 Hp) rfl yV_X6_mixServo wML_L_127 0 rfl rfl rfl rfl (nle rfl) (nle rfl) (nle rfl) (show n0 + 8 * j + 0 + 1 ≤ 1000 by omega) (show s0 + 48 * j + 0 + 6 ≤ 6000 by omega) dL_holds_149 (fun E w h => h.elim) (fun r0 w0 h0 => ?_)
    obtain ⟨rfl, rfl⟩ := h0
    refine x_st (st' := [.int (r.xv j), .int (smr r k (dmd r) j)]) rfl ?_
    refine x_iload_n C 3 rfl rfl dL_holds_152 ?_
    refine x_icmp_ne C 165 (by decide) dL_holds_153 (fun h1 => ?_) (fun h1 => ?_)
    · refine x_iconst C 0 (by decide) dL_holds_165 ?_
      refine x_iadd C dL_holds_166 ?_
      refine x_istore_n C [(3, .int ((smr r k (dmd r) j) + 0)), (4, .int (nI j)), (1, .int 1), (2, .int (nI k)), (0, .ref (ap 0))] rfl rfl (by decide) dL_holds_167 ?_
      refine x_iload_n C 2 rfl rfl dL_holds_168 ?_
      refine x_if_eq C 221 (by decide) dL_holds_169 (fun hz => absurd hz (by decide)) (fun _ => ?_)
      refine x_aload_n C 4 rfl rfl dL_holds_172 ?_
      refine x_iload C 1 rfl dL_holds_173 ?_
      refine x_EV0 [.int (nI j)] [] C (a_isActive l g ap ad r d po pn sv mm j hjx H.1 Hp) rfl yV_X6_isActive wML_L_133 0 rfl rfl rfl rfl (nle rfl) (nle rfl) (nle rfl) (show n0 + 8 * j + 0 + 1 + 1 ≤ 1000 by omega) (show s0 + 48 * j + 0 + 6 + 6 ≤ 6000 by omega) dL_holds_175 (fun E w h => h.elim) (fun r0 w0 h0 => ?_)
      obtain ⟨rfl, rfl⟩ := h0
      refine x_st (st' := [.int (sp_X2_holds r.xc j r.kh)]) rfl ?_
      refine x_if_ne C 190 (by decide) dL_holds_178 (fun h2 => ?_) (fun h2 => ?_)
      · refine x_aload_n C 4 rfl rfl dL_holds_190 ?_
        refine x_iload C 1 rfl dL_holds_191 ?_
        refine x_EV0 [.int (nI j)] [] C (a_mixSource l g ap ad r d po pn sv mm j hjx H.1 Hp) rfl yV_X6_mixSource wML_L_136 0 rfl rfl rfl rfl (nle rfl) (nle rfl) (nle rfl) (show n0 + 8 * j + 0 + 1 + 1 + 1 ≤ 1000 by omega) (show s0 + 48 * j + 0 + 6 + 6 + 6 ≤ 6000 by omega) dL_holds_193 (fun E w h => h.elim) (fun r0 w0 h0 => ?_)
        obtain ⟨rfl, rfl⟩ := h0
        refine x_st (st' := [.int (r.xs j)]) rfl ?_
        refine x_iconst C 4 (by decide) dL_holds_196 ?_
        refine x_icmp_lt C 217 (by decide) dL_holds_197 (fun h3 => ?_) (fun h3 => ?_)
        · refine x_iconst C 1 (by decide) dL_holds_217 ?_
          refine x_goto C 222 (by decide) dL_holds_218 ?_
          refine x_istore_n C [(1, .int 1), (3, .int ((smr r k (dmd r) j) + 0)), (4, .int (nI j)), (2, .int (nI k)), (0, .ref (ap 0))] rfl rfl (by decide) dL_holds_222 ?_
          refine x_iinc C 2 (nI (j + 1)) [(4, .int (nI (j + 1))), (1, .int 1), (3, .int ((smr r k (dmd r) j) + 0)), (2, .int (nI k)), (0, .ref (ap 0))] rfl (nI_add _ _) rfl (by decide) dL_holds_223 ?_
          refine x_goto C 136 (by decide) dL_holds_226 ?_
          refine x_lv [(4, .int (nI (j + 1))), (3, .int ((smr r k (dmd r) j) + 0)), (1, .int 1), (2, .int (nI k)), (0, .ref (ap 0))] [0, 2, 1, 3, 4] rfl ?_
          refine x_lve (lv' := [(4, .int (nI (j + 1))), (3, .int (smr r k (dmd r) (j + 1))), (1, .int 1), (2, .int (nI k)), (0, .ref (ap 0))]) (by rw [smr_s, if_neg h1, Int32.add_zero]) ?_
          refine x_wid (k := n0 + 8 * (j + 1)) (n := s0 + 48 * (j + 1)) (by omega) (by omega) ?_
          exact ih (j + 1) (by omega) d
        · refine x_aload_n C 4 rfl rfl dL_holds_200 ?_
          refine x_iload C 1 rfl dL_holds_201 ?_
          refine x_EV0 [.int (nI j)] [] C (a_mixSource l g ap ad r d po pn sv mm j hjx H.1 Hp) rfl yV_X6_mixSource wML_L_136 0 rfl rfl rfl rfl (nle rfl) (nle rfl) (nle rfl) (show n0 + 8 * j + 0 + 1 + 1 + 1 + 1 ≤ 1000 by omega) (show s0 + 48 * j + 0 + 6 + 6 + 6 + 6 ≤ 6000 by omega) dL_holds_203 (fun E w h => h.elim) (fun r0 w0 h0 => ?_)
          obtain ⟨rfl, rfl⟩ := h0
          refine x_st (st' := [.int (r.xs j)]) rfl ?_
          refine x_iconst C 4 (by decide) dL_holds_206 ?_
          refine x_isub C dL_holds_207 ?_
          refine x_aload_n C 4 rfl rfl dL_holds_208 ?_
          refine x_iload C 1 rfl dL_holds_209 ?_
          refine x_EV0 [.int (nI j)] [.int ((r.xs j) - 4)] C (a_mixServo l g ap ad r d po pn sv mm j hjx H.1 Hp) rfl yV_X6_mixServo wML_L_127 0 rfl rfl rfl rfl (nle rfl) (nle rfl) (nle rfl) (show n0 + 8 * j + 0 + 1 + 1 + 1 + 1 + 1 ≤ 1000 by omega) (show s0 + 48 * j + 0 + 6 + 6 + 6 + 6 + 6 ≤ 6000 by omega) dL_holds_211 (fun E w h => h.elim) (fun r0 w0 h0 => ?_)
          obtain ⟨rfl, rfl⟩ := h0
          refine x_st (st' := [.int (r.xv j), .int ((r.xs j) - 4)]) rfl ?_
          refine x_icmp_ge C 221 (by decide) dL_holds_214 (fun hz => absurd hz (Int32.not_le.mpr (src_lt hM hb hjx (Int32.not_lt.mp h3)))) (fun _ => ?_)
          refine x_iconst C 1 (by decide) dL_holds_217 ?_
          refine x_goto C 222 (by decide) dL_holds_218 ?_
          refine x_istore_n C [(1, .int 1), (3, .int ((smr r k (dmd r) j) + 0)), (4, .int (nI j)), (2, .int (nI k)), (0, .ref (ap 0))] rfl rfl (by decide) dL_holds_222 ?_
          refine x_iinc C 2 (nI (j + 1)) [(4, .int (nI (j + 1))), (1, .int 1), (3, .int ((smr r k (dmd r) j) + 0)), (2, .int (nI k)), (0, .ref (ap 0))] rfl (nI_add _ _) rfl (by decide) dL_holds_223 ?_
          refine x_goto C 136 (by decide) dL_holds_226 ?_
          refine x_lv [(4, .int (nI (j + 1))), (3, .int ((smr r k (dmd r) j) + 0)), (1, .int 1), (2, .int (nI k)), (0, .ref (ap 0))] [0, 2, 1, 3, 4] rfl ?_
          refine x_lve (lv' := [(4, .int (nI (j + 1))), (3, .int (smr r k (dmd r) (j + 1))), (1, .int 1), (2, .int (nI k)), (0, .ref (ap 0))]) (by rw [smr_s, if_neg h1, Int32.add_zero]) ?_
          refine x_wid (k := n0 + 8 * (j + 1)) (n := s0 + 48 * (j + 1)) (by omega) (by omega) ?_
          exact ih (j + 1) (by omega) d
      · refine x_aload_n C 4 rfl rfl dL_holds_181 ?_
        refine x_iload C 1 rfl dL_holds_182 ?_
        refine x_EV0 [.int (nI j)] [] C (a_mixValue l g ap ad r d po pn sv mm j hjx H.1 Hp H.2.2.1) rfl yV_X6_mixValue wML_L_130 0 rfl rfl rfl rfl (nle rfl) (nle rfl) (nle rfl) (show n0 + 8 * j + 0 + 1 + 1 + 1 ≤ 1000 by omega) (show s0 + 48 * j + 0 + 6 + 6 + 6 ≤ 6000 by omega) dL_holds_184 (fun E w h => h.elim) (fun r0 w0 h0 => ?_)
        obtain ⟨rfl, d1, rfl⟩ := h0
        refine x_st (st' := [.int (vlu r j)]) rfl ?_
        refine x_if_ne C 221 (by decide) dL_holds_187 (fun hz => absurd (vlu_0 h2) hz) (fun _ => ?_)
        refine x_aload_n C 4 rfl rfl dL_holds_190 ?_
        refine x_iload C 1 rfl dL_holds_191 ?_
        refine x_EV0 [.int (nI j)] [] C (a_mixSource l g ap ad r d1 po pn sv mm j hjx H.1 Hp) rfl yV_X6_mixSource wML_L_136 0 rfl rfl rfl rfl (nle rfl) (nle rfl) (nle rfl) (show n0 + 8 * j + 0 + 1 + 1 + 1 + 1 ≤ 1000 by omega) (show s0 + 48 * j + 0 + 6 + 6 + 6 + 6 ≤ 6000 by omega) dL_holds_193 (fun E w h => h.elim) (fun r0 w0 h0 => ?_)
        obtain ⟨rfl, rfl⟩ := h0
        refine x_st (st' := [.int (r.xs j)]) rfl ?_
        refine x_iconst C 4 (by decide) dL_holds_196 ?_
        refine x_icmp_lt C 217 (by decide) dL_holds_197 (fun h4 => ?_) (fun h4 => ?_)
        · refine x_iconst C 1 (by decide) dL_holds_217 ?_
          refine x_goto C 222 (by decide) dL_holds_218 ?_
          refine x_istore_n C [(1, .int 1), (3, .int ((smr r k (dmd r) j) + 0)), (4, .int (nI j)), (2, .int (nI k)), (0, .ref (ap 0))] rfl rfl (by decide) dL_holds_222 ?_
          refine x_iinc C 2 (nI (j + 1)) [(4, .int (nI (j + 1))), (1, .int 1), (3, .int ((smr r k (dmd r) j) + 0)), (2, .int (nI k)), (0, .ref (ap 0))] rfl (nI_add _ _) rfl (by decide) dL_holds_223 ?_
          refine x_goto C 136 (by decide) dL_holds_226 ?_
          refine x_lv [(4, .int (nI (j + 1))), (3, .int ((smr r k (dmd r) j) + 0)), (1, .int 1), (2, .int (nI k)), (0, .ref (ap 0))] [0, 2, 1, 3, 4] rfl ?_
          refine x_lve (lv' := [(4, .int (nI (j + 1))), (3, .int (smr r k (dmd r) (j + 1))), (1, .int 1), (2, .int (nI k)), (0, .ref (ap 0))]) (by rw [smr_s, if_neg h1, Int32.add_zero]) ?_
          refine x_wid (k := n0 + 8 * (j + 1)) (n := s0 + 48 * (j + 1)) (by omega) (by omega) ?_
          exact ih (j + 1) (by omega) d1
        · refine x_aload_n C 4 rfl rfl dL_holds_200 ?_
          refine x_iload C 1 rfl dL_holds_201 ?_
          refine x_EV0 [.int (nI j)] [] C (a_mixSource l g ap ad r d1 po pn sv mm j hjx H.1 Hp) rfl yV_X6_mixSource wML_L_136 0 rfl rfl rfl rfl (nle rfl) (nle rfl) (nle rfl) (show n0 + 8 * j + 0 + 1 + 1 + 1 + 1 + 1 ≤ 1000 by omega) (show s0 + 48 * j + 0 + 6 + 6 + 6 + 6 + 6 ≤ 6000 by omega) dL_holds_203 (fun E w h => h.elim) (fun r0 w0 h0 => ?_)
          obtain ⟨rfl, rfl⟩ := h0
          refine x_st (st' := [.int (r.xs j)]) rfl ?_
          refine x_iconst C 4 (by decide) dL_holds_206 ?_
          refine x_isub C dL_holds_207 ?_
          refine x_aload_n C 4 rfl rfl dL_holds_208 ?_
          refine x_iload C 1 rfl dL_holds_209 ?_
          refine x_EV0 [.int (nI j)] [.int ((r.xs j) - 4)] C (a_mixServo l g ap ad r d1 po pn sv mm j hjx H.1 Hp) rfl yV_X6_mixServo wML_L_127 0 rfl rfl rfl rfl (nle rfl) (nle rfl) (nle rfl) (show n0 + 8 * j + 0 + 1 + 1 + 1 + 1 + 1 + 1 ≤ 1000 by omega) (show s0 + 48 * j + 0 + 6 + 6 + 6 + 6 + 6 + 6 ≤ 6000 by omega) dL_holds_211 (fun E w h => h.elim) (fun r0 w0 h0 => ?_)
          obtain ⟨rfl, rfl⟩ := h0
          refine x_st (st' := [.int (r.xv j), .int ((r.xs j) - 4)]) rfl ?_
          refine x_icmp_ge C 221 (by decide) dL_holds_214 (fun hz => absurd hz (Int32.not_le.mpr (src_lt hM hb hjx (Int32.not_lt.mp h4)))) (fun _ => ?_)
          refine x_iconst C 1 (by decide) dL_holds_217 ?_
          refine x_goto C 222 (by decide) dL_holds_218 ?_
          refine x_istore_n C [(1, .int 1), (3, .int ((smr r k (dmd r) j) + 0)), (4, .int (nI j)), (2, .int (nI k)), (0, .ref (ap 0))] rfl rfl (by decide) dL_holds_222 ?_
          refine x_iinc C 2 (nI (j + 1)) [(4, .int (nI (j + 1))), (1, .int 1), (3, .int ((smr r k (dmd r) j) + 0)), (2, .int (nI k)), (0, .ref (ap 0))] rfl (nI_add _ _) rfl (by decide) dL_holds_223 ?_
          refine x_goto C 136 (by decide) dL_holds_226 ?_
          refine x_lv [(4, .int (nI (j + 1))), (3, .int ((smr r k (dmd r) j) + 0)), (1, .int 1), (2, .int (nI k)), (0, .ref (ap 0))] [0, 2, 1, 3, 4] rfl ?_
          refine x_lve (lv' := [(4, .int (nI (j + 1))), (3, .int (smr r k (dmd r) (j + 1))), (1, .int 1), (2, .int (nI k)), (0, .ref (ap 0))]) (by rw [smr_s, if_neg h1, Int32.add_zero]) ?_
          refine x_wid (k := n0 + 8 * (j + 1)) (n := s0 + 48 * (j + 1)) (by omega) (by omega) ?_
          exact ih (j + 1) (by omega) d1
    · refine x_aload_n C 4 rfl rfl dL_holds_156 ?_
      refine x_iload C 0 rfl dL_holds_157 ?_
      refine x_EV0 [.int (nI j)] [.int (smr r k (dmd r) j)] C (a_mixValue l g ap ad r d po pn sv mm j hjx H.1 Hp H.2.2.1) rfl yV_X6_mixValue wML_L_130 0 rfl rfl rfl rfl (nle rfl) (nle rfl) (nle rfl) (show n0 + 8 * j + 0 + 1 + 1 ≤ 1000 by omega) (show s0 + 48 * j + 0 + 6 + 6 ≤ 6000 by omega) dL_holds_159 (fun E w h => h.elim) (fun r0 w0 h0 => ?_)
      obtain ⟨rfl, d2, rfl⟩ := h0
      refine x_st (st' := [.int (vlu r j), .int (smr r k (dmd r) j)]) rfl ?_
      refine x_goto C 166 (by decide) dL_holds_162 ?_
      refine x_iadd C dL_holds_166 ?_
      refine x_istore_n C [(3, .int ((smr r k (dmd r) j) + (vlu r j))), (4, .int (nI j)), (1, .int 1), (2, .int (nI k)), (0, .ref (ap 0))] rfl rfl (by decide) dL_holds_167 ?_
      refine x_iload_n C 2 rfl rfl dL_holds_168 ?_
      refine x_if_eq C 221 (by decide) dL_holds_169 (fun hz => absurd hz (by decide)) (fun _ => ?_)
      refine x_aload_n C 4 rfl rfl dL_holds_172 ?_
      refine x_iload C 1 rfl dL_holds_173 ?_
      refine x_EV0 [.int (nI j)] [] C (a_isActive l g ap ad r d2 po pn sv mm j hjx H.1 Hp) rfl yV_X6_isActive wML_L_133 0 rfl rfl rfl rfl (nle rfl) (nle rfl) (nle rfl) (show n0 + 8 * j + 0 + 1 + 1 + 1 ≤ 1000 by omega) (show s0 + 48 * j + 0 + 6 + 6 + 6 ≤ 6000 by omega) dL_holds_175 (fun E w h => h.elim) (fun r0 w0 h0 => ?_)
      obtain ⟨rfl, rfl⟩ := h0
      refine x_st (st' := [.int (sp_X2_holds r.xc j r.kh)]) rfl ?_
      refine x_if_ne C 190 (by decide) dL_holds_178 (fun h5 => ?_) (fun h5 => ?_)
      · refine x_aload_n C 4 rfl rfl dL_holds_190 ?_
        refine x_iload C 1 rfl dL_holds_191 ?_
        refine x_EV0 [.int (nI j)] [] C (a_mixSource l g ap ad r d2 po pn sv mm j hjx H.1 Hp) rfl yV_X6_mixSource wML_L_136 0 rfl rfl rfl rfl (nle rfl) (nle rfl) (nle rfl) (show n0 + 8 * j + 0 + 1 + 1 + 1 + 1 ≤ 1000 by omega) (show s0 + 48 * j + 0 + 6 + 6 + 6 + 6 ≤ 6000 by omega) dL_holds_193 (fun E w h => h.elim) (fun r0 w0 h0 => ?_)
        obtain ⟨rfl, rfl⟩ := h0
        refine x_st (st' := [.int (r.xs j)]) rfl ?_
        refine x_iconst C 4 (by decide) dL_holds_196 ?_
        refine x_icmp_lt C 217 (by decide) dL_holds_197 (fun h6 => ?_) (fun h6 => ?_)
        · refine x_iconst C 1 (by decide) dL_holds_217 ?_
          refine x_goto C 222 (by decide) dL_holds_218 ?_
          refine x_istore_n C [(1, .int 1), (3, .int ((smr r k (dmd r) j) + (vlu r j))), (4, .int (nI j)), (2, .int (nI k)), (0, .ref (ap 0))] rfl rfl (by decide) dL_holds_222 ?_
          refine x_iinc C 2 (nI (j + 1)) [(4, .int (nI (j + 1))), (1, .int 1), (3, .int ((smr r k (dmd r) j) + (vlu r j))), (2, .int (nI k)), (0, .ref (ap 0))] rfl (nI_add _ _) rfl (by decide) dL_holds_223 ?_
          refine x_goto C 136 (by decide) dL_holds_226 ?_
          refine x_lv [(4, .int (nI (j + 1))), (3, .int ((smr r k (dmd r) j) + (vlu r j))), (1, .int 1), (2, .int (nI k)), (0, .ref (ap 0))] [0, 2, 1, 3, 4] rfl ?_
          refine x_lve (lv' := [(4, .int (nI (j + 1))), (3, .int (smr r k (dmd r) (j + 1))), (1, .int 1), (2, .int (nI k)), (0, .ref (ap 0))]) (by rw [smr_s, if_pos h1]; rfl) ?_
          refine x_wid (k := n0 + 8 * (j + 1)) (n := s0 + 48 * (j + 1)) (by omega) (by omega) ?_
          exact ih (j + 1) (by omega) d2
        · refine x_aload_n C 4 rfl rfl dL_holds_200 ?_
          refine x_iload C 1 rfl dL_holds_201 ?_
          refine x_EV0 [.int (nI j)] [] C (a_mixSource l g ap ad r d2 po pn sv mm j hjx H.1 Hp) rfl yV_X6_mixSource wML_L_136 0 rfl rfl rfl rfl (nle rfl) (nle rfl) (nle rfl) (show n0 + 8 * j + 0 + 1 + 1 + 1 + 1 + 1 ≤ 1000 by omega) (show s0 + 48 * j + 0 + 6 + 6 + 6 + 6 + 6 ≤ 6000 by omega) dL_holds_203 (fun E w h => h.elim) (fun r0 w0 h0 => ?_)
          obtain ⟨rfl, rfl⟩ := h0
          refine x_st (st' := [.int (r.xs j)]) rfl ?_
          refine x_iconst C 4 (by decide) dL_holds_206 ?_
          refine x_isub C dL_holds_207 ?_
          refine x_aload_n C 4 rfl rfl dL_holds_208 ?_
          refine x_iload C 1 rfl dL_holds_209 ?_
          refine x_EV0 [.int (nI j)] [.int ((r.xs j) - 4)] C (a_mixServo l g ap ad r d2 po pn sv mm j hjx H.1 Hp) rfl yV_X6_mixServo wML_L_127 0 rfl rfl rfl rfl (nle rfl) (nle rfl) (nle rfl) (show n0 + 8 * j + 0 + 1 + 1 + 1 + 1 + 1 + 1 ≤ 1000 by omega) (show s0 + 48 * j + 0 + 6 + 6 + 6 + 6 + 6 + 6 ≤ 6000 by omega) dL_holds_211 (fun E w h => h.elim) (fun r0 w0 h0 => ?_)
          obtain ⟨rfl, rfl⟩ := h0
          refine x_st (st' := [.int (r.xv j), .int ((r.xs j) - 4)]) rfl ?_
          refine x_icmp_ge C 221 (by decide) dL_holds_214 (fun hz => absurd hz (Int32.not_le.mpr (src_lt hM hb hjx (Int32.not_lt.mp h6)))) (fun _ => ?_)
          refine x_iconst C 1 (by decide) dL_holds_217 ?_
          refine x_goto C 222 (by decide) dL_holds_218 ?_
          refine x_istore_n C [(1, .int 1), (3, .int ((smr r k (dmd r) j) + (vlu r j))), (4, .int (nI j)), (2, .int (nI k)), (0, .ref (ap 0))] rfl rfl (by decide) dL_holds_222 ?_
          refine x_iinc C 2 (nI (j + 1)) [(4, .int (nI (j + 1))), (1, .int 1), (3, .int ((smr r k (dmd r) j) + (vlu r j))), (2, .int (nI k)), (0, .ref (ap 0))] rfl (nI_add _ _) rfl (by decide) dL_holds_223 ?_
          refine x_goto C 136 (by decide) dL_holds_226 ?_
          refine x_lv [(4, .int (nI (j + 1))), (3, .int ((smr r k (dmd r) j) + (vlu r j))), (1, .int 1), (2, .int (nI k)), (0, .ref (ap 0))] [0, 2, 1, 3, 4] rfl ?_
          refine x_lve (lv' := [(4, .int (nI (j + 1))), (3, .int (smr r k (dmd r) (j + 1))), (1, .int 1), (2, .int (nI k)), (0, .ref (ap 0))]) (by rw [smr_s, if_pos h1]; rfl) ?_
          refine x_wid (k := n0 + 8 * (j + 1)) (n := s0 + 48 * (j + 1)) (by omega) (by omega) ?_
          exact ih (j + 1) (by omega) d2
      · refine x_aload_n C 4 rfl rfl dL_holds_181 ?_
        refine x_iload C 1 rfl dL_holds_182 ?_
        refine x_EV0 [.int (nI j)] [] C (a_mixValue l g ap ad r d2 po pn sv mm j hjx H.1 Hp H.2.2.1) rfl yV_X6_mixValue wML_L_130 0 rfl rfl rfl rfl (nle rfl) (nle rfl) (nle rfl) (show n0 + 8 * j + 0 + 1 + 1 + 1 + 1 ≤ 1000 by omega) (show s0 + 48 * j + 0 + 6 + 6 + 6 + 6 ≤ 6000 by omega) dL_holds_184 (fun E w h => h.elim) (fun r0 w0 h0 => ?_)
        obtain ⟨rfl, d3, rfl⟩ := h0
        refine x_st (st' := [.int (vlu r j)]) rfl ?_
        refine x_if_ne C 221 (by decide) dL_holds_187 (fun hz => absurd (vlu_0 h5) hz) (fun _ => ?_)
        refine x_aload_n C 4 rfl rfl dL_holds_190 ?_
        refine x_iload C 1 rfl dL_holds_191 ?_
        refine x_EV0 [.int (nI j)] [] C (a_mixSource l g ap ad r d3 po pn sv mm j hjx H.1 Hp) rfl yV_X6_mixSource wML_L_136 0 rfl rfl rfl rfl (nle rfl) (nle rfl) (nle rfl) (show n0 + 8 * j + 0 + 1 + 1 + 1 + 1 + 1 ≤ 1000 by omega) (show s0 + 48 * j + 0 + 6 + 6 + 6 + 6 + 6 ≤ 6000 by omega) dL_holds_193 (fun E w h => h.elim) (fun r0 w0 h0 => ?_)
        obtain ⟨rfl, rfl⟩ := h0
        refine x_st (st' := [.int (r.xs j)]) rfl ?_
        refine x_iconst C 4 (by decide) dL_holds_196 ?_
        refine x_icmp_lt C 217 (by decide) dL_holds_197 (fun h7 => ?_) (fun h7 => ?_)
        · refine x_iconst C 1 (by decide) dL_holds_217 ?_
          refine x_goto C 222 (by decide) dL_holds_218 ?_
          refine x_istore_n C [(1, .int 1), (3, .int ((smr r k (dmd r) j) + (vlu r j))), (4, .int (nI j)), (2, .int (nI k)), (0, .ref (ap 0))] rfl rfl (by decide) dL_holds_222 ?_
          refine x_iinc C 2 (nI (j + 1)) [(4, .int (nI (j + 1))), (1, .int 1), (3, .int ((smr r k (dmd r) j) + (vlu r j))), (2, .int (nI k)), (0, .ref (ap 0))] rfl (nI_add _ _) rfl (by decide) dL_holds_223 ?_
          refine x_goto C 136 (by decide) dL_holds_226 ?_
          refine x_lv [(4, .int (nI (j + 1))), (3, .int ((smr r k (dmd r) j) + (vlu r j))), (1, .int 1), (2, .int (nI k)), (0, .ref (ap 0))] [0, 2, 1, 3, 4] rfl ?_
          refine x_lve (lv' := [(4, .int (nI (j + 1))), (3, .int (smr r k (dmd r) (j + 1))), (1, .int 1), (2, .int (nI k)), (0, .ref (ap 0))]) (by rw [smr_s, if_pos h1]; rfl) ?_
          refine x_wid (k := n0 + 8 * (j + 1)) (n := s0 + 48 * (j + 1)) (by omega) (by omega) ?_
          exact ih (j + 1) (by omega) d3
        · refine x_aload_n C 4 rfl rfl dL_holds_200 ?_
          refine x_iload C 1 rfl dL_holds_201 ?_
          refine x_EV0 [.int (nI j)] [] C (a_mixSource l g ap ad r d3 po pn sv mm j hjx H.1 Hp) rfl yV_X6_mixSource wML_L_136 0 rfl rfl rfl rfl (nle rfl) (nle rfl) (nle rfl) (show n0 + 8 * j + 0 + 1 + 1 + 1 + 1 + 1 + 1 ≤ 1000 by omega) (show s0 + 48 * j + 0 + 6 + 6 + 6 + 6 + 6 + 6 ≤ 6000 by omega) dL_holds_203 (fun E w h => h.elim) (fun r0 w0 h0 => ?_)
          obtain ⟨rfl, rfl⟩ := h0
          refine x_st (st' := [.int (r.xs j)]) rfl ?_
          refine x_iconst C 4 (by decide) dL_holds_206 ?_
          refine x_isub C dL_holds_207 ?_
          refine x_aload_n C 4 rfl rfl dL_holds_208 ?_
          refine x_iload C 1 rfl dL_holds_209 ?_
          refine x_EV0 [.int (nI j)] [.int ((r.xs j) - 4)] C (a_mixServo l g ap ad r d3 po pn sv mm j hjx H.1 Hp) rfl yV_X6_mixServo wML_L_127 0 rfl rfl rfl rfl (nle rfl) (nle rfl) (nle rfl) (show n0 + 8 * j + 0 + 1 + 1 + 1 + 1 + 1 + 1 + 1 ≤ 1000 by omega) (show s0 + 48 * j + 0 + 6 + 6 + 6 + 6 + 6 + 6 + 6 ≤ 6000 by omega) dL_holds_211 (fun E w h => h.elim) (fun r0 w0 h0 => ?_)
          obtain ⟨rfl, rfl⟩ := h0
          refine x_st (st' := [.int (r.xv j), .int ((r.xs j) - 4)]) rfl ?_
          refine x_icmp_ge C 221 (by decide) dL_holds_214 (fun hz => absurd hz (Int32.not_le.mpr (src_lt hM hb hjx (Int32.not_lt.mp h7)))) (fun _ => ?_)
          refine x_iconst C 1 (by decide) dL_holds_217 ?_
          refine x_goto C 222 (by decide) dL_holds_218 ?_
          refine x_istore_n C [(1, .int 1), (3, .int ((smr r k (dmd r) j) + (vlu r j))), (4, .int (nI j)), (2, .int (nI k)), (0, .ref (ap 0))] rfl rfl (by decide) dL_holds_222 ?_
          refine x_iinc C 2 (nI (j + 1)) [(4, .int (nI (j + 1))), (1, .int 1), (3, .int ((smr r k (dmd r) j) + (vlu r j))), (2, .int (nI k)), (0, .ref (ap 0))] rfl (nI_add _ _) rfl (by decide) dL_holds_223 ?_
          refine x_goto C 136 (by decide) dL_holds_226 ?_
          refine x_lv [(4, .int (nI (j + 1))), (3, .int ((smr r k (dmd r) j) + (vlu r j))), (1, .int 1), (2, .int (nI k)), (0, .ref (ap 0))] [0, 2, 1, 3, 4] rfl ?_
          refine x_lve (lv' := [(4, .int (nI (j + 1))), (3, .int (smr r k (dmd r) (j + 1))), (1, .int 1), (2, .int (nI k)), (0, .ref (ap 0))]) (by rw [smr_s, if_pos h1]; rfl) ?_
          refine x_wid (k := n0 + 8 * (j + 1)) (n := s0 + 48 * (j + 1)) (by omega) (by omega) ?_
          exact ih (j + 1) (by omega) d3
set_option maxRecDepth 100000 in
set_option maxHeartbeats 2000000 in
theorem ho_k {p : Program} {l : Launch} {e : Env} {s : State} {m : MethodId} {args : Array Value} {below : List Frame} {meth : Method} {c : Code} {Q : State → Prop} {nm : String} {g : xGt} {A : Nat → Prop} {ap ad : Nat → Nat} {r : xR} {po pn : Int32} {sv mm : xPl} {B : Int} (C : xC p l s m args meth c cL_holds 5 RL nm g.1 (xT g) A) (H : Gd B r) (hB : B ≤ 1000) (Hp : pk po pn sv) {k n0 s0 : Nat} (hk : k < 6) (hn0 : n0 + 120 ≤ 1000) (hs0 : s0 + 720 ≤ 6000) (K : ∀ d, xW p l e (xRm 9 200 1000 6000) s m args below meth c g.1 A 5 (n0 + 120) (s0 + 720) Q (wB g ap ad r d po pn sv mm) [(2, .int (nI k)), (1, .int 1), (0, .ref (ap 0))] 375 []) (d : Nat → Int32) : xW p l e (xRm 9 200 1000 6000) s m args below meth c g.1 A 5 (n0) (s0) Q (wB g ap ad r d po pn sv mm) [(2, .int (nI k)), (1, .int 1), (0, .ref (ap 0))] 131 [] := by
  have hM := H.2.2.1
  have hb := H.1.1
  have hV := H.2.2.2.1
  have hW := H.2.2.2.2.1
  refine x_iconst C 0 (by decide) dL_holds_131 ?_
  refine x_istore_n C [(3, .int 0), (2, .int (nI k)), (1, .int 1), (0, .ref (ap 0))] rfl rfl (by decide) dL_holds_132 ?_
  refine x_iconst C 0 (by decide) dL_holds_133 ?_
  refine x_istore C [(4, .int 0), (3, .int 0), (2, .int (nI k)), (1, .int 1), (0, .ref (ap 0))] rfl (by decide) dL_holds_134 ?_
  refine x_lv [(4, .int 0), (3, .int 0), (1, .int 1), (2, .int (nI k)), (0, .ref (ap 0))] [0, 1, 3, 2, 4] rfl ?_
  refine x_lve (lv' := [(4, .int (nI (0))), (3, .int (smr r k (dmd r) (0))), (1, .int 1), (2, .int (nI k)), (0, .ref (ap 0))]) rfl ?_
  refine x_wid (k := n0 + 8 * 0) (n := s0 + 48 * 0) (by omega) (by omega) ?_
  refine ho_e C H hB Hp hk hn0 hs0 (fun d2 => ?_) (xN r) 0 (by omega) d
  suffices K3 : xW p l e (xRm 9 200 1000 6000) s m args below meth c g.1 A 5 (n0 + 100) (s0 + 600) Q (wB g ap ad r d2 po pn sv mm) [(4, .int (nI (xN r))), (3, .int (smr r k (dmd r) (xN r))), (1, .int 1), (2, .int (nI k)), (0, .ref (ap 0))] 256 [.int (dmd r k)] by
    refine x_iload_n C 1 rfl rfl dL_holds_229 ?_
    refine x_sipush C (-300) (by decide) dL_holds_230 ?_
    refine x_icmp_ge C 242 (by decide) dL_holds_233 (fun h1 => ?_) (fun h1 => ?_)
    · refine x_iload_n C 1 rfl rfl dL_holds_242 ?_
      refine x_sipush C 300 (by decide) dL_holds_243 ?_
      refine x_icmp_le C 255 (by decide) dL_holds_246 (fun h2 => ?_) (fun h2 => ?_)
      · refine x_iload_n C 1 rfl rfl dL_holds_255 ?_
        refine x_st (st' := [.int (dmd r k)]) (by rw [dmd_sum hM hb hk]; unfold c300; rw [if_neg (Int32.not_lt.mpr h1), if_neg (Int32.not_lt.mpr h2)]) ?_
        exact K3
      · refine x_sipush C 300 (by decide) dL_holds_249 ?_
        refine x_goto C 256 (by decide) dL_holds_252 ?_
        refine x_st (st' := [.int (dmd r k)]) (by rw [dmd_sum hM hb hk]; unfold c300; rw [if_neg (Int32.not_lt.mpr h1), if_pos (Int32.not_le.mp h2)]) ?_
        exact K3
    · refine x_sipush C (-300) (by decide) dL_holds_236 ?_
      refine x_goto C 256 (by decide) dL_holds_239 ?_
      refine x_st (st' := [.int (dmd r k)]) (by rw [dmd_sum hM hb hk]; unfold c300; rw [if_pos (Int32.not_le.mp h1), if_neg (show ¬ (300 : Int32) < -300 by decide)]) ?_
      exact K3
  refine x_istore_n C [(3, .int (dmd r k)), (4, .int (nI (xN r))), (1, .int 1), (2, .int (nI k)), (0, .ref (ap 0))] rfl rfl (by decide) dL_holds_256 ?_
  refine x_aload_n C 4 rfl rfl dL_holds_257 ?_
  refine x_iload_n C 3 rfl rfl dL_holds_258 ?_
  refine x_EV0 [.int (nI k)] [] C (a_aim l g ap ad r d2 po pn sv mm k hk H.1 Hp H.2.2.1) rfl yV_X6_aim wML_L_71 0 rfl rfl rfl rfl (nle rfl) (nle rfl) (nle rfl) (show n0 + 100 + 1 ≤ 1000 by omega) (show s0 + 600 + 6 ≤ 6000 by omega) dL_holds_259 (fun E w h => h.elim) (fun r0 w0 h0 => ?_)
  obtain ⟨rfl, d1, rfl⟩ := h0
  refine x_st (st' := [.int (aimA r k)]) rfl ?_
  refine x_aload_n C 4 rfl rfl dL_holds_262 ?_
  refine x_iload_n C 3 rfl rfl dL_holds_263 ?_
  refine x_EV0 [.int (nI k)] [.int (aimA r k)] C (a_excess l g ap ad r d1 po pn sv mm k hk H.1 Hp H.2.2.1) rfl yV_X6_excess wML_L_139 0 rfl rfl rfl rfl (nle rfl) (nle rfl) (nle rfl) (show n0 + 100 + 1 + 1 ≤ 1000 by omega) (show s0 + 600 + 6 + 6 ≤ 6000 by omega) dL_holds_264 (fun E w h => h.elim) (fun r0 w0 h0 => ?_)
  obtain ⟨rfl, d2, rfl⟩ := h0
  refine x_st (st' := [.int (rawA r k - aimA r k), .int (aimA r k)]) rfl ?_
  refine x_iadd C dL_holds_267 ?_
  refine x_st (st' := [.int (rawA r k)]) (by rw [exc_add]) ?_
  refine x_istore C [(4, .int (rawA r k)), (3, .int (dmd r k)), (1, .int 1), (2, .int (nI k)), (0, .ref (ap 0))] rfl (by decide) dL_holds_268 ?_
  refine x_iload_n C 2 rfl rfl dL_holds_270 ?_
  refine x_if_eq C 373 (by decide) dL_holds_271 (fun hz => absurd hz (by decide)) (fun _ => ?_)
  refine x_aload_n C 4 rfl rfl dL_holds_274 ?_
  refine x_iload_n C 3 rfl rfl dL_holds_275 ?_
  refine x_EV0 [.int (nI k)] [] C (a_demand l g ap ad r d2 po pn sv mm k hk H.1 Hp H.2.2.1) rfl yV_X6_demand wML_L_142 0 rfl rfl rfl rfl (nle rfl) (nle rfl) (nle rfl) (show n0 + 100 + 1 + 1 + 1 ≤ 1000 by omega) (show s0 + 600 + 6 + 6 + 6 ≤ 6000 by omega) dL_holds_276 (fun E w h => h.elim) (fun r0 w0 h0 => ?_)
  obtain ⟨rfl, d3, rfl⟩ := h0
  refine x_st (st' := [.int (dmd r k)]) rfl ?_
  refine x_iload_n C 1 rfl rfl dL_holds_279 ?_
  refine x_icmp_ne C 373 (by decide) dL_holds_280 (fun hz => absurd rfl hz) (fun _ => ?_)
  refine x_iload C 0 rfl dL_holds_283 ?_
  refine x_iload_n C 1 rfl rfl dL_holds_285 ?_
  refine x_isub C dL_holds_286 ?_
  refine x_FS (w1 := ([] : va_W)) (wc := ([] : va_W)) (w2 := (wB g ap ad r d3 po pn sv mm)) [.int ((rawA r k) - (dmd r k))] [] (wB g ap ad r d3 po pn sv mm) C (k_L_size l g ((rawA r k) - (dmd r k))) rfl yS_L_size wML_L_74 rfl rfl rfl (nle rfl) (nle rfl) (nle rfl) (show n0 + 100 + 1 + 1 + 1 + 0 ≤ 1000 by omega) (show s0 + 600 + 6 + 6 + 6 + 0 ≤ 6000 by omega) dL_holds_287 ?_
  refine x_bipush C 50 (by decide) dL_holds_290 ?_
  refine x_icmp_le C 307 (by decide) dL_holds_292 (fun h1 => ?_) (fun h1 => ?_)
  · refine x_aload_n C 4 rfl rfl dL_holds_307 ?_
    refine x_iload_n C 3 rfl rfl dL_holds_308 ?_
    refine x_EV0 [.int (nI k)] [] C (a_reason l g ap ad r d3 po pn sv mm k hk H.1 Hp H.2.2.1) rfl yV_X6_reason wML_L_145 0 rfl rfl rfl rfl (nle rfl) (nle rfl) (nle rfl) (show n0 + 100 + 1 + 1 + 1 + 0 + 1 ≤ 1000 by omega) (show s0 + 600 + 6 + 6 + 6 + 0 + 6 ≤ 6000 by omega) dL_holds_309 (fun E w h => h.elim) (fun r0 w0 h0 => ?_)
    obtain ⟨rfl, d4, rfl⟩ := h0
    refine x_st (st' := [.int (rsn r k)]) rfl ?_
    refine x_if_ne C 319 (by decide) dL_holds_312 (fun h2 => ?_) (fun h2 => ?_)
    · refine x_iconst C 0 (by decide) dL_holds_319 ?_
      refine x_aload_n C 4 rfl rfl dL_holds_320 ?_
      refine x_iload_n C 3 rfl rfl dL_holds_321 ?_
      refine x_EV0 [.int (nI k)] [.int 0] C (a_servoPosition l g ap ad r d4 po pn sv mm k hk H.1 Hp) rfl yV_X6_servoPosition wML_L_148 0 rfl rfl rfl rfl (nle rfl) (nle rfl) (nle rfl) (show n0 + 100 + 1 + 1 + 1 + 0 + 1 + 1 ≤ 1000 by omega) (show s0 + 600 + 6 + 6 + 6 + 0 + 6 + 6 ≤ 6000 by omega) dL_holds_322 (fun E w h => h.elim) (fun r0 w0 h0 => ?_)
      obtain ⟨rfl, rfl⟩ := h0
      refine x_st (st' := [.int (r.va k), .int 0]) rfl ?_
      refine x_aload_n C 4 rfl rfl dL_holds_325 ?_
      refine x_iload_n C 3 rfl rfl dL_holds_326 ?_
      refine x_EV0 [.int (nI k)] [.int (r.va k), .int 0] C (a_aim l g ap ad r d4 po pn sv mm k hk H.1 Hp H.2.2.1) rfl yV_X6_aim wML_L_71 0 rfl rfl rfl rfl (nle rfl) (nle rfl) (nle rfl) (show n0 + 100 + 1 + 1 + 1 + 0 + 1 + 1 + 1 ≤ 1000 by omega) (show s0 + 600 + 6 + 6 + 6 + 0 + 6 + 6 + 6 ≤ 6000 by omega) dL_holds_327 (fun E w h => h.elim) (fun r0 w0 h0 => ?_)
      obtain ⟨rfl, d5, rfl⟩ := h0
      refine x_st (st' := [.int (aimA r k), .int (r.va k), .int 0]) rfl ?_
      refine x_icmp_ne C 337 (by decide) dL_holds_330 (fun _ => ?_) (fun hz => absurd hz (fun q => h2 ((rsn_iff r k).mpr q)))
      refine x_iconst C 0 (by decide) dL_holds_337 ?_
      refine x_icmp_ne C 373 (by decide) dL_holds_338 (fun hz => absurd (by decide) hz) (fun _ => ?_)
      refine x_aload_n C 4 rfl rfl dL_holds_341 ?_
      refine x_iload_n C 3 rfl rfl dL_holds_342 ?_
      refine x_EV0 [.int (nI k)] [] C (a_servoPosition l g ap ad r d5 po pn sv mm k hk H.1 Hp) rfl yV_X6_servoPosition wML_L_148 0 rfl rfl rfl rfl (nle rfl) (nle rfl) (nle rfl) (show n0 + 100 + 1 + 1 + 1 + 0 + 1 + 1 + 1 + 1 ≤ 1000 by omega) (show s0 + 600 + 6 + 6 + 6 + 0 + 6 + 6 + 6 + 6 ≤ 6000 by omega) dL_holds_343 (fun E w h => h.elim) (fun r0 w0 h0 => ?_)
      obtain ⟨rfl, rfl⟩ := h0
      refine x_st (st' := [.int (r.va k)]) rfl ?_
      refine x_FS (w1 := ([] : va_W)) (wc := ([] : va_W)) (w2 := (wB g ap ad r d5 po pn sv mm)) [.int (r.va k)] [] (wB g ap ad r d5 po pn sv mm) C (k_L_size l g (r.va k)) rfl yS_L_size wML_L_74 rfl rfl rfl (nle rfl) (nle rfl) (nle rfl) (show n0 + 100 + 1 + 1 + 1 + 0 + 1 + 1 + 1 + 1 + 0 ≤ 1000 by omega) (show s0 + 600 + 6 + 6 + 6 + 0 + 6 + 6 + 6 + 6 + 0 ≤ 6000 by omega) dL_holds_346 ?_
      refine x_sipush C 150 (by decide) dL_holds_349 ?_
      refine x_icmp_gt C 373 (by decide) dL_holds_352 (fun hz => absurd hz (Int32.not_lt.mpr (sz_le (n := 150) (by decide) (by decide) (hW k hk).2.1))) (fun _ => ?_)
      refine x_aload_n C 4 rfl rfl dL_holds_355 ?_
      refine x_iload_n C 3 rfl rfl dL_holds_356 ?_
      refine x_EV0 [.int (nI k)] [] C (a_target l g ap ad r d5 po pn sv mm k hk H.1 Hp) rfl yV_X6_target wML_L_151 0 rfl rfl rfl rfl (nle rfl) (nle rfl) (nle rfl) (show n0 + 100 + 1 + 1 + 1 + 0 + 1 + 1 + 1 + 1 + 0 + 1 ≤ 1000 by omega) (show s0 + 600 + 6 + 6 + 6 + 0 + 6 + 6 + 6 + 6 + 0 + 6 ≤ 6000 by omega) dL_holds_357 (fun E w h => h.elim) (fun r0 w0 h0 => ?_)
      obtain ⟨rfl, rfl⟩ := h0
      refine x_st (st' := [.int (r.vt k)]) rfl ?_
      refine x_FS (w1 := ([] : va_W)) (wc := ([] : va_W)) (w2 := (wB g ap ad r d5 po pn sv mm)) [.int (r.vt k)] [] (wB g ap ad r d5 po pn sv mm) C (k_L_size l g (r.vt k)) rfl yS_L_size wML_L_74 rfl rfl rfl (nle rfl) (nle rfl) (nle rfl) (show n0 + 100 + 1 + 1 + 1 + 0 + 1 + 1 + 1 + 1 + 0 + 1 + 0 ≤ 1000 by omega) (show s0 + 600 + 6 + 6 + 6 + 0 + 6 + 6 + 6 + 6 + 0 + 6 + 0 ≤ 6000 by omega) dL_holds_360 ?_
      refine x_sipush C 150 (by decide) dL_holds_363 ?_
      refine x_icmp_gt C 373 (by decide) dL_holds_366 (fun hz => absurd hz (Int32.not_lt.mpr (sz_le (n := 150) (by decide) (by decide) (hW k hk).1))) (fun _ => ?_)
      refine x_iconst C 1 (by decide) dL_holds_369 ?_
      refine x_goto C 374 (by decide) dL_holds_370 ?_
      refine x_istore_n C [(1, .int 1), (4, .int (rawA r k)), (3, .int (dmd r k)), (2, .int (nI k)), (0, .ref (ap 0))] rfl rfl (by decide) dL_holds_374 ?_
      refine x_lv [(2, .int (nI k)), (1, .int 1), (0, .ref (ap 0))] [3, 0, 4] rfl ?_
      refine x_wid (k := n0 + 120) (n := s0 + 720) (by omega) (by omega) ?_
      exact K d5
    · refine x_iconst C 1 (by decide) dL_holds_315 ?_
      refine x_goto C 320 (by decide) dL_holds_316 ?_
      refine x_aload_n C 4 rfl rfl dL_holds_320 ?_
      refine x_iload_n C 3 rfl rfl dL_holds_321 ?_
      refine x_EV0 [.int (nI k)] [.int 1] C (a_servoPosition l g ap ad r d4 po pn sv mm k hk H.1 Hp) rfl yV_X6_servoPosition wML_L_148 0 rfl rfl rfl rfl (nle rfl) (nle rfl) (nle rfl) (show n0 + 100 + 1 + 1 + 1 + 0 + 1 + 1 ≤ 1000 by omega) (show s0 + 600 + 6 + 6 + 6 + 0 + 6 + 6 ≤ 6000 by omega) dL_holds_322 (fun E w h => h.elim) (fun r0 w0 h0 => ?_)
      obtain ⟨rfl, rfl⟩ := h0
      refine x_st (st' := [.int (r.va k), .int 1]) rfl ?_
      refine x_aload_n C 4 rfl rfl dL_holds_325 ?_
      refine x_iload_n C 3 rfl rfl dL_holds_326 ?_
      refine x_EV0 [.int (nI k)] [.int (r.va k), .int 1] C (a_aim l g ap ad r d4 po pn sv mm k hk H.1 Hp H.2.2.1) rfl yV_X6_aim wML_L_71 0 rfl rfl rfl rfl (nle rfl) (nle rfl) (nle rfl) (show n0 + 100 + 1 + 1 + 1 + 0 + 1 + 1 + 1 ≤ 1000 by omega) (show s0 + 600 + 6 + 6 + 6 + 0 + 6 + 6 + 6 ≤ 6000 by omega) dL_holds_327 (fun E w h => h.elim) (fun r0 w0 h0 => ?_)
      obtain ⟨rfl, d6, rfl⟩ := h0
      refine x_st (st' := [.int (aimA r k), .int (r.va k), .int 1]) rfl ?_
      refine x_icmp_ne C 337 (by decide) dL_holds_330 (fun hz => absurd ((rsn_iff r k).mp h2) hz) (fun _ => ?_)
      refine x_iconst C 1 (by decide) dL_holds_333 ?_
      refine x_goto C 338 (by decide) dL_holds_334 ?_
      refine x_icmp_ne C 373 (by decide) dL_holds_338 (fun hz => absurd (by decide) hz) (fun _ => ?_)
      refine x_aload_n C 4 rfl rfl dL_holds_341 ?_
      refine x_iload_n C 3 rfl rfl dL_holds_342 ?_
      refine x_EV0 [.int (nI k)] [] C (a_servoPosition l g ap ad r d6 po pn sv mm k hk H.1 Hp) rfl yV_X6_servoPosition wML_L_148 0 rfl rfl rfl rfl (nle rfl) (nle rfl) (nle rfl) (show n0 + 100 + 1 + 1 + 1 + 0 + 1 + 1 + 1 + 1 ≤ 1000 by omega) (show s0 + 600 + 6 + 6 + 6 + 0 + 6 + 6 + 6 + 6 ≤ 6000 by omega) dL_holds_343 (fun E w h => h.elim) (fun r0 w0 h0 => ?_)
      obtain ⟨rfl, rfl⟩ := h0
      refine x_st (st' := [.int (r.va k)]) rfl ?_
      refine x_FS (w1 := ([] : va_W)) (wc := ([] : va_W)) (w2 := (wB g ap ad r d6 po pn sv mm)) [.int (r.va k)] [] (wB g ap ad r d6 po pn sv mm) C (k_L_size l g (r.va k)) rfl yS_L_size wML_L_74 rfl rfl rfl (nle rfl) (nle rfl) (nle rfl) (show n0 + 100 + 1 + 1 + 1 + 0 + 1 + 1 + 1 + 1 + 0 ≤ 1000 by omega) (show s0 + 600 + 6 + 6 + 6 + 0 + 6 + 6 + 6 + 6 + 0 ≤ 6000 by omega) dL_holds_346 ?_
      refine x_sipush C 150 (by decide) dL_holds_349 ?_
      refine x_icmp_gt C 373 (by decide) dL_holds_352 (fun hz => absurd hz (Int32.not_lt.mpr (sz_le (n := 150) (by decide) (by decide) (hW k hk).2.1))) (fun _ => ?_)
      refine x_aload_n C 4 rfl rfl dL_holds_355 ?_
      refine x_iload_n C 3 rfl rfl dL_holds_356 ?_
      refine x_EV0 [.int (nI k)] [] C (a_target l g ap ad r d6 po pn sv mm k hk H.1 Hp) rfl yV_X6_target wML_L_151 0 rfl rfl rfl rfl (nle rfl) (nle rfl) (nle rfl) (show n0 + 100 + 1 + 1 + 1 + 0 + 1 + 1 + 1 + 1 + 0 + 1 ≤ 1000 by omega) (show s0 + 600 + 6 + 6 + 6 + 0 + 6 + 6 + 6 + 6 + 0 + 6 ≤ 6000 by omega) dL_holds_357 (fun E w h => h.elim) (fun r0 w0 h0 => ?_)
      obtain ⟨rfl, rfl⟩ := h0
      refine x_st (st' := [.int (r.vt k)]) rfl ?_
      refine x_FS (w1 := ([] : va_W)) (wc := ([] : va_W)) (w2 := (wB g ap ad r d6 po pn sv mm)) [.int (r.vt k)] [] (wB g ap ad r d6 po pn sv mm) C (k_L_size l g (r.vt k)) rfl yS_L_size wML_L_74 rfl rfl rfl (nle rfl) (nle rfl) (nle rfl) (show n0 + 100 + 1 + 1 + 1 + 0 + 1 + 1 + 1 + 1 + 0 + 1 + 0 ≤ 1000 by omega) (show s0 + 600 + 6 + 6 + 6 + 0 + 6 + 6 + 6 + 6 + 0 + 6 + 0 ≤ 6000 by omega) dL_holds_360 ?_
      refine x_sipush C 150 (by decide) dL_holds_363 ?_
      refine x_icmp_gt C 373 (by decide) dL_holds_366 (fun hz => absurd hz (Int32.not_lt.mpr (sz_le (n := 150) (by decide) (by decide) (hW k hk).1))) (fun _ => ?_)
      refine x_iconst C 1 (by decide) dL_holds_369 ?_
      refine x_goto C 374 (by decide) dL_holds_370 ?_
      refine x_istore_n C [(1, .int 1), (4, .int (rawA r k)), (3, .int (dmd r k)), (2, .int (nI k)), (0, .ref (ap 0))] rfl rfl (by decide) dL_holds_374 ?_
      refine x_lv [(2, .int (nI k)), (1, .int 1), (0, .ref (ap 0))] [3, 0, 4] rfl ?_
      refine x_wid (k := n0 + 120) (n := s0 + 720) (by omega) (by omega) ?_
      exact K d6
  · refine x_iload C 0 rfl dL_holds_295 ?_
    refine x_iload_n C 1 rfl rfl dL_holds_297 ?_
    refine x_iadd C dL_holds_298 ?_
    refine x_FS (w1 := ([] : va_W)) (wc := ([] : va_W)) (w2 := (wB g ap ad r d3 po pn sv mm)) [.int ((rawA r k) + (dmd r k))] [] (wB g ap ad r d3 po pn sv mm) C (k_L_size l g ((rawA r k) + (dmd r k))) rfl yS_L_size wML_L_74 rfl rfl rfl (nle rfl) (nle rfl) (nle rfl) (show n0 + 100 + 1 + 1 + 1 + 0 + 0 ≤ 1000 by omega) (show s0 + 600 + 6 + 6 + 6 + 0 + 0 ≤ 6000 by omega) dL_holds_299 ?_
    refine x_bipush C 50 (by decide) dL_holds_302 ?_
    refine x_icmp_gt C 373 (by decide) dL_holds_304 (fun hz => absurd hz (Int32.not_lt.mpr (raw_50 hV hM hb hk h1))) (fun _ => ?_)
    refine x_aload_n C 4 rfl rfl dL_holds_307 ?_
    refine x_iload_n C 3 rfl rfl dL_holds_308 ?_
    refine x_EV0 [.int (nI k)] [] C (a_reason l g ap ad r d3 po pn sv mm k hk H.1 Hp H.2.2.1) rfl yV_X6_reason wML_L_145 0 rfl rfl rfl rfl (nle rfl) (nle rfl) (nle rfl) (show n0 + 100 + 1 + 1 + 1 + 0 + 0 + 1 ≤ 1000 by omega) (show s0 + 600 + 6 + 6 + 6 + 0 + 0 + 6 ≤ 6000 by omega) dL_holds_309 (fun E w h => h.elim) (fun r0 w0 h0 => ?_)
    obtain ⟨rfl, d7, rfl⟩ := h0
    refine x_st (st' := [.int (rsn r k)]) rfl ?_
    refine x_if_ne C 319 (by decide) dL_holds_312 (fun h3 => ?_) (fun h3 => ?_)
    · refine x_iconst C 0 (by decide) dL_holds_319 ?_
      refine x_aload_n C 4 rfl rfl dL_holds_320 ?_
      refine x_iload_n C 3 rfl rfl dL_holds_321 ?_
      refine x_EV0 [.int (nI k)] [.int 0] C (a_servoPosition l g ap ad r d7 po pn sv mm k hk H.1 Hp) rfl yV_X6_servoPosition wML_L_148 0 rfl rfl rfl rfl (nle rfl) (nle rfl) (nle rfl) (show n0 + 100 + 1 + 1 + 1 + 0 + 0 + 1 + 1 ≤ 1000 by omega) (show s0 + 600 + 6 + 6 + 6 + 0 + 0 + 6 + 6 ≤ 6000 by omega) dL_holds_322 (fun E w h => h.elim) (fun r0 w0 h0 => ?_)
      obtain ⟨rfl, rfl⟩ := h0
      refine x_st (st' := [.int (r.va k), .int 0]) rfl ?_
      refine x_aload_n C 4 rfl rfl dL_holds_325 ?_
      refine x_iload_n C 3 rfl rfl dL_holds_326 ?_
      refine x_EV0 [.int (nI k)] [.int (r.va k), .int 0] C (a_aim l g ap ad r d7 po pn sv mm k hk H.1 Hp H.2.2.1) rfl yV_X6_aim wML_L_71 0 rfl rfl rfl rfl (nle rfl) (nle rfl) (nle rfl) (show n0 + 100 + 1 + 1 + 1 + 0 + 0 + 1 + 1 + 1 ≤ 1000 by omega) (show s0 + 600 + 6 + 6 + 6 + 0 + 0 + 6 + 6 + 6 ≤ 6000 by omega) dL_holds_327 (fun E w h => h.elim) (fun r0 w0 h0 => ?_)
      obtain ⟨rfl, d8, rfl⟩ := h0
      refine x_st (st' := [.int (aimA r k), .int (r.va k), .int 0]) rfl ?_
      refine x_icmp_ne C 337 (by decide) dL_holds_330 (fun _ => ?_) (fun hz => absurd hz (fun q => h3 ((rsn_iff r k).mpr q)))
      refine x_iconst C 0 (by decide) dL_holds_337 ?_
      refine x_icmp_ne C 373 (by decide) dL_holds_338 (fun hz => absurd (by decide) hz) (fun _ => ?_)
      refine x_aload_n C 4 rfl rfl dL_holds_341 ?_
      refine x_iload_n C 3 rfl rfl dL_holds_342 ?_
      refine x_EV0 [.int (nI k)] [] C (a_servoPosition l g ap ad r d8 po pn sv mm k hk H.1 Hp) rfl yV_X6_servoPosition wML_L_148 0 rfl rfl rfl rfl (nle rfl) (nle rfl) (nle rfl) (show n0 + 100 + 1 + 1 + 1 + 0 + 0 + 1 + 1 + 1 + 1 ≤ 1000 by omega) (show s0 + 600 + 6 + 6 + 6 + 0 + 0 + 6 + 6 + 6 + 6 ≤ 6000 by omega) dL_holds_343 (fun E w h => h.elim) (fun r0 w0 h0 => ?_)
      obtain ⟨rfl, rfl⟩ := h0
      refine x_st (st' := [.int (r.va k)]) rfl ?_
      refine x_FS (w1 := ([] : va_W)) (wc := ([] : va_W)) (w2 := (wB g ap ad r d8 po pn sv mm)) [.int (r.va k)] [] (wB g ap ad r d8 po pn sv mm) C (k_L_size l g (r.va k)) rfl yS_L_size wML_L_74 rfl rfl rfl (nle rfl) (nle rfl) (nle rfl) (show n0 + 100 + 1 + 1 + 1 + 0 + 0 + 1 + 1 + 1 + 1 + 0 ≤ 1000 by omega) (show s0 + 600 + 6 + 6 + 6 + 0 + 0 + 6 + 6 + 6 + 6 + 0 ≤ 6000 by omega) dL_holds_346 ?_
      refine x_sipush C 150 (by decide) dL_holds_349 ?_
      refine x_icmp_gt C 373 (by decide) dL_holds_352 (fun hz => absurd hz (Int32.not_lt.mpr (sz_le (n := 150) (by decide) (by decide) (hW k hk).2.1))) (fun _ => ?_)
      refine x_aload_n C 4 rfl rfl dL_holds_355 ?_
      refine x_iload_n C 3 rfl rfl dL_holds_356 ?_
      refine x_EV0 [.int (nI k)] [] C (a_target l g ap ad r d8 po pn sv mm k hk H.1 Hp) rfl yV_X6_target wML_L_151 0 rfl rfl rfl rfl (nle rfl) (nle rfl) (nle rfl) (show n0 + 100 + 1 + 1 + 1 + 0 + 0 + 1 + 1 + 1 + 1 + 0 + 1 ≤ 1000 by omega) (show s0 + 600 + 6 + 6 + 6 + 0 + 0 + 6 + 6 + 6 + 6 + 0 + 6 ≤ 6000 by omega) dL_holds_357 (fun E w h => h.elim) (fun r0 w0 h0 => ?_)
      obtain ⟨rfl, rfl⟩ := h0
      refine x_st (st' := [.int (r.vt k)]) rfl ?_
      refine x_FS (w1 := ([] : va_W)) (wc := ([] : va_W)) (w2 := (wB g ap ad r d8 po pn sv mm)) [.int (r.vt k)] [] (wB g ap ad r d8 po pn sv mm) C (k_L_size l g (r.vt k)) rfl yS_L_size wML_L_74 rfl rfl rfl (nle rfl) (nle rfl) (nle rfl) (show n0 + 100 + 1 + 1 + 1 + 0 + 0 + 1 + 1 + 1 + 1 + 0 + 1 + 0 ≤ 1000 by omega) (show s0 + 600 + 6 + 6 + 6 + 0 + 0 + 6 + 6 + 6 + 6 + 0 + 6 + 0 ≤ 6000 by omega) dL_holds_360 ?_
      refine x_sipush C 150 (by decide) dL_holds_363 ?_
      refine x_icmp_gt C 373 (by decide) dL_holds_366 (fun hz => absurd hz (Int32.not_lt.mpr (sz_le (n := 150) (by decide) (by decide) (hW k hk).1))) (fun _ => ?_)
      refine x_iconst C 1 (by decide) dL_holds_369 ?_
      refine x_goto C 374 (by decide) dL_holds_370 ?_
      refine x_istore_n C [(1, .int 1), (4, .int (rawA r k)), (3, .int (dmd r k)), (2, .int (nI k)), (0, .ref (ap 0))] rfl rfl (by decide) dL_holds_374 ?_
      refine x_lv [(2, .int (nI k)), (1, .int 1), (0, .ref (ap 0))] [3, 0, 4] rfl ?_
      refine x_wid (k := n0 + 120) (n := s0 + 720) (by omega) (by omega) ?_
      exact K d8
    · refine x_iconst C 1 (by decide) dL_holds_315 ?_
      refine x_goto C 320 (by decide) dL_holds_316 ?_
      refine x_aload_n C 4 rfl rfl dL_holds_320 ?_
      refine x_iload_n C 3 rfl rfl dL_holds_321 ?_
      refine x_EV0 [.int (nI k)] [.int 1] C (a_servoPosition l g ap ad r d7 po pn sv mm k hk H.1 Hp) rfl yV_X6_servoPosition wML_L_148 0 rfl rfl rfl rfl (nle rfl) (nle rfl) (nle rfl) (show n0 + 100 + 1 + 1 + 1 + 0 + 0 + 1 + 1 ≤ 1000 by omega) (show s0 + 600 + 6 + 6 + 6 + 0 + 0 + 6 + 6 ≤ 6000 by omega) dL_holds_322 (fun E w h => h.elim) (fun r0 w0 h0 => ?_)
      obtain ⟨rfl, rfl⟩ := h0
      refine x_st (st' := [.int (r.va k), .int 1]) rfl ?_
      refine x_aload_n C 4 rfl rfl dL_holds_325 ?_
      refine x_iload_n C 3 rfl rfl dL_holds_326 ?_
      refine x_EV0 [.int (nI k)] [.int (r.va k), .int 1] C (a_aim l g ap ad r d7 po pn sv mm k hk H.1 Hp H.2.2.1) rfl yV_X6_aim wML_L_71 0 rfl rfl rfl rfl (nle rfl) (nle rfl) (nle rfl) (show n0 + 100 + 1 + 1 + 1 + 0 + 0 + 1 + 1 + 1 ≤ 1000 by omega) (show s0 + 600 + 6 + 6 + 6 + 0 + 0 + 6 + 6 + 6 ≤ 6000 by omega) dL_holds_327 (fun E w h => h.elim) (fun r0 w0 h0 => ?_)
      obtain ⟨rfl, d9, rfl⟩ := h0
      refine x_st (st' := [.int (aimA r k), .int (r.va k), .int 1]) rfl ?_
      refine x_icmp_ne C 337 (by decide) dL_holds_330 (fun hz => absurd ((rsn_iff r k).mp h3) hz) (fun _ => ?_)
      refine x_iconst C 1 (by decide) dL_holds_333 ?_
      refine x_goto C 338 (by decide) dL_holds_334 ?_
      refine x_icmp_ne C 373 (by decide) dL_holds_338 (fun hz => absurd (by decide) hz) (fun _ => ?_)
      refine x_aload_n C 4 rfl rfl dL_holds_341 ?_
      refine x_iload_n C 3 rfl rfl dL_holds_342 ?_
      refine x_EV0 [.int (nI k)] [] C (a_servoPosition l g ap ad r d9 po pn sv mm k hk H.1 Hp) rfl yV_X6_servoPosition wML_L_148 0 rfl rfl rfl rfl (nle rfl) (nle rfl) (nle rfl) (show n0 + 100 + 1 + 1 + 1 + 0 + 0 + 1 + 1 + 1 + 1 ≤ 1000 by omega) (show s0 + 600 + 6 + 6 + 6 + 0 + 0 + 6 + 6 + 6 + 6 ≤ 6000 by omega) dL_holds_343 (fun E w h => h.elim) (fun r0 w0 h0 => ?_)
      obtain ⟨rfl, rfl⟩ := h0
      refine x_st (st' := [.int (r.va k)]) rfl ?_
      refine x_FS (w1 := ([] : va_W)) (wc := ([] : va_W)) (w2 := (wB g ap ad r d9 po pn sv mm)) [.int (r.va k)] [] (wB g ap ad r d9 po pn sv mm) C (k_L_size l g (r.va k)) rfl yS_L_size wML_L_74 rfl rfl rfl (nle rfl) (nle rfl) (nle rfl) (show n0 + 100 + 1 + 1 + 1 + 0 + 0 + 1 + 1 + 1 + 1 + 0 ≤ 1000 by omega) (show s0 + 600 + 6 + 6 + 6 + 0 + 0 + 6 + 6 + 6 + 6 + 0 ≤ 6000 by omega) dL_holds_346 ?_
      refine x_sipush C 150 (by decide) dL_holds_349 ?_
      refine x_icmp_gt C 373 (by decide) dL_holds_352 (fun hz => absurd hz (Int32.not_lt.mpr (sz_le (n := 150) (by decide) (by decide) (hW k hk).2.1))) (fun _ => ?_)
      refine x_aload_n C 4 rfl rfl dL_holds_355 ?_
      refine x_iload_n C 3 rfl rfl dL_holds_356 ?_
      refine x_EV0 [.int (nI k)] [] C (a_target l g ap ad r d9 po pn sv mm k hk H.1 Hp) rfl yV_X6_target wML_L_151 0 rfl rfl rfl rfl (nle rfl) (nle rfl) (nle rfl) (show n0 + 100 + 1 + 1 + 1 + 0 + 0 + 1 + 1 + 1 + 1 + 0 + 1 ≤ 1000 by omega) (show s0 + 600 + 6 + 6 + 6 + 0 + 0 + 6 + 6 + 6 + 6 + 0 + 6 ≤ 6000 by omega) dL_holds_357 (fun E w h => h.elim) (fun r0 w0 h0 => ?_)
      obtain ⟨rfl, rfl⟩ := h0
      refine x_st (st' := [.int (r.vt k)]) rfl ?_
      refine x_FS (w1 := ([] : va_W)) (wc := ([] : va_W)) (w2 := (wB g ap ad r d9 po pn sv mm)) [.int (r.vt k)] [] (wB g ap ad r d9 po pn sv mm) C (k_L_size l g (r.vt k)) rfl yS_L_size wML_L_74 rfl rfl rfl (nle rfl) (nle rfl) (nle rfl) (show n0 + 100 + 1 + 1 + 1 + 0 + 0 + 1 + 1 + 1 + 1 + 0 + 1 + 0 ≤ 1000 by omega) (show s0 + 600 + 6 + 6 + 6 + 0 + 0 + 6 + 6 + 6 + 6 + 0 + 6 + 0 ≤ 6000 by omega) dL_holds_360 ?_
      refine x_sipush C 150 (by decide) dL_holds_363 ?_
      refine x_icmp_gt C 373 (by decide) dL_holds_366 (fun hz => absurd hz (Int32.not_lt.mpr (sz_le (n := 150) (by decide) (by decide) (hW k hk).1))) (fun _ => ?_)
      refine x_iconst C 1 (by decide) dL_holds_369 ?_
      refine x_goto C 374 (by decide) dL_holds_370 ?_
      refine x_istore_n C [(1, .int 1), (4, .int (rawA r k)), (3, .int (dmd r k)), (2, .int (nI k)), (0, .ref (ap 0))] rfl rfl (by decide) dL_holds_374 ?_
      refine x_lv [(2, .int (nI k)), (1, .int 1), (0, .ref (ap 0))] [3, 0, 4] rfl ?_
      refine x_wid (k := n0 + 120) (n := s0 + 720) (by omega) (by omega) ?_
      exact K d9
set_option maxRecDepth 100000 in
set_option maxHeartbeats 2000000 in
theorem k_L_holds (l : Launch) (g : xGt) (ap ad : Nat → Nat) (r : xR) (d : Nat → Int32) (po pn : Int32) (sv mm : xPl) (B : Int) (H : Gd B r) (hB : B ≤ 1000) (Hp : pk po pn sv) : xM l g.1 (xT g) yL_holds (ws_ yL_holds cL_holds 5 (some .boolean)) (xRm 9 200 1000 6000) 1000 6000 [.ref (ap 0)] (wB g ap ad r d po pn sv mm) (fun r9 w9 => r9 = some (.int 1) ∧ ∃ d1, w9 = wB g ap ad r d1 po pn sv mm) (fun _ _ => False) := by
  refine x_start (own := RL) (nm := "holds") rfl rfl (by decide +kernel) rfl (nle rfl) (fun p e σ m args below meth c A C hno hr => ?_)
  refine x_lve (lv' := [(0, .ref (ap 0))]) rfl ?_
  have hk := H.2.2.2.2.2
  refine x_aload_n C 0 rfl rfl dL_holds_0 ?_
  refine x_EV0 [] [] C (a_battery l g ap ad r d po pn sv mm  H.1 Hp) rfl yV_X6_battery wML_L_96 0 rfl rfl rfl rfl (nle rfl) (nle rfl) (nle rfl) (nle rfl) (nle rfl) dL_holds_1 (fun E w h => h.elim) (fun r0 w0 h0 => ?_)
  obtain ⟨rfl, rfl⟩ := h0
  refine x_st (st' := [.int r.jb]) rfl ?_
  refine x_aload_n C 0 rfl rfl dL_holds_4 ?_
  refine x_ES0 [.ref (ap 0)] [.int r.jb] C (k_L_wears l g ap ad r d po pn sv mm H.1 Hp) rfl yS_L_wears wML_L_105 rfl rfl (nle rfl) (nle rfl) (nle rfl) (nle rfl) (nle rfl) dL_holds_5 (fun E w h => h.elim) (fun r0 w0 h0 => ?_)
  obtain ⟨rfl, rfl⟩ := h0
  refine x_st (st' := [.int (wrN r 6), .int r.jb]) rfl ?_
  refine x_iadd C dL_holds_8 ?_
  refine x_aload_n C 0 rfl rfl dL_holds_9 ?_
  refine x_EV0 [] [.int (r.jb + (wrN r 6))] C (a_frames l g ap ad r d po pn sv mm  H.1 Hp) rfl yV_X6_frames wML_L_109 0 rfl rfl rfl rfl (nle rfl) (nle rfl) (nle rfl) (nle rfl) (nle rfl) dL_holds_10 (fun E w h => h.elim) (fun r0 w0 h0 => ?_)
  obtain ⟨rfl, rfl⟩ := h0
  refine x_st (st' := [.int r.js, .int (r.jb + (wrN r 6))]) rfl ?_
  refine x_iadd C dL_holds_13 ?_
  refine x_aload_n C 0 rfl rfl dL_holds_14 ?_
  refine x_EV0 [] [.int ((r.jb + (wrN r 6)) + r.js)] C (a_deadFrames l g ap ad r d po pn sv mm  H.1 Hp) rfl yV_X6_deadFrames wML_L_112 0 rfl rfl rfl rfl (nle rfl) (nle rfl) (nle rfl) (nle rfl) (nle rfl) dL_holds_15 (fun E w h => h.elim) (fun r0 w0 h0 => ?_)
  obtain ⟨rfl, rfl⟩ := h0
  refine x_st (st' := [.int r.jx, .int ((r.jb + (wrN r 6)) + r.js)]) rfl ?_
  refine x_isub C dL_holds_18 ?_
  refine x_sipush C 20000 (by decide) dL_holds_19 ?_
  refine x_aload_n C 0 rfl rfl dL_holds_22 ?_
  refine x_EV0 [] [.int 20000, .int (((r.jb + (wrN r 6)) + r.js) - r.jx)] C (a_charged l g ap ad r d po pn sv mm  H.1 Hp) rfl yV_X6_charged wML_L_115 0 rfl rfl rfl rfl (nle rfl) (nle rfl) (nle rfl) (nle rfl) (nle rfl) dL_holds_23 (fun E w h => h.elim) (fun r0 w0 h0 => ?_)
  obtain ⟨rfl, rfl⟩ := h0
  refine x_st (st' := [.int r.jc, .int 20000, .int (((r.jb + (wrN r 6)) + r.js) - r.jx)]) rfl ?_
  refine x_iadd C dL_holds_26 ?_
  refine x_icmp_ne C 84 (by decide) dL_holds_27 (fun hz => absurd (acc_eq H hB) hz) (fun _ => ?_)
  refine x_aload_n C 0 rfl rfl dL_holds_30 ?_
  refine x_EV0 [] [] C (a_battery l g ap ad r d po pn sv mm  H.1 Hp) rfl yV_X6_battery wML_L_96 0 rfl rfl rfl rfl (nle rfl) (nle rfl) (nle rfl) (nle rfl) (nle rfl) dL_holds_31 (fun E w h => h.elim) (fun r0 w0 h0 => ?_)
  obtain ⟨rfl, rfl⟩ := h0
  refine x_st (st' := [.int r.jb]) rfl ?_
  refine x_if_lt C 84 (by decide) dL_holds_34 (fun hz => absurd hz (ge_of hk.2.1 (by decide))) (fun _ => ?_)
  refine x_aload_n C 0 rfl rfl dL_holds_37 ?_
  refine x_EV0 [] [] C (a_battery l g ap ad r d po pn sv mm  H.1 Hp) rfl yV_X6_battery wML_L_96 0 rfl rfl rfl rfl (nle rfl) (nle rfl) (nle rfl) (nle rfl) (nle rfl) dL_holds_38 (fun E w h => h.elim) (fun r0 w0 h0 => ?_)
  obtain ⟨rfl, rfl⟩ := h0
  refine x_st (st' := [.int r.jb]) rfl ?_
  refine x_sipush C 20000 (by decide) dL_holds_41 ?_
  refine x_icmp_gt C 84 (by decide) dL_holds_44 (fun hz => absurd hz (fun q => by have q2 := ti_lt.mp q; have q3 := hk.2.1.2; have z : (20000 : Int32).toInt = 20000 := (by decide); omega)) (fun _ => ?_)
  refine x_aload_n C 0 rfl rfl dL_holds_47 ?_
  refine x_EV0 [] [] C (a_lostFrames l g ap ad r d po pn sv mm  H.1 Hp) rfl yV_X6_lostFrames wML_L_118 0 rfl rfl rfl rfl (nle rfl) (nle rfl) (nle rfl) (nle rfl) (nle rfl) dL_holds_48 (fun E w h => h.elim) (fun r0 w0 h0 => ?_)
  obtain ⟨rfl, rfl⟩ := h0
  refine x_st (st' := [.int r.jl]) rfl ?_
  refine x_aload_n C 0 rfl rfl dL_holds_51 ?_
  refine x_EV0 [] [.int r.jl] C (a_deadFrames l g ap ad r d po pn sv mm  H.1 Hp) rfl yV_X6_deadFrames wML_L_112 0 rfl rfl rfl rfl (nle rfl) (nle rfl) (nle rfl) (nle rfl) (nle rfl) dL_holds_52 (fun E w h => h.elim) (fun r0 w0 h0 => ?_)
  obtain ⟨rfl, rfl⟩ := h0
  refine x_st (st' := [.int r.jx, .int r.jl]) rfl ?_
  refine x_icmp_lt C 84 (by decide) dL_holds_55 (fun hz => absurd hz (fun q => by have q2 := ti_lt.mp q; have q3 := hk.2.2.2.2.1; omega)) (fun _ => ?_)
  refine x_aload_n C 0 rfl rfl dL_holds_58 ?_
  refine x_EV0 [] [] C (a_lostFrames l g ap ad r d po pn sv mm  H.1 Hp) rfl yV_X6_lostFrames wML_L_118 0 rfl rfl rfl rfl (nle rfl) (nle rfl) (nle rfl) (nle rfl) (nle rfl) dL_holds_59 (fun E w h => h.elim) (fun r0 w0 h0 => ?_)
  obtain ⟨rfl, rfl⟩ := h0
  refine x_st (st' := [.int r.jl]) rfl ?_
  refine x_aload_n C 0 rfl rfl dL_holds_62 ?_
  refine x_EV0 [] [.int r.jl] C (a_frames l g ap ad r d po pn sv mm  H.1 Hp) rfl yV_X6_frames wML_L_109 0 rfl rfl rfl rfl (nle rfl) (nle rfl) (nle rfl) (nle rfl) (nle rfl) dL_holds_63 (fun E w h => h.elim) (fun r0 w0 h0 => ?_)
  obtain ⟨rfl, rfl⟩ := h0
  refine x_st (st' := [.int r.js, .int r.jl]) rfl ?_
  refine x_icmp_gt C 84 (by decide) dL_holds_66 (fun hz => absurd hz (fun q => by have q2 := ti_lt.mp q; have q3 := hk.2.2.2.2.2.1; omega)) (fun _ => ?_)
  refine x_aload_n C 0 rfl rfl dL_holds_69 ?_
  refine x_EV0 [] [] C (a_lostInRow l g ap ad r d po pn sv mm  H.1 Hp) rfl yV_X6_lostInRow wML_L_121 0 rfl rfl rfl rfl (nle rfl) (nle rfl) (nle rfl) (nle rfl) (nle rfl) dL_holds_70 (fun E w h => h.elim) (fun r0 w0 h0 => ?_)
  obtain ⟨rfl, rfl⟩ := h0
  refine x_st (st' := [.int r.ji]) rfl ?_
  refine x_aload_n C 0 rfl rfl dL_holds_73 ?_
  refine x_EV0 [] [.int r.ji] C (a_lostFrames l g ap ad r d po pn sv mm  H.1 Hp) rfl yV_X6_lostFrames wML_L_118 0 rfl rfl rfl rfl (nle rfl) (nle rfl) (nle rfl) (nle rfl) (nle rfl) dL_holds_74 (fun E w h => h.elim) (fun r0 w0 h0 => ?_)
  obtain ⟨rfl, rfl⟩ := h0
  refine x_st (st' := [.int r.jl, .int r.ji]) rfl ?_
  refine x_icmp_gt C 84 (by decide) dL_holds_77 (fun hz => absurd hz (fun q => by have q2 := ti_lt.mp q; have q3 := hk.2.2.2.2.2.2.2.2.1; omega)) (fun _ => ?_)
  refine x_iconst C 1 (by decide) dL_holds_80 ?_
  refine x_goto C 85 (by decide) dL_holds_81 ?_
  refine x_istore_n C [(1, .int 1), (0, .ref (ap 0))] rfl rfl (by decide) dL_holds_85 ?_
  refine x_iconst C 0 (by decide) dL_holds_86 ?_
  refine x_istore_n C [(2, .int 0), (1, .int 1), (0, .ref (ap 0))] rfl rfl (by decide) dL_holds_87 ?_
  refine x_iload_n C 0 rfl rfl dL_holds_88 ?_
  refine x_iconst C 4 (by decide) dL_holds_89 ?_
  refine x_icmp_ge C 123 (by decide) dL_holds_90 (fun hz => absurd hz (by decide)) (fun _ => ?_)
  refine x_iload_n C 1 rfl rfl dL_holds_93 ?_
  refine x_if_eq C 115 (by decide) dL_holds_94 (fun hz => absurd hz (by decide)) (fun _ => ?_)
  refine x_aload_n C 2 rfl rfl dL_holds_97 ?_
  refine x_iload_n C 0 rfl rfl dL_holds_98 ?_
  refine x_st (st' := [.int (nI 0), .ref (ap 0)]) rfl ?_
  refine x_EV0 [.int (nI 0)] [] C (a_command l g ap ad r d po pn sv mm 0 (by decide) H.1 Hp) rfl yV_X6_command wML_L_124 0 rfl rfl rfl rfl (nle rfl) (nle rfl) (nle rfl) (nle rfl) (nle rfl) dL_holds_99 (fun E w h => h.elim) (fun r0 w0 h0 => ?_)
  obtain ⟨rfl, rfl⟩ := h0
  refine x_st (st' := [.int (cmd r 0)]) rfl ?_
  refine x_FS (w1 := ([] : va_W)) (wc := ([] : va_W)) (w2 := (wB g ap ad r d po pn sv mm)) [.int (cmd r 0)] [] (wB g ap ad r d po pn sv mm) C (k_L_size l g (cmd r 0)) rfl yS_L_size wML_L_74 rfl rfl rfl (nle rfl) (nle rfl) (nle rfl) (nle rfl) (nle rfl) dL_holds_102 ?_
  refine x_sipush C 150 (by decide) dL_holds_105 ?_
  refine x_icmp_gt C 115 (by decide) dL_holds_108 (fun hz => absurd hz (Int32.not_lt.mpr (sz_le (n := 150) (by decide) (by decide) (cmd_b H.2.1 (k := 0) (by decide))))) (fun _ => ?_)
  refine x_iconst C 1 (by decide) dL_holds_111 ?_
  refine x_goto C 116 (by decide) dL_holds_112 ?_
  refine x_istore_n C [(1, .int 1), (2, .int 0), (0, .ref (ap 0))] rfl rfl (by decide) dL_holds_116 ?_
  refine x_iinc C 1 1 [(2, .int 1), (1, .int 1), (0, .ref (ap 0))] rfl (rfl) rfl (by decide) dL_holds_117 ?_
  refine x_goto C 88 (by decide) dL_holds_120 ?_
  refine x_iload_n C 0 rfl rfl dL_holds_88 ?_
  refine x_iconst C 4 (by decide) dL_holds_89 ?_
  refine x_icmp_ge C 123 (by decide) dL_holds_90 (fun hz => absurd hz (by decide)) (fun _ => ?_)
  refine x_iload_n C 1 rfl rfl dL_holds_93 ?_
  refine x_if_eq C 115 (by decide) dL_holds_94 (fun hz => absurd hz (by decide)) (fun _ => ?_)
  refine x_aload_n C 2 rfl rfl dL_holds_97 ?_
  refine x_iload_n C 0 rfl rfl dL_holds_98 ?_
  refine x_st (st' := [.int (nI 1), .ref (ap 0)]) rfl ?_
  refine x_EV0 [.int (nI 1)] [] C (a_command l g ap ad r d po pn sv mm 1 (by decide) H.1 Hp) rfl yV_X6_command wML_L_124 0 rfl rfl rfl rfl (nle rfl) (nle rfl) (nle rfl) (nle rfl) (nle rfl) dL_holds_99 (fun E w h => h.elim) (fun r0 w0 h0 => ?_)
  obtain ⟨rfl, rfl⟩ := h0
  refine x_st (st' := [.int (cmd r 1)]) rfl ?_
  refine x_FS (w1 := ([] : va_W)) (wc := ([] : va_W)) (w2 := (wB g ap ad r d po pn sv mm)) [.int (cmd r 1)] [] (wB g ap ad r d po pn sv mm) C (k_L_size l g (cmd r 1)) rfl yS_L_size wML_L_74 rfl rfl rfl (nle rfl) (nle rfl) (nle rfl) (nle rfl) (nle rfl) dL_holds_102 ?_
  refine x_sipush C 150 (by decide) dL_holds_105 ?_
  refine x_icmp_gt C 115 (by decide) dL_holds_108 (fun hz => absurd hz (Int32.not_lt.mpr (sz_le (n := 150) (by decide) (by decide) (cmd_b H.2.1 (k := 1) (by decide))))) (fun _ => ?_)
  refine x_iconst C 1 (by decide) dL_holds_111 ?_
  refine x_goto C 116 (by decide) dL_holds_112 ?_
  refine x_istore_n C [(1, .int 1), (2, .int 1), (0, .ref (ap 0))] rfl rfl (by decide) dL_holds_116 ?_
  refine x_iinc C 1 2 [(2, .int 2), (1, .int 1), (0, .ref (ap 0))] rfl (rfl) rfl (by decide) dL_holds_117 ?_
  refine x_goto C 88 (by decide) dL_holds_120 ?_
  refine x_iload_n C 0 rfl rfl dL_holds_88 ?_
  refine x_iconst C 4 (by decide) dL_holds_89 ?_
  refine x_icmp_ge C 123 (by decide) dL_holds_90 (fun hz => absurd hz (by decide)) (fun _ => ?_)
  refine x_iload_n C 1 rfl rfl dL_holds_93 ?_
  refine x_if_eq C 115 (by decide) dL_holds_94 (fun hz => absurd hz (by decide)) (fun _ => ?_)
  refine x_aload_n C 2 rfl rfl dL_holds_97 ?_
  refine x_iload_n C 0 rfl rfl dL_holds_98 ?_
  refine x_st (st' := [.int (nI 2), .ref (ap 0)]) rfl ?_
  refine x_EV0 [.int (nI 2)] [] C (a_command l g ap ad r d po pn sv mm 2 (by decide) H.1 Hp) rfl yV_X6_command wML_L_124 0 rfl rfl rfl rfl (nle rfl) (nle rfl) (nle rfl) (nle rfl) (nle rfl) dL_holds_99 (fun E w h => h.elim) (fun r0 w0 h0 => ?_)
  obtain ⟨rfl, rfl⟩ := h0
  refine x_st (st' := [.int (cmd r 2)]) rfl ?_
  refine x_FS (w1 := ([] : va_W)) (wc := ([] : va_W)) (w2 := (wB g ap ad r d po pn sv mm)) [.int (cmd r 2)] [] (wB g ap ad r d po pn sv mm) C (k_L_size l g (cmd r 2)) rfl yS_L_size wML_L_74 rfl rfl rfl (nle rfl) (nle rfl) (nle rfl) (nle rfl) (nle rfl) dL_holds_102 ?_
  refine x_sipush C 150 (by decide) dL_holds_105 ?_
  refine x_icmp_gt C 115 (by decide) dL_holds_108 (fun hz => absurd hz (Int32.not_lt.mpr (sz_le (n := 150) (by decide) (by decide) (cmd_b H.2.1 (k := 2) (by decide))))) (fun _ => ?_)
  refine x_iconst C 1 (by decide) dL_holds_111 ?_
  refine x_goto C 116 (by decide) dL_holds_112 ?_
  refine x_istore_n C [(1, .int 1), (2, .int 2), (0, .ref (ap 0))] rfl rfl (by decide) dL_holds_116 ?_
  refine x_iinc C 1 3 [(2, .int 3), (1, .int 1), (0, .ref (ap 0))] rfl (rfl) rfl (by decide) dL_holds_117 ?_
  refine x_goto C 88 (by decide) dL_holds_120 ?_
  refine x_iload_n C 0 rfl rfl dL_holds_88 ?_
  refine x_iconst C 4 (by decide) dL_holds_89 ?_
  refine x_icmp_ge C 123 (by decide) dL_holds_90 (fun hz => absurd hz (by decide)) (fun _ => ?_)
  refine x_iload_n C 1 rfl rfl dL_holds_93 ?_
  refine x_if_eq C 115 (by decide) dL_holds_94 (fun hz => absurd hz (by decide)) (fun _ => ?_)
  refine x_aload_n C 2 rfl rfl dL_holds_97 ?_
  refine x_iload_n C 0 rfl rfl dL_holds_98 ?_
  refine x_st (st' := [.int (nI 3), .ref (ap 0)]) rfl ?_
  refine x_EV0 [.int (nI 3)] [] C (a_command l g ap ad r d po pn sv mm 3 (by decide) H.1 Hp) rfl yV_X6_command wML_L_124 0 rfl rfl rfl rfl (nle rfl) (nle rfl) (nle rfl) (nle rfl) (nle rfl) dL_holds_99 (fun E w h => h.elim) (fun r0 w0 h0 => ?_)
  obtain ⟨rfl, rfl⟩ := h0
  refine x_st (st' := [.int (cmd r 3)]) rfl ?_
  refine x_FS (w1 := ([] : va_W)) (wc := ([] : va_W)) (w2 := (wB g ap ad r d po pn sv mm)) [.int (cmd r 3)] [] (wB g ap ad r d po pn sv mm) C (k_L_size l g (cmd r 3)) rfl yS_L_size wML_L_74 rfl rfl rfl (nle rfl) (nle rfl) (nle rfl) (nle rfl) (nle rfl) dL_holds_102 ?_
  refine x_sipush C 150 (by decide) dL_holds_105 ?_
  refine x_icmp_gt C 115 (by decide) dL_holds_108 (fun hz => absurd hz (Int32.not_lt.mpr (sz_le (n := 150) (by decide) (by decide) (cmd_b H.2.1 (k := 3) (by decide))))) (fun _ => ?_)
  refine x_iconst C 1 (by decide) dL_holds_111 ?_
  refine x_goto C 116 (by decide) dL_holds_112 ?_
  refine x_istore_n C [(1, .int 1), (2, .int 3), (0, .ref (ap 0))] rfl rfl (by decide) dL_holds_116 ?_
  refine x_iinc C 1 4 [(2, .int 4), (1, .int 1), (0, .ref (ap 0))] rfl (rfl) rfl (by decide) dL_holds_117 ?_
  refine x_goto C 88 (by decide) dL_holds_120 ?_
  refine x_iload_n C 0 rfl rfl dL_holds_88 ?_
  refine x_iconst C 4 (by decide) dL_holds_89 ?_
  refine x_icmp_ge C 123 (by decide) dL_holds_90 (fun _ => ?_) (fun hz => absurd (by decide) hz)
  refine x_iconst C 0 (by decide) dL_holds_123 ?_
  refine x_istore_n C [(2, .int 0), (1, .int 1), (0, .ref (ap 0))] rfl rfl (by decide) dL_holds_124 ?_
  refine x_lv [(2, .int 0), (1, .int 1), (0, .ref (ap 0))] [0, 1, 2] rfl ?_
  refine x_wid (k := 30) (n := 180) (nle rfl) (nle rfl) ?_
  refine x_iload_n C 0 rfl rfl dL_holds_125 ?_
  refine x_bipush C 6 (by decide) dL_holds_126 ?_
  refine x_icmp_ge C 381 (by decide) dL_holds_128 (fun hz => absurd hz (by decide)) (fun _ => ?_)
  refine x_lve (lv' := [(2, .int (nI 0)), (1, .int 1), (0, .ref (ap 0))]) rfl ?_
  refine ho_k (k := 0) (n0 := 30) (s0 := 180) C H hB Hp (by decide) (by decide) (by decide) (fun d0_ => ?_) d
  refine x_iinc C 0 1 [(2, .int 1), (1, .int 1), (0, .ref (ap 0))] rfl rfl rfl (by decide) dL_holds_375 ?_
  refine x_goto C 125 (by decide) dL_holds_378 ?_
  refine x_iload_n C 0 rfl rfl dL_holds_125 ?_
  refine x_bipush C 6 (by decide) dL_holds_126 ?_
  refine x_icmp_ge C 381 (by decide) dL_holds_128 (fun hz => absurd hz (by decide)) (fun _ => ?_)
  refine x_lve (lv' := [(2, .int (nI 1)), (1, .int 1), (0, .ref (ap 0))]) rfl ?_
  refine ho_k (k := 1) (n0 := 150) (s0 := 900) C H hB Hp (by decide) (by decide) (by decide) (fun d1_ => ?_) d0_
  refine x_iinc C 0 2 [(2, .int 2), (1, .int 1), (0, .ref (ap 0))] rfl rfl rfl (by decide) dL_holds_375 ?_
  refine x_goto C 125 (by decide) dL_holds_378 ?_
  refine x_iload_n C 0 rfl rfl dL_holds_125 ?_
  refine x_bipush C 6 (by decide) dL_holds_126 ?_
  refine x_icmp_ge C 381 (by decide) dL_holds_128 (fun hz => absurd hz (by decide)) (fun _ => ?_)
  refine x_lve (lv' := [(2, .int (nI 2)), (1, .int 1), (0, .ref (ap 0))]) rfl ?_
  refine ho_k (k := 2) (n0 := 270) (s0 := 1620) C H hB Hp (by decide) (by decide) (by decide) (fun d2_ => ?_) d1_
  refine x_iinc C 0 3 [(2, .int 3), (1, .int 1), (0, .ref (ap 0))] rfl rfl rfl (by decide) dL_holds_375 ?_
  refine x_goto C 125 (by decide) dL_holds_378 ?_
  refine x_iload_n C 0 rfl rfl dL_holds_125 ?_
  refine x_bipush C 6 (by decide) dL_holds_126 ?_
  refine x_icmp_ge C 381 (by decide) dL_holds_128 (fun hz => absurd hz (by decide)) (fun _ => ?_)
  refine x_lve (lv' := [(2, .int (nI 3)), (1, .int 1), (0, .ref (ap 0))]) rfl ?_
  refine ho_k (k := 3) (n0 := 390) (s0 := 2340) C H hB Hp (by decide) (by decide) (by decide) (fun d3_ => ?_) d2_
  refine x_iinc C 0 4 [(2, .int 4), (1, .int 1), (0, .ref (ap 0))] rfl rfl rfl (by decide) dL_holds_375 ?_
  refine x_goto C 125 (by decide) dL_holds_378 ?_
  refine x_iload_n C 0 rfl rfl dL_holds_125 ?_
  refine x_bipush C 6 (by decide) dL_holds_126 ?_
  refine x_icmp_ge C 381 (by decide) dL_holds_128 (fun hz => absurd hz (by decide)) (fun _ => ?_)
  refine x_lve (lv' := [(2, .int (nI 4)), (1, .int 1), (0, .ref (ap 0))]) rfl ?_
  refine ho_k (k := 4) (n0 := 510) (s0 := 3060) C H hB Hp (by decide) (by decide) (by decide) (fun d4_ => ?_) d3_
  refine x_iinc C 0 5 [(2, .int 5), (1, .int 1), (0, .ref (ap 0))] rfl rfl rfl (by decide) dL_holds_375 ?_
  refine x_goto C 125 (by decide) dL_holds_378 ?_
  refine x_iload_n C 0 rfl rfl dL_holds_125 ?_
  refine x_bipush C 6 (by decide) dL_holds_126 ?_
  refine x_icmp_ge C 381 (by decide) dL_holds_128 (fun hz => absurd hz (by decide)) (fun _ => ?_)
  refine x_lve (lv' := [(2, .int (nI 5)), (1, .int 1), (0, .ref (ap 0))]) rfl ?_
  refine ho_k (k := 5) (n0 := 630) (s0 := 3780) C H hB Hp (by decide) (by decide) (by decide) (fun d5_ => ?_) d4_
  refine x_iinc C 0 6 [(2, .int 6), (1, .int 1), (0, .ref (ap 0))] rfl rfl rfl (by decide) dL_holds_375 ?_
  refine x_goto C 125 (by decide) dL_holds_378 ?_
  refine x_iload_n C 0 rfl rfl dL_holds_125 ?_
  refine x_bipush C 6 (by decide) dL_holds_126 ?_
  refine x_icmp_ge C 381 (by decide) dL_holds_128 (fun _ => ?_) (fun hz => absurd (by decide) hz)
  refine x_wid (k := 800) (n := 5000) (nle rfl) (nle rfl) ?_
  refine x_aload_n C 2 rfl rfl dL_holds_381 ?_
  refine x_EV0 [] [] C (a_linkQuality l g ap ad r d5_ po pn sv mm  H.1 Hp) rfl yV_X6_linkQuality wML_L_154 0 rfl rfl rfl rfl (nle rfl) (nle rfl) (nle rfl) (nle rfl) (nle rfl) dL_holds_382 (fun E w h => h.elim) (fun r0 w0 h0 => ?_)
  obtain ⟨rfl, rfl⟩ := h0
  refine x_st (st' := [.double (lqV r.js r.jl)]) rfl ?_
  refine x_dstore_n C [(2, .double (lqV r.js r.jl)), (1, .int 1), (0, .ref (ap 0))] rfl rfl (by decide) dL_holds_385 ?_
  refine x_iload_n C 1 rfl rfl dL_holds_386 ?_
  refine x_if_eq C 451 (by decide) dL_holds_387 (fun hz => absurd hz (by decide)) (fun _ => ?_)
  refine x_aload_n C 2 rfl rfl dL_holds_390 ?_
  refine x_EV0 [] [] C (a_mostWorn l g ap ad r d5_ po pn sv mm  H.1 Hp) rfl yV_X6_mostWorn wML_L_158 0 rfl rfl rfl rfl (nle rfl) (nle rfl) (nle rfl) (nle rfl) (nle rfl) dL_holds_391 (fun E w h => h.elim) (fun r0 w0 h0 => ?_)
  obtain ⟨rfl, rfl⟩ := h0
  refine x_st (st' := [.int ((sp_mow r (-1) 0 6).1)]) rfl ?_
  refine x_iconst C (-1) (by decide) dL_holds_394 ?_
  refine x_icmp_ne C 402 (by decide) dL_holds_395 (fun h1 => ?_) (fun h1 => ?_)
  · refine x_iconst C 0 (by decide) dL_holds_402 ?_
    refine x_aload_n C 2 rfl rfl dL_holds_403 ?_
    refine x_ES0 [.ref (ap 0)] [.int 0] C (k_L_wears l g ap ad r d5_ po pn sv mm H.1 Hp) rfl yS_L_wears wML_L_105 rfl rfl (nle rfl) (nle rfl) (nle rfl) (nle rfl) (nle rfl) dL_holds_404 (fun E w h => h.elim) (fun r0 w0 h0 => ?_)
    obtain ⟨rfl, rfl⟩ := h0
    refine x_st (st' := [.int (wrN r 6), .int 0]) rfl ?_
    refine x_if_ne C 414 (by decide) dL_holds_407 (fun _ => ?_) (fun hz => absurd hz (fun q => h1 ((mow_iff H hB).mpr q)))
    refine x_iconst C 0 (by decide) dL_holds_414 ?_
    refine x_icmp_ne C 451 (by decide) dL_holds_415 (fun hz => absurd (by decide) hz) (fun _ => ?_)
    refine x_dload_n C 0 rfl rfl dL_holds_418 ?_
    refine x_dconst0 C dL_holds_419 ?_
    refine x_dcmp C dL_holds_420 ?_
    refine x_if_lt C 451 (by decide) dL_holds_421 (fun hz => absurd hz (fq_ge (lqV_1 (by have := hk.2.2.2.1; have := hk.2.2.2.2.1; omega) hk.2.2.2.2.2.1))) (fun _ => ?_)
    refine x_dload_n C 0 rfl rfl dL_holds_424 ?_
    refine x_dconst1 C dL_holds_425 ?_
    refine x_dcmp C dL_holds_426 ?_
    refine x_if_gt C 451 (by decide) dL_holds_427 (fun hz => absurd hz (fq_le (lqV_1 (by have := hk.2.2.2.1; have := hk.2.2.2.2.1; omega) hk.2.2.2.2.2.1))) (fun _ => ?_)
    refine x_aload_n C 2 rfl rfl dL_holds_430 ?_
    refine x_EV0 [] [] C (a_isCut l g ap ad r d5_ po pn sv mm  H.1 Hp) rfl yV_X6_isCut wML_L_32 0 rfl rfl rfl rfl (nle rfl) (nle rfl) (nle rfl) (nle rfl) (nle rfl) dL_holds_431 (fun E w h => h.elim) (fun r0 w0 h0 => ?_)
    obtain ⟨rfl, rfl⟩ := h0
    refine x_st (st' := [.int r.kc]) rfl ?_
    refine x_if_eq C 447 (by decide) dL_holds_434 (fun h2 => ?_) (fun h2 => ?_)
    · refine x_iconst C 1 (by decide) dL_holds_447 ?_
      refine x_goto C 452 (by decide) dL_holds_448 ?_
      exact x_zret C hr rfl (nle rfl) (nle rfl) dL_holds_452 ⟨rfl, d5_, rfl⟩
    · refine x_aload_n C 2 rfl rfl dL_holds_437 ?_
      refine x_iconst C 2 (by decide) dL_holds_438 ?_
      refine x_st (st' := [.int (nI 2), .ref (ap 0)]) rfl ?_
      refine x_EV0 [.int (nI 2)] [] C (a_command l g ap ad r d5_ po pn sv mm 2 (by decide) H.1 Hp) rfl yV_X6_command wML_L_124 0 rfl rfl rfl rfl (nle rfl) (nle rfl) (nle rfl) (nle rfl) (nle rfl) dL_holds_439 (fun E w h => h.elim) (fun r0 w0 h0 => ?_)
      obtain ⟨rfl, rfl⟩ := h0
      refine x_st (st' := [.int (cmd r 2)]) rfl ?_
      refine x_bipush C (-100) (by decide) dL_holds_442 ?_
      refine x_icmp_ne C 451 (by decide) dL_holds_444 (fun hz => absurd (cmd_cut h2) hz) (fun _ => ?_)
      refine x_iconst C 1 (by decide) dL_holds_447 ?_
      refine x_goto C 452 (by decide) dL_holds_448 ?_
      exact x_zret C hr rfl (nle rfl) (nle rfl) dL_holds_452 ⟨rfl, d5_, rfl⟩
  · refine x_iconst C 1 (by decide) dL_holds_398 ?_
    refine x_goto C 403 (by decide) dL_holds_399 ?_
    refine x_aload_n C 2 rfl rfl dL_holds_403 ?_
    refine x_ES0 [.ref (ap 0)] [.int 1] C (k_L_wears l g ap ad r d5_ po pn sv mm H.1 Hp) rfl yS_L_wears wML_L_105 rfl rfl (nle rfl) (nle rfl) (nle rfl) (nle rfl) (nle rfl) dL_holds_404 (fun E w h => h.elim) (fun r0 w0 h0 => ?_)
    obtain ⟨rfl, rfl⟩ := h0
    refine x_st (st' := [.int (wrN r 6), .int 1]) rfl ?_
    refine x_if_ne C 414 (by decide) dL_holds_407 (fun hz => absurd ((mow_iff H hB).mp h1) hz) (fun _ => ?_)
    refine x_iconst C 1 (by decide) dL_holds_410 ?_
    refine x_goto C 415 (by decide) dL_holds_411 ?_
    refine x_icmp_ne C 451 (by decide) dL_holds_415 (fun hz => absurd (by decide) hz) (fun _ => ?_)
    refine x_dload_n C 0 rfl rfl dL_holds_418 ?_
    refine x_dconst0 C dL_holds_419 ?_
    refine x_dcmp C dL_holds_420 ?_
    refine x_if_lt C 451 (by decide) dL_holds_421 (fun hz => absurd hz (fq_ge (lqV_1 (by have := hk.2.2.2.1; have := hk.2.2.2.2.1; omega) hk.2.2.2.2.2.1))) (fun _ => ?_)
    refine x_dload_n C 0 rfl rfl dL_holds_424 ?_
    refine x_dconst1 C dL_holds_425 ?_
    refine x_dcmp C dL_holds_426 ?_
    refine x_if_gt C 451 (by decide) dL_holds_427 (fun hz => absurd hz (fq_le (lqV_1 (by have := hk.2.2.2.1; have := hk.2.2.2.2.1; omega) hk.2.2.2.2.2.1))) (fun _ => ?_)
    refine x_aload_n C 2 rfl rfl dL_holds_430 ?_
    refine x_EV0 [] [] C (a_isCut l g ap ad r d5_ po pn sv mm  H.1 Hp) rfl yV_X6_isCut wML_L_32 0 rfl rfl rfl rfl (nle rfl) (nle rfl) (nle rfl) (nle rfl) (nle rfl) dL_holds_431 (fun E w h => h.elim) (fun r0 w0 h0 => ?_)
    obtain ⟨rfl, rfl⟩ := h0
    refine x_st (st' := [.int r.kc]) rfl ?_
    refine x_if_eq C 447 (by decide) dL_holds_434 (fun h3 => ?_) (fun h3 => ?_)
    · refine x_iconst C 1 (by decide) dL_holds_447 ?_
      refine x_goto C 452 (by decide) dL_holds_448 ?_
      exact x_zret C hr rfl (nle rfl) (nle rfl) dL_holds_452 ⟨rfl, d5_, rfl⟩
    · refine x_aload_n C 2 rfl rfl dL_holds_437 ?_
      refine x_iconst C 2 (by decide) dL_holds_438 ?_
      refine x_st (st' := [.int (nI 2), .ref (ap 0)]) rfl ?_
      refine x_EV0 [.int (nI 2)] [] C (a_command l g ap ad r d5_ po pn sv mm 2 (by decide) H.1 Hp) rfl yV_X6_command wML_L_124 0 rfl rfl rfl rfl (nle rfl) (nle rfl) (nle rfl) (nle rfl) (nle rfl) dL_holds_439 (fun E w h => h.elim) (fun r0 w0 h0 => ?_)
      obtain ⟨rfl, rfl⟩ := h0
      refine x_st (st' := [.int (cmd r 2)]) rfl ?_
      refine x_bipush C (-100) (by decide) dL_holds_442 ?_
      refine x_icmp_ne C 451 (by decide) dL_holds_444 (fun hz => absurd (cmd_cut h3) hz) (fun _ => ?_)
      refine x_iconst C 1 (by decide) dL_holds_447 ?_
      refine x_goto C 452 (by decide) dL_holds_448 ?_
      exact x_zret C hr rfl (nle rfl) (nle rfl) dL_holds_452 ⟨rfl, d5_, rfl⟩
