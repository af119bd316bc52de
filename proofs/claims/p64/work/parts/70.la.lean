/-! the law -/
theorem ex_arr {s : State} {args : Array Value} {ty : FieldType} (h : (Cond.arrayClass ty).before args s = true) (hob : ∀ (c : ClassId), s.vm.findClass ("[" ++ ty.toString) = some c → va_RA s c ty) : ∃ cA, ArrOfT s cA ty ∧ va_RA s cA ty := by
  obtain ⟨c, k, comp, h1, h2, h3⟩ := Cond.arrayClass_spec h
  exact ⟨c, fun n z => ⟨(fun _ h => by cases h), k, h2, comp, h3⟩, hob c h1⟩
theorem ex_arq {s : State} {args : Array Value} {Cn : String} (h : (Cond.arrayOver (.object Cn)).before args s = true) : ∃ cA, ArrOfT s cA (.object Cn) ∧ va_RA s cA (.object Cn) := by
  obtain ⟨comp, c, k, h1, h2, h3, h4, h5⟩ := Cond.arrayOver_spec h
  exact ⟨c, fun n z => ⟨(fun _ h => by cases h), k, h3, comp, h4⟩, k, comp, h3, h4, h1, h5⟩
theorem x_of_tbl {s : State} {args : Array Value} (hts : ∀ w ∈ lw_tbl, w.before args s = true) : ∀ w ∈ xAll, w.before args s = true := fun w h => hts w (List.mem_filter.mp h).1
set_option maxRecDepth 100000 in
theorem env_K {s : State} {args : Array Value} (hx : ∀ w ∈ xAll, w.before args s = true) (hao : (Cond.arrayOver (.object RX4)).before args s = true) : ∃ g : xGt, va_K g.1 vwCl (xT g) s := by
  obtain ⟨c0, i0, hK0⟩ := u_known (C := RX0) (T := TX0) (N := 6) (n := 6) hx wLy_X0 (hx _ wIs_X0)
  obtain ⟨c1, i1, hK1⟩ := u_known (C := RX1) (T := TX1) (N := 9) (n := 9) hx wLy_X1 (hx _ wIs_X1)
  obtain ⟨c2, i2, hK2⟩ := u_known (C := RX2) (T := TX2) (N := 6) (n := 6) hx wLy_X2 (hx _ wIs_X2)
  obtain ⟨c3, i3, hK3⟩ := u_known (C := RX3) (T := TX3) (N := 10) (n := 10) hx wLy_X3 (hx _ wIs_X3)
  obtain ⟨c4, i4, hK4⟩ := u_known (C := RX4) (T := TX4) (N := 5) (n := 5) hx wLy_X4 (hx _ wIs_X4)
  obtain ⟨c5, i5, hK5⟩ := u_known (C := RX5) (T := TX5) (N := 6) (n := 6) hx wLy_X5 (hx _ wIs_X5)
  obtain ⟨c6, i6, hK6⟩ := u_known (C := RX6) (T := TX6) (N := 8) (n := 8) hx wLy_X6 (hx _ wIs_X6)
  obtain ⟨a0, ha0⟩ := ex_arr (ty := .int) (hx _ wAC_int) (fun c h => h)
  obtain ⟨a2, ha2⟩ := ex_arq hao
  refine ⟨((fun k => match k with | 0 => c0 | 1 => c1 | 2 => c2 | 3 => c3 | 4 => c4 | 5 => c5 | _ => c6, fun k => match k with | 0 => i0 | 1 => i1 | 2 => i2 | 3 => i3 | 4 => i4 | 5 => i5 | _ => i6), a0, a0, a2, a0), fun k q hq => ?_, fun k q hq => ?_⟩
  · match k, hq with
    | 0, hq => cases hq; exact hK0
    | 1, hq => cases hq; exact hK1
    | 2, hq => cases hq; exact hK2
    | 3, hq => cases hq; exact hK3
    | 4, hq => cases hq; exact hK4
    | 5, hq => cases hq; exact hK5
    | 6, hq => cases hq; exact hK6
    | k + 7, hq => simp [vwCl] at hq
  · match k, hq with
    | 0, hq => cases hq; exact ha0
    | 1, hq => cases hq; exact ha0
    | 2, hq => cases hq; exact ha2
    | 3, hq => cases hq; exact ha0
    | k + 4, hq => simp [xT] at hq
theorem env_S {s : State} {args : Array Value} {k : Nat} {tx : String} (h1 : (Cond.stringRef RX6 k tx).before args s = true) (h2 : (Cond.exactly (.string RX6 k) "java/lang/String").before args s = true) : ∃ sa, vk_R RX6 k tx sa s := by
  obtain ⟨a, c, cell, q, e, -⟩ := Cond.exactly_spec h2
  exact ⟨a, vk_R.of h1 e⟩
set_option maxRecDepth 100000 in
theorem law_env {s : State} {args : Array Value} (hts : ∀ w ∈ lw_tbl, w.before args s = true) (hgv : (Jvm.Cond.and given_1 narrow_1).before args s = true) : ∃ g : xGt, xEnv g.1 (xT g) (fun q => s.heap.size ≤ q) s s.heap := by
  have hx := x_of_tbl hts
  have hs := flat_of_before _ hgv
  have hao : (Cond.arrayOver (.object RX4)).before args s = true := hts _ (by decide +kernel)
  have hA : ∀ a : Nat, a < s.heap.size → ¬ s.heap.size ≤ a := fun a h q => absurd h (by omega)
  obtain ⟨g, hK⟩ := env_K hx hao
  refine ⟨g, hK, fun q hq => ?_, fun q hq => ?_, fun q hq => ?_, ⟨fun q hq => ?_, fun q hq => ?_⟩, va_AO.of hao, vx_Zqof (hts _ (by decide +kernel)) (hts _ (by decide +kernel)) (hs _ (by decide +kernel)) hA, vx_Zqof (hts _ (by decide +kernel)) (hts _ (by decide +kernel)) (hs _ (by decide +kernel)) hA⟩
  · simp only [xNs, List.mem_cons, List.not_mem_nil, or_false] at hq
    rcases hq with rfl | rfl | rfl | rfl | rfl | rfl | rfl | rfl | rfl | rfl <;> exact va_Nw.of rfl (hts _ (by decide +kernel))
  · simp only [xSs, List.mem_cons, List.not_mem_nil, or_false] at hq
    rcases hq with rfl | rfl | rfl | rfl | rfl | rfl | rfl | rfl | rfl <;> exact env_S (hts _ (by decide +kernel)) (hs _ (by decide +kernel))
  · simp [xNo] at hq
  · simp only [xCa, List.mem_cons, List.not_mem_nil, or_false] at hq
    rcases hq with rfl | rfl | rfl <;> exact va_Nw.of rfl (hts _ (by decide +kernel))
  · simp only [xDe, List.mem_cons, List.not_mem_nil, or_false] at hq
    rcases hq with rfl | rfl | rfl <;> exact va_Nw.of rfl (hts _ (by decide +kernel))
set_option maxRecDepth 100000 in
set_option maxHeartbeats 4000000 in
theorem law_e {p : Program} {l : Launch} {e : Env} {s : State} {m : MethodId} {args : Array Value} {below : List Frame} {meth : Method} {c : Code} {Q : State → Prop} {nm : String} {g : xGt} {A : Nat → Prop} {b L : Nat} {xs : Nat → Int32} {ap ad : Nat → Nat} (C : xC p l s m args meth c cL_law 10 RL nm g.1 (xT g) A) (hX : va_X b L xs s s.heap) (hbl : b < s.heap.size) (hbA : ¬ A b) (hL : L ≤ 260) {t : Nat} (ht : t < 40) (x : Int32) (K : ∀ (r : xR) (d : Nat → Int32) (po pn : Int32) (sv mm : xPl), Gd (3 * ((t + 1 : Nat) : Int)) r → pk po pn sv → mk2 mm → mt mm 0 r00 → xW p l e room_1 s m args below meth c g.1 A 10 (2000 + 2700 * (t + 1)) (20000 + 18000 * (t + 1)) Q (wB g ap ad r d po pn sv mm) [(3, .int (nI (t + 1))), (2, .int 1), (1, .ref (ap 0)), (0, .ref b)] 32 []) (r : xR) (d : Nat → Int32) (po pn : Int32) (sv mm : xPl) (H : Gd (3 * (t : Int) + 3) r) (Hp : pk po pn sv) (Hm : mk2 mm) (Ht : mt mm 0 r00) : xW p l e room_1 s m args below meth c g.1 A 10 (2000 + 2700 * t + 500) (20000 + 18000 * t + 4000) Q (wB g ap ad r d po pn sv mm) [(4, .int x), (3, .int (nI t)), (2, .int 1), (1, .ref (ap 0)), (0, .ref b)] 238 [] := by
  refine x_iload_n C 2 rfl rfl dL_law_238 ?_
  refine x_if_eq C 299 (by decide) dL_law_239 (fun hz => absurd hz (by decide)) (fun _ => ?_)
  refine x_aload_n C 3 rfl rfl dL_law_242 ?_
  refine x_ES0 [.ref (ap 0)] [] C (k_L_holds l g ap ad r d po pn sv mm (3 * (t : Int) + 3) H (by omega) Hp) rfl yS_L_holds wML_L_199 rfl rfl (nle rfl) (nle rfl) (nle rfl) (show 2000 + 2700 * t + 500 + 1000 ≤ 605224 by omega) (show 20000 + 18000 * t + 4000 + 6000 ≤ 7286027 by omega) dL_law_243 (fun E w h => h.elim) (fun r0 w0 h0 => ?_)
  obtain ⟨rfl, d_1, rfl⟩ := h0
  refine x_st (st' := [.int 1]) rfl ?_
  refine x_if_eq C 299 (by decide) dL_law_246 (fun hz => absurd hz (by decide)) (fun _ => ?_)
  refine x_iload_n C 1 rfl rfl dL_law_249 ?_
  refine x_iconst C 3 (by decide) dL_law_250 ?_
  refine x_irem C (by decide) dL_law_251 ?_
  refine x_st (st' := [.int (nI (t % 3))]) (by rw [show nI t - nI t / (3 : Int32) * (3 : Int32) = nI (t % 3) from pk_rem (by omega) (by decide) (by decide)]) ?_
  refine x_iconst C 1 (by decide) dL_law_252 ?_
  refine x_icmp_ne C 276 (by decide) dL_law_253 (fun h1 => ?_) (fun h1 => ?_)
  · refine x_iload_n C 1 rfl rfl dL_law_276 ?_
    refine x_bipush C 7 (by decide) dL_law_277 ?_
    refine x_irem C (by decide) dL_law_279 ?_
    refine x_st (st' := [.int (nI (t % 7))]) (by rw [show nI t - nI t / (7 : Int32) * (7 : Int32) = nI (t % 7) from pk_rem (by omega) (by decide) (by decide)]) ?_
    refine x_iconst C 4 (by decide) dL_law_280 ?_
    refine x_icmp_ne C 295 (by decide) dL_law_281 (fun h2 => ?_) (fun h2 => ?_)
    · refine x_iconst C 1 (by decide) dL_law_295 ?_
      refine x_goto C 300 (by decide) dL_law_296 ?_
      refine x_istore_n C [(2, .int 1), (4, .int x), (3, .int (nI t)), (1, .ref (ap 0)), (0, .ref b)] rfl rfl (by decide) dL_law_300 ?_
      refine x_iload_n C 0 rfl rfl dL_law_301 ?_
      refine x_if_eq C 327 (by decide) dL_law_302 (fun hz => absurd hz (by decide)) (fun _ => ?_)
      refine x_iload_n C 2 rfl rfl dL_law_305 ?_
      refine x_bipush C 19 (by decide) dL_law_306 ?_
      refine x_irem C (by decide) dL_law_308 ?_
      refine x_st (st' := [.int (nI (t % 19))]) (by rw [show nI t - nI t / (19 : Int32) * (19 : Int32) = nI (t % 19) from pk_rem (by omega) (by decide) (by decide)]) ?_
      refine x_bipush C 17 (by decide) dL_law_309 ?_
      refine x_icmp_ne C 323 (by decide) dL_law_311 (fun h3 => ?_) (fun h3 => ?_)
      · refine x_iconst C 1 (by decide) dL_law_323 ?_
        refine x_goto C 328 (by decide) dL_law_324 ?_
        refine x_istore_n C [(2, .int 1), (4, .int x), (3, .int (nI t)), (1, .ref (ap 0)), (0, .ref b)] rfl rfl (by decide) dL_law_328 ?_
        refine x_iinc C 2 (nI (t + 1)) [(3, .int (nI (t + 1))), (2, .int 1), (4, .int x), (1, .ref (ap 0)), (0, .ref b)] rfl (nI_add _ _) rfl (by decide) dL_law_329 ?_
        refine x_goto C 32 (by decide) dL_law_332 ?_
        refine x_lv [(3, .int (nI (t + 1))), (2, .int 1), (1, .ref (ap 0)), (0, .ref b)] [0, 1, 3, 4] rfl ?_
        refine x_wid (k := 2000 + 2700 * (t + 1)) (n := 20000 + 18000 * (t + 1)) (by omega) (by omega) ?_
        exact K r d_1 po pn sv mm (H.up (by omega)) Hp Hm Ht
      · refine x_aload_n C 3 rfl rfl dL_law_314 ?_
        refine x_iconst C 0 (by decide) dL_law_315 ?_
        refine x_st (st' := [.int (nI 0), .ref (ap 0)]) rfl ?_
        refine x_EV0 [.int (nI 0)] [] C (a_recall l g ap ad r r00 d_1 po pn sv mm 0 (by decide) H.1 Hp Hm Ht) rfl yV_X6_recall wML_L_195 0 rfl rfl rfl rfl (nle rfl) (nle rfl) (nle rfl) (show 2000 + 2700 * t + 500 + 1000 + 26 ≤ 605224 by omega) (show 20000 + 18000 * t + 4000 + 6000 + 192 ≤ 7286027 by omega) dL_law_316 (fun E w h => h.elim) (fun r0 w0 h0 => ?_)
        obtain ⟨rfl, d2, po2, pn2, sv2, rfl, hs2⟩ := h0
        refine x_st (st' := [.int r00.xn]) rfl ?_
        refine x_iconst C 4 (by decide) dL_law_319 ?_
        refine x_icmp_ne C 327 (by decide) dL_law_320 (fun hz => absurd (show r00.xn = 4 from rfl) hz) (fun _ => ?_)
        refine x_iconst C 1 (by decide) dL_law_323 ?_
        refine x_goto C 328 (by decide) dL_law_324 ?_
        refine x_istore_n C [(2, .int 1), (4, .int x), (3, .int (nI t)), (1, .ref (ap 0)), (0, .ref b)] rfl rfl (by decide) dL_law_328 ?_
        refine x_iinc C 2 (nI (t + 1)) [(3, .int (nI (t + 1))), (2, .int 1), (4, .int x), (1, .ref (ap 0)), (0, .ref b)] rfl (nI_add _ _) rfl (by decide) dL_law_329 ?_
        refine x_goto C 32 (by decide) dL_law_332 ?_
        refine x_lv [(3, .int (nI (t + 1))), (2, .int 1), (1, .ref (ap 0)), (0, .ref b)] [0, 1, 3, 4] rfl ?_
        refine x_wid (k := 2000 + 2700 * (t + 1)) (n := 20000 + 18000 * (t + 1)) (by omega) (by omega) ?_
        exact K r00 d2 po2 pn2 sv2 mm (Gd.zero.up (by omega)) hs2.1 Hm Ht
    · refine x_aload_n C 3 rfl rfl dL_law_284 ?_
      refine x_iload C 0 rfl dL_law_285 ?_
      refine x_iconst C 5 (by decide) dL_law_287 ?_
      refine x_ishr C dL_law_288 ?_
      refine x_ES0 [.ref (ap 0), .int (x >>> (5 &&& 31))] [] C (k_L_areElevons l g ap ad r d_1 po pn sv mm (3 * (t : Int) + 3) H Hp Hm (x >>> (5 &&& 31))) rfl yS_L_areElevons wML_L_221 rfl rfl (nle rfl) (nle rfl) (nle rfl) (show 2000 + 2700 * t + 500 + 1000 + 600 ≤ 605224 by omega) (show 20000 + 18000 * t + 4000 + 6000 + 4500 ≤ 7286027 by omega) dL_law_289 (fun E w h => h.elim) (fun r0 w0 h0 => ?_)
      obtain ⟨rfl, d_3, po_3, pn_3, sv_3, mm_3, rfl, hp_3, hm_3, h0_3⟩ := h0
      have ht_3 : mt mm_3 0 r00 := by unfold mt; rw [h0_3]; exact Ht
      refine x_st (st' := [.int 1]) rfl ?_
      refine x_if_eq C 299 (by decide) dL_law_292 (fun hz => absurd hz (by decide)) (fun _ => ?_)
      refine x_iconst C 1 (by decide) dL_law_295 ?_
      refine x_goto C 300 (by decide) dL_law_296 ?_
      refine x_istore_n C [(2, .int 1), (4, .int x), (3, .int (nI t)), (1, .ref (ap 0)), (0, .ref b)] rfl rfl (by decide) dL_law_300 ?_
      refine x_iload_n C 0 rfl rfl dL_law_301 ?_
      refine x_if_eq C 327 (by decide) dL_law_302 (fun hz => absurd hz (by decide)) (fun _ => ?_)
      refine x_iload_n C 2 rfl rfl dL_law_305 ?_
      refine x_bipush C 19 (by decide) dL_law_306 ?_
      refine x_irem C (by decide) dL_law_308 ?_
      refine x_st (st' := [.int (nI (t % 19))]) (by rw [show nI t - nI t / (19 : Int32) * (19 : Int32) = nI (t % 19) from pk_rem (by omega) (by decide) (by decide)]) ?_
      refine x_bipush C 17 (by decide) dL_law_309 ?_
      refine x_icmp_ne C 323 (by decide) dL_law_311 (fun h4 => ?_) (fun h4 => ?_)
      · refine x_iconst C 1 (by decide) dL_law_323 ?_
        refine x_goto C 328 (by decide) dL_law_324 ?_
        refine x_istore_n C [(2, .int 1), (4, .int x), (3, .int (nI t)), (1, .ref (ap 0)), (0, .ref b)] rfl rfl (by decide) dL_law_328 ?_
        refine x_iinc C 2 (nI (t + 1)) [(3, .int (nI (t + 1))), (2, .int 1), (4, .int x), (1, .ref (ap 0)), (0, .ref b)] rfl (nI_add _ _) rfl (by decide) dL_law_329 ?_
        refine x_goto C 32 (by decide) dL_law_332 ?_
        refine x_lv [(3, .int (nI (t + 1))), (2, .int 1), (1, .ref (ap 0)), (0, .ref b)] [0, 1, 3, 4] rfl ?_
        refine x_wid (k := 2000 + 2700 * (t + 1)) (n := 20000 + 18000 * (t + 1)) (by omega) (by omega) ?_
        exact K r d_3 po_3 pn_3 sv_3 mm_3 (H.up (by omega)) hp_3 hm_3 ht_3
      · refine x_aload_n C 3 rfl rfl dL_law_314 ?_
        refine x_iconst C 0 (by decide) dL_law_315 ?_
        refine x_st (st' := [.int (nI 0), .ref (ap 0)]) rfl ?_
        refine x_EV0 [.int (nI 0)] [] C (a_recall l g ap ad r r00 d_3 po_3 pn_3 sv_3 mm_3 0 (by decide) H.1 hp_3 hm_3 ht_3) rfl yV_X6_recall wML_L_195 0 rfl rfl rfl rfl (nle rfl) (nle rfl) (nle rfl) (show 2000 + 2700 * t + 500 + 1000 + 600 + 26 ≤ 605224 by omega) (show 20000 + 18000 * t + 4000 + 6000 + 4500 + 192 ≤ 7286027 by omega) dL_law_316 (fun E w h => h.elim) (fun r0 w0 h0 => ?_)
        obtain ⟨rfl, d4, po4, pn4, sv4, rfl, hs4⟩ := h0
        refine x_st (st' := [.int r00.xn]) rfl ?_
        refine x_iconst C 4 (by decide) dL_law_319 ?_
        refine x_icmp_ne C 327 (by decide) dL_law_320 (fun hz => absurd (show r00.xn = 4 from rfl) hz) (fun _ => ?_)
        refine x_iconst C 1 (by decide) dL_law_323 ?_
        refine x_goto C 328 (by decide) dL_law_324 ?_
        refine x_istore_n C [(2, .int 1), (4, .int x), (3, .int (nI t)), (1, .ref (ap 0)), (0, .ref b)] rfl rfl (by decide) dL_law_328 ?_
        refine x_iinc C 2 (nI (t + 1)) [(3, .int (nI (t + 1))), (2, .int 1), (4, .int x), (1, .ref (ap 0)), (0, .ref b)] rfl (nI_add _ _) rfl (by decide) dL_law_329 ?_
        refine x_goto C 32 (by decide) dL_law_332 ?_
        refine x_lv [(3, .int (nI (t + 1))), (2, .int 1), (1, .ref (ap 0)), (0, .ref b)] [0, 1, 3, 4] rfl ?_
        refine x_wid (k := 2000 + 2700 * (t + 1)) (n := 20000 + 18000 * (t + 1)) (by omega) (by omega) ?_
        exact K r00 d4 po4 pn4 sv4 mm_3 (Gd.zero.up (by omega)) hs4.1 hm_3 ht_3
  · refine x_aload_n C 3 rfl rfl dL_law_256 ?_
    refine x_iload C 0 rfl dL_law_257 ?_
    refine x_iconst C 4 (by decide) dL_law_259 ?_
    refine x_ishr C dL_law_260 ?_
    refine x_iconst C 4 (by decide) dL_law_261 ?_
    refine x_st (st' := [.int (nI 4), .int (x >>> (4 &&& 31)), .ref (ap 0)]) rfl ?_
    refine x_FS (w1 := ([] : va_W)) (wc := ([] : va_W)) (w2 := (wB g ap ad r d_1 po pn sv mm)) [.int (x >>> (4 &&& 31)), .int (nI 4)] [.ref (ap 0)] (wB g ap ad r d_1 po pn sv mm) C (k_L_up l g (x >>> (4 &&& 31)) 4 (by decide) (by decide)) rfl yS_L_up wML_L_15 rfl rfl rfl (nle rfl) (nle rfl) (nle rfl) (show 2000 + 2700 * t + 500 + 1000 + 0 ≤ 605224 by omega) (show 20000 + 18000 * t + 4000 + 6000 + 0 ≤ 7286027 by omega) dL_law_262 ?_
    refine x_iload C 0 rfl dL_law_265 ?_
    refine x_bipush C 6 (by decide) dL_law_267 ?_
    refine x_ishr C dL_law_269 ?_
    refine x_ES0 [.ref (ap 0), .int (nI (upN (x >>> (4 &&& 31)) 4)), .int (x >>> (6 &&& 31))] [] C (k_L_isAhead l g ap ad r d_1 po pn sv mm (3 * (t : Int) + 3) H Hp (upN (x >>> (4 &&& 31)) 4) (x >>> (6 &&& 31)) (upN_lt _ (by decide))) rfl yS_L_isAhead wML_L_218 rfl rfl (nle rfl) (nle rfl) (nle rfl) (show 2000 + 2700 * t + 500 + 1000 + 0 + 300 ≤ 605224 by omega) (show 20000 + 18000 * t + 4000 + 6000 + 0 + 2200 ≤ 7286027 by omega) dL_law_270 (fun E w h => h.elim) (fun r0 w0 h0 => ?_)
    obtain ⟨rfl, d_5, po_5, pn_5, sv_5, rfl, hp_5⟩ := h0
    refine x_st (st' := [.int 1]) rfl ?_
    refine x_if_eq C 299 (by decide) dL_law_273 (fun hz => absurd hz (by decide)) (fun _ => ?_)
    refine x_iload_n C 1 rfl rfl dL_law_276 ?_
    refine x_bipush C 7 (by decide) dL_law_277 ?_
    refine x_irem C (by decide) dL_law_279 ?_
    refine x_st (st' := [.int (nI (t % 7))]) (by rw [show nI t - nI t / (7 : Int32) * (7 : Int32) = nI (t % 7) from pk_rem (by omega) (by decide) (by decide)]) ?_
    refine x_iconst C 4 (by decide) dL_law_280 ?_
    refine x_icmp_ne C 295 (by decide) dL_law_281 (fun h5 => ?_) (fun h5 => ?_)
    · refine x_iconst C 1 (by decide) dL_law_295 ?_
      refine x_goto C 300 (by decide) dL_law_296 ?_
      refine x_istore_n C [(2, .int 1), (4, .int x), (3, .int (nI t)), (1, .ref (ap 0)), (0, .ref b)] rfl rfl (by decide) dL_law_300 ?_
      refine x_iload_n C 0 rfl rfl dL_law_301 ?_
      refine x_if_eq C 327 (by decide) dL_law_302 (fun hz => absurd hz (by decide)) (fun _ => ?_)
      refine x_iload_n C 2 rfl rfl dL_law_305 ?_
      refine x_bipush C 19 (by decide) dL_law_306 ?_
      refine x_irem C (by decide) dL_law_308 ?_
      refine x_st (st' := [.int (nI (t % 19))]) (by rw [show nI t - nI t / (19 : Int32) * (19 : Int32) = nI (t % 19) from pk_rem (by omega) (by decide) (by decide)]) ?_
      refine x_bipush C 17 (by decide) dL_law_309 ?_
      refine x_icmp_ne C 323 (by decide) dL_law_311 (fun h6 => ?_) (fun h6 => ?_)
      · refine x_iconst C 1 (by decide) dL_law_323 ?_
        refine x_goto C 328 (by decide) dL_law_324 ?_
        refine x_istore_n C [(2, .int 1), (4, .int x), (3, .int (nI t)), (1, .ref (ap 0)), (0, .ref b)] rfl rfl (by decide) dL_law_328 ?_
        refine x_iinc C 2 (nI (t + 1)) [(3, .int (nI (t + 1))), (2, .int 1), (4, .int x), (1, .ref (ap 0)), (0, .ref b)] rfl (nI_add _ _) rfl (by decide) dL_law_329 ?_
        refine x_goto C 32 (by decide) dL_law_332 ?_
        refine x_lv [(3, .int (nI (t + 1))), (2, .int 1), (1, .ref (ap 0)), (0, .ref b)] [0, 1, 3, 4] rfl ?_
        refine x_wid (k := 2000 + 2700 * (t + 1)) (n := 20000 + 18000 * (t + 1)) (by omega) (by omega) ?_
        exact K r d_5 po_5 pn_5 sv_5 mm (H.up (by omega)) hp_5 Hm Ht
      · refine x_aload_n C 3 rfl rfl dL_law_314 ?_
        refine x_iconst C 0 (by decide) dL_law_315 ?_
        refine x_st (st' := [.int (nI 0), .ref (ap 0)]) rfl ?_
        refine x_EV0 [.int (nI 0)] [] C (a_recall l g ap ad r r00 d_5 po_5 pn_5 sv_5 mm 0 (by decide) H.1 hp_5 Hm Ht) rfl yV_X6_recall wML_L_195 0 rfl rfl rfl rfl (nle rfl) (nle rfl) (nle rfl) (show 2000 + 2700 * t + 500 + 1000 + 0 + 300 + 26 ≤ 605224 by omega) (show 20000 + 18000 * t + 4000 + 6000 + 0 + 2200 + 192 ≤ 7286027 by omega) dL_law_316 (fun E w h => h.elim) (fun r0 w0 h0 => ?_)
        obtain ⟨rfl, d6, po6, pn6, sv6, rfl, hs6⟩ := h0
        refine x_st (st' := [.int r00.xn]) rfl ?_
        refine x_iconst C 4 (by decide) dL_law_319 ?_
        refine x_icmp_ne C 327 (by decide) dL_law_320 (fun hz => absurd (show r00.xn = 4 from rfl) hz) (fun _ => ?_)
        refine x_iconst C 1 (by decide) dL_law_323 ?_
        refine x_goto C 328 (by decide) dL_law_324 ?_
        refine x_istore_n C [(2, .int 1), (4, .int x), (3, .int (nI t)), (1, .ref (ap 0)), (0, .ref b)] rfl rfl (by decide) dL_law_328 ?_
        refine x_iinc C 2 (nI (t + 1)) [(3, .int (nI (t + 1))), (2, .int 1), (4, .int x), (1, .ref (ap 0)), (0, .ref b)] rfl (nI_add _ _) rfl (by decide) dL_law_329 ?_
        refine x_goto C 32 (by decide) dL_law_332 ?_
        refine x_lv [(3, .int (nI (t + 1))), (2, .int 1), (1, .ref (ap 0)), (0, .ref b)] [0, 1, 3, 4] rfl ?_
        refine x_wid (k := 2000 + 2700 * (t + 1)) (n := 20000 + 18000 * (t + 1)) (by omega) (by omega) ?_
        exact K r00 d6 po6 pn6 sv6 mm (Gd.zero.up (by omega)) hs6.1 Hm Ht
    · refine x_aload_n C 3 rfl rfl dL_law_284 ?_
      refine x_iload C 0 rfl dL_law_285 ?_
      refine x_iconst C 5 (by decide) dL_law_287 ?_
      refine x_ishr C dL_law_288 ?_
      refine x_ES0 [.ref (ap 0), .int (x >>> (5 &&& 31))] [] C (k_L_areElevons l g ap ad r d_5 po_5 pn_5 sv_5 mm (3 * (t : Int) + 3) H hp_5 Hm (x >>> (5 &&& 31))) rfl yS_L_areElevons wML_L_221 rfl rfl (nle rfl) (nle rfl) (nle rfl) (show 2000 + 2700 * t + 500 + 1000 + 0 + 300 + 600 ≤ 605224 by omega) (show 20000 + 18000 * t + 4000 + 6000 + 0 + 2200 + 4500 ≤ 7286027 by omega) dL_law_289 (fun E w h => h.elim) (fun r0 w0 h0 => ?_)
      obtain ⟨rfl, d_7, po_7, pn_7, sv_7, mm_7, rfl, hp_7, hm_7, h0_7⟩ := h0
      have ht_7 : mt mm_7 0 r00 := by unfold mt; rw [h0_7]; exact Ht
      refine x_st (st' := [.int 1]) rfl ?_
      refine x_if_eq C 299 (by decide) dL_law_292 (fun hz => absurd hz (by decide)) (fun _ => ?_)
      refine x_iconst C 1 (by decide) dL_law_295 ?_
      refine x_goto C 300 (by decide) dL_law_296 ?_
      refine x_istore_n C [(2, .int 1), (4, .int x), (3, .int (nI t)), (1, .ref (ap 0)), (0, .ref b)] rfl rfl (by decide) dL_law_300 ?_
      refine x_iload_n C 0 rfl rfl dL_law_301 ?_
      refine x_if_eq C 327 (by decide) dL_law_302 (fun hz => absurd hz (by decide)) (fun _ => ?_)
      refine x_iload_n C 2 rfl rfl dL_law_305 ?_
      refine x_bipush C 19 (by decide) dL_law_306 ?_
      refine x_irem C (by decide) dL_law_308 ?_
      refine x_st (st' := [.int (nI (t % 19))]) (by rw [show nI t - nI t / (19 : Int32) * (19 : Int32) = nI (t % 19) from pk_rem (by omega) (by decide) (by decide)]) ?_
      refine x_bipush C 17 (by decide) dL_law_309 ?_
      refine x_icmp_ne C 323 (by decide) dL_law_311 (fun h7 => ?_) (fun h7 => ?_)
      · refine x_iconst C 1 (by decide) dL_law_323 ?_
        refine x_goto C 328 (by decide) dL_law_324 ?_
        refine x_istore_n C [(2, .int 1), (4, .int x), (3, .int (nI t)), (1, .ref (ap 0)), (0, .ref b)] rfl rfl (by decide) dL_law_328 ?_
        refine x_iinc C 2 (nI (t + 1)) [(3, .int (nI (t + 1))), (2, .int 1), (4, .int x), (1, .ref (ap 0)), (0, .ref b)] rfl (nI_add _ _) rfl (by decide) dL_law_329 ?_
        refine x_goto C 32 (by decide) dL_law_332 ?_
        refine x_lv [(3, .int (nI (t + 1))), (2, .int 1), (1, .ref (ap 0)), (0, .ref b)] [0, 1, 3, 4] rfl ?_
        refine x_wid (k := 2000 + 2700 * (t + 1)) (n := 20000 + 18000 * (t + 1)) (by omega) (by omega) ?_
        exact K r d_7 po_7 pn_7 sv_7 mm_7 (H.up (by omega)) hp_7 hm_7 ht_7
      · refine x_aload_n C 3 rfl rfl dL_law_314 ?_
        refine x_iconst C 0 (by decide) dL_law_315 ?_
        refine x_st (st' := [.int (nI 0), .ref (ap 0)]) rfl ?_
        refine x_EV0 [.int (nI 0)] [] C (a_recall l g ap ad r r00 d_7 po_7 pn_7 sv_7 mm_7 0 (by decide) H.1 hp_7 hm_7 ht_7) rfl yV_X6_recall wML_L_195 0 rfl rfl rfl rfl (nle rfl) (nle rfl) (nle rfl) (show 2000 + 2700 * t + 500 + 1000 + 0 + 300 + 600 + 26 ≤ 605224 by omega) (show 20000 + 18000 * t + 4000 + 6000 + 0 + 2200 + 4500 + 192 ≤ 7286027 by omega) dL_law_316 (fun E w h => h.elim) (fun r0 w0 h0 => ?_)
        obtain ⟨rfl, d8, po8, pn8, sv8, rfl, hs8⟩ := h0
        refine x_st (st' := [.int r00.xn]) rfl ?_
        refine x_iconst C 4 (by decide) dL_law_319 ?_
        refine x_icmp_ne C 327 (by decide) dL_law_320 (fun hz => absurd (show r00.xn = 4 from rfl) hz) (fun _ => ?_)
        refine x_iconst C 1 (by decide) dL_law_323 ?_
        refine x_goto C 328 (by decide) dL_law_324 ?_
        refine x_istore_n C [(2, .int 1), (4, .int x), (3, .int (nI t)), (1, .ref (ap 0)), (0, .ref b)] rfl rfl (by decide) dL_law_328 ?_
        refine x_iinc C 2 (nI (t + 1)) [(3, .int (nI (t + 1))), (2, .int 1), (4, .int x), (1, .ref (ap 0)), (0, .ref b)] rfl (nI_add _ _) rfl (by decide) dL_law_329 ?_
        refine x_goto C 32 (by decide) dL_law_332 ?_
        refine x_lv [(3, .int (nI (t + 1))), (2, .int 1), (1, .ref (ap 0)), (0, .ref b)] [0, 1, 3, 4] rfl ?_
        refine x_wid (k := 2000 + 2700 * (t + 1)) (n := 20000 + 18000 * (t + 1)) (by omega) (by omega) ?_
        exact K r00 d8 po8 pn8 sv8 mm_7 (Gd.zero.up (by omega)) hs8.1 hm_7 ht_7
set_option maxRecDepth 100000 in
set_option maxHeartbeats 4000000 in
theorem law_s {p : Program} {l : Launch} {e : Env} {s : State} {m : MethodId} {args : Array Value} {below : List Frame} {meth : Method} {c : Code} {Q : State → Prop} {nm : String} {g : xGt} {A : Nat → Prop} {b L : Nat} {xs : Nat → Int32} {ap ad : Nat → Nat} (C : xC p l s m args meth c cL_law 10 RL nm g.1 (xT g) A) (hX : va_X b L xs s s.heap) (hbl : b < s.heap.size) (hbA : ¬ A b) (hL : L ≤ 260) {t : Nat} (ht : t < 40) (x y : Int32) (r : xR) (d : Nat → Int32) (po pn : Int32) (sv mm : xPl) (H : Gd (3 * (t : Int)) r) (Hp : pk po pn sv) (Hm : mk2 mm) (Ht : mt mm 0 r00) (K : ∀ (r : xR) (d : Nat → Int32) (po pn : Int32) (sv mm : xPl), Gd (3 * (t : Int) + 3) r → pk po pn sv → mk2 mm → mt mm 0 r00 → xW p l e room_1 s m args below meth c g.1 A 10 (2000 + 2700 * t + 500) (20000 + 18000 * t + 4000) Q (wB g ap ad r d po pn sv mm) [(4, .int x), (3, .int (nI t)), (2, .int 1), (1, .ref (ap 0)), (0, .ref b)] 238 []) : xW p l e room_1 s m args below meth c g.1 A 10 (2000 + 2700 * t) (20000 + 18000 * t) Q (wB g ap ad r d po pn sv mm) [(9, .int 1), (8, .int pn), (6, .long (dig r)), (5, .int y), (4, .int x), (3, .int (nI t)), (2, .int 1), (1, .ref (ap 0)), (0, .ref b)] 91 [] := by
  refine x_iload C 0 rfl dL_law_91 ?_
  refine x_if_eq C 151 (by decide) dL_law_93 (fun hz => absurd hz (by decide)) (fun _ => ?_)
  refine x_aload_n C 7 rfl rfl dL_law_96 ?_
  refine x_iconst C 1 (by decide) dL_law_97 ?_
  refine x_iload C 3 rfl dL_law_98 ?_
  refine x_iload C 3 rfl dL_law_100 ?_
  refine x_bipush C 9 (by decide) dL_law_102 ?_
  refine x_ishr C dL_law_104 ?_
  refine x_iconst C 1 (by decide) dL_law_105 ?_
  refine x_iand C dL_law_106 ?_
  refine x_if_ne C 115 (by decide) dL_law_107 (fun h1 => ?_) (fun h1 => ?_)
  · refine x_bipush C 7 (by decide) dL_law_115 ?_
    refine x_st (st' := [.int (nI 7), .int y, .int 1, .ref (ap 0)]) rfl ?_
    refine x_FS (w1 := ([] : va_W)) (wc := ([] : va_W)) (w2 := (wB g ap ad r d po pn sv mm)) [.int y, .int (nI 7)] [.int 1, .ref (ap 0)] (wB g ap ad r d po pn sv mm) C (k_L_up l g y 7 (by decide) (by decide)) rfl yS_L_up wML_L_15 rfl rfl rfl (nle rfl) (nle rfl) (nle rfl) (show 2000 + 2700 * t + 0 ≤ 605224 by omega) (show 20000 + 18000 * t + 0 ≤ 7286027 by omega) dL_law_117 ?_
    refine x_iaddN C 1 (upN y 7) rfl rfl dL_law_120 ?_
    refine x_iload C 3 rfl dL_law_121 ?_
    refine x_iconst C 3 (by decide) dL_law_123 ?_
    refine x_ishr C dL_law_124 ?_
    refine x_bipush C 6 (by decide) dL_law_125 ?_
    refine x_st (st' := [.int (nI 6), .int (y >>> (3 &&& 31)), .int (nI (1 + (upN y 7))), .ref (ap 0)]) rfl ?_
    refine x_FS (w1 := ([] : va_W)) (wc := ([] : va_W)) (w2 := (wB g ap ad r d po pn sv mm)) [.int (y >>> (3 &&& 31)), .int (nI 6)] [.int (nI (1 + (upN y 7))), .ref (ap 0)] (wB g ap ad r d po pn sv mm) C (k_L_up l g (y >>> (3 &&& 31)) 6 (by decide) (by decide)) rfl yS_L_up wML_L_15 rfl rfl rfl (nle rfl) (nle rfl) (nle rfl) (show 2000 + 2700 * t + 0 + 0 ≤ 605224 by omega) (show 20000 + 18000 * t + 0 + 0 ≤ 7286027 by omega) dL_law_127 ?_
    refine x_iload C 4 rfl dL_law_130 ?_
    refine x_bipush C 10 (by decide) dL_law_132 ?_
    refine x_ishr C dL_law_134 ?_
    refine x_iconst C 1 (by decide) dL_law_135 ?_
    refine x_iand C dL_law_136 ?_
    refine x_if_ne C 144 (by decide) dL_law_137 (fun h2 => ?_) (fun h2 => ?_)
    · refine x_iconst C 0 (by decide) dL_law_144 ?_
      refine x_ES0 [.ref (ap 0), .int (nI (1 + (upN y 7))), .int (nI (upN (y >>> (3 &&& 31)) 6)), .int 0] [] C (k_L_areFrames l g ap ad r d po pn sv mm (3 * (t : Int)) H (by omega) Hp (1 + (upN y 7)) (upN (y >>> (3 &&& 31)) 6) 0 ⟨by omega, by have := upN_lt y (n := 7) (by decide); omega⟩ (upN_lt _ (by decide)) (Or.inl rfl)) rfl yS_L_areFrames wML_L_210 rfl rfl (nle rfl) (nle rfl) (nle rfl) (show 2000 + 2700 * t + 0 + 0 + 300 ≤ 605224 by omega) (show 20000 + 18000 * t + 0 + 0 + 2200 ≤ 7286027 by omega) dL_law_145 (fun E w h => h.elim) (fun r0 w0 h0 => ?_)
      obtain ⟨rfl, r_1, d_1, po_1, pn_1, sv_1, rfl, hg_1, hp_1⟩ := h0
      refine x_st (st' := [.int 1]) rfl ?_
      refine x_goto C 159 (by decide) dL_law_148 ?_
      refine x_istore_n C [(2, .int 1), (9, .int 1), (8, .int pn), (6, .long (dig r)), (5, .int y), (4, .int x), (3, .int (nI t)), (1, .ref (ap 0)), (0, .ref b)] rfl rfl (by decide) dL_law_159 ?_
      refine x_iload_n C 0 rfl rfl dL_law_160 ?_
      refine x_if_eq C 238 (by decide) dL_law_161 (fun hz => absurd hz (by decide)) (fun _ => ?_)
      refine x_iload C 1 rfl dL_law_164 ?_
      refine x_if_ne C 238 (by decide) dL_law_166 (fun _ => ?_) (fun hz => absurd hz (by decide))
      refine x_lv [(4, .int x), (3, .int (nI t)), (2, .int 1), (1, .ref (ap 0)), (0, .ref b)] [5, 6, 0, 7, 8] rfl ?_
      refine x_wid (k := 2000 + 2700 * t + 500) (n := 20000 + 18000 * t + 4000) (by omega) (by omega) ?_
      exact K r_1 d_1 po_1 pn_1 sv_1 mm (hg_1.up (by omega)) hp_1 Hm Ht
    · refine x_iconst C 1 (by decide) dL_law_140 ?_
      refine x_goto C 145 (by decide) dL_law_141 ?_
      refine x_ES0 [.ref (ap 0), .int (nI (1 + (upN y 7))), .int (nI (upN (y >>> (3 &&& 31)) 6)), .int 1] [] C (k_L_areFrames l g ap ad r d po pn sv mm (3 * (t : Int)) H (by omega) Hp (1 + (upN y 7)) (upN (y >>> (3 &&& 31)) 6) 1 ⟨by omega, by have := upN_lt y (n := 7) (by decide); omega⟩ (upN_lt _ (by decide)) (Or.inr rfl)) rfl yS_L_areFrames wML_L_210 rfl rfl (nle rfl) (nle rfl) (nle rfl) (show 2000 + 2700 * t + 0 + 0 + 300 ≤ 605224 by omega) (show 20000 + 18000 * t + 0 + 0 + 2200 ≤ 7286027 by omega) dL_law_145 (fun E w h => h.elim) (fun r0 w0 h0 => ?_)
      obtain ⟨rfl, r_2, d_2, po_2, pn_2, sv_2, rfl, hg_2, hp_2⟩ := h0
      refine x_st (st' := [.int 1]) rfl ?_
      refine x_goto C 159 (by decide) dL_law_148 ?_
      refine x_istore_n C [(2, .int 1), (9, .int 1), (8, .int pn), (6, .long (dig r)), (5, .int y), (4, .int x), (3, .int (nI t)), (1, .ref (ap 0)), (0, .ref b)] rfl rfl (by decide) dL_law_159 ?_
      refine x_iload_n C 0 rfl rfl dL_law_160 ?_
      refine x_if_eq C 238 (by decide) dL_law_161 (fun hz => absurd hz (by decide)) (fun _ => ?_)
      refine x_iload C 1 rfl dL_law_164 ?_
      refine x_if_ne C 238 (by decide) dL_law_166 (fun _ => ?_) (fun hz => absurd hz (by decide))
      refine x_lv [(4, .int x), (3, .int (nI t)), (2, .int 1), (1, .ref (ap 0)), (0, .ref b)] [5, 6, 0, 7, 8] rfl ?_
      refine x_wid (k := 2000 + 2700 * t + 500) (n := 20000 + 18000 * t + 4000) (by omega) (by omega) ?_
      exact K r_2 d_2 po_2 pn_2 sv_2 mm (hg_2.up (by omega)) hp_2 Hm Ht
  · refine x_bipush C 50 (by decide) dL_law_110 ?_
    refine x_goto C 117 (by decide) dL_law_112 ?_
    refine x_st (st' := [.int (nI 50), .int y, .int 1, .ref (ap 0)]) rfl ?_
    refine x_FS (w1 := ([] : va_W)) (wc := ([] : va_W)) (w2 := (wB g ap ad r d po pn sv mm)) [.int y, .int (nI 50)] [.int 1, .ref (ap 0)] (wB g ap ad r d po pn sv mm) C (k_L_up l g y 50 (by decide) (by decide)) rfl yS_L_up wML_L_15 rfl rfl rfl (nle rfl) (nle rfl) (nle rfl) (show 2000 + 2700 * t + 0 ≤ 605224 by omega) (show 20000 + 18000 * t + 0 ≤ 7286027 by omega) dL_law_117 ?_
    refine x_iaddN C 1 (upN y 50) rfl rfl dL_law_120 ?_
    refine x_iload C 3 rfl dL_law_121 ?_
    refine x_iconst C 3 (by decide) dL_law_123 ?_
    refine x_ishr C dL_law_124 ?_
    refine x_bipush C 6 (by decide) dL_law_125 ?_
    refine x_st (st' := [.int (nI 6), .int (y >>> (3 &&& 31)), .int (nI (1 + (upN y 50))), .ref (ap 0)]) rfl ?_
    refine x_FS (w1 := ([] : va_W)) (wc := ([] : va_W)) (w2 := (wB g ap ad r d po pn sv mm)) [.int (y >>> (3 &&& 31)), .int (nI 6)] [.int (nI (1 + (upN y 50))), .ref (ap 0)] (wB g ap ad r d po pn sv mm) C (k_L_up l g (y >>> (3 &&& 31)) 6 (by decide) (by decide)) rfl yS_L_up wML_L_15 rfl rfl rfl (nle rfl) (nle rfl) (nle rfl) (show 2000 + 2700 * t + 0 + 0 ≤ 605224 by omega) (show 20000 + 18000 * t + 0 + 0 ≤ 7286027 by omega) dL_law_127 ?_
    refine x_iload C 4 rfl dL_law_130 ?_
    refine x_bipush C 10 (by decide) dL_law_132 ?_
    refine x_ishr C dL_law_134 ?_
    refine x_iconst C 1 (by decide) dL_law_135 ?_
    refine x_iand C dL_law_136 ?_
    refine x_if_ne C 144 (by decide) dL_law_137 (fun h3 => ?_) (fun h3 => ?_)
    · refine x_iconst C 0 (by decide) dL_law_144 ?_
      refine x_ES0 [.ref (ap 0), .int (nI (1 + (upN y 50))), .int (nI (upN (y >>> (3 &&& 31)) 6)), .int 0] [] C (k_L_areFrames l g ap ad r d po pn sv mm (3 * (t : Int)) H (by omega) Hp (1 + (upN y 50)) (upN (y >>> (3 &&& 31)) 6) 0 ⟨by omega, by have := upN_lt y (n := 50) (by decide); omega⟩ (upN_lt _ (by decide)) (Or.inl rfl)) rfl yS_L_areFrames wML_L_210 rfl rfl (nle rfl) (nle rfl) (nle rfl) (show 2000 + 2700 * t + 0 + 0 + 300 ≤ 605224 by omega) (show 20000 + 18000 * t + 0 + 0 + 2200 ≤ 7286027 by omega) dL_law_145 (fun E w h => h.elim) (fun r0 w0 h0 => ?_)
      obtain ⟨rfl, r_3, d_3, po_3, pn_3, sv_3, rfl, hg_3, hp_3⟩ := h0
      refine x_st (st' := [.int 1]) rfl ?_
      refine x_goto C 159 (by decide) dL_law_148 ?_
      refine x_istore_n C [(2, .int 1), (9, .int 1), (8, .int pn), (6, .long (dig r)), (5, .int y), (4, .int x), (3, .int (nI t)), (1, .ref (ap 0)), (0, .ref b)] rfl rfl (by decide) dL_law_159 ?_
      refine x_iload_n C 0 rfl rfl dL_law_160 ?_
      refine x_if_eq C 238 (by decide) dL_law_161 (fun hz => absurd hz (by decide)) (fun _ => ?_)
      refine x_iload C 1 rfl dL_law_164 ?_
      refine x_if_ne C 238 (by decide) dL_law_166 (fun _ => ?_) (fun hz => absurd hz (by decide))
      refine x_lv [(4, .int x), (3, .int (nI t)), (2, .int 1), (1, .ref (ap 0)), (0, .ref b)] [5, 6, 0, 7, 8] rfl ?_
      refine x_wid (k := 2000 + 2700 * t + 500) (n := 20000 + 18000 * t + 4000) (by omega) (by omega) ?_
      exact K r_3 d_3 po_3 pn_3 sv_3 mm (hg_3.up (by omega)) hp_3 Hm Ht
    · refine x_iconst C 1 (by decide) dL_law_140 ?_
      refine x_goto C 145 (by decide) dL_law_141 ?_
      refine x_ES0 [.ref (ap 0), .int (nI (1 + (upN y 50))), .int (nI (upN (y >>> (3 &&& 31)) 6)), .int 1] [] C (k_L_areFrames l g ap ad r d po pn sv mm (3 * (t : Int)) H (by omega) Hp (1 + (upN y 50)) (upN (y >>> (3 &&& 31)) 6) 1 ⟨by omega, by have := upN_lt y (n := 50) (by decide); omega⟩ (upN_lt _ (by decide)) (Or.inr rfl)) rfl yS_L_areFrames wML_L_210 rfl rfl (nle rfl) (nle rfl) (nle rfl) (show 2000 + 2700 * t + 0 + 0 + 300 ≤ 605224 by omega) (show 20000 + 18000 * t + 0 + 0 + 2200 ≤ 7286027 by omega) dL_law_145 (fun E w h => h.elim) (fun r0 w0 h0 => ?_)
      obtain ⟨rfl, r_4, d_4, po_4, pn_4, sv_4, rfl, hg_4, hp_4⟩ := h0
      refine x_st (st' := [.int 1]) rfl ?_
      refine x_goto C 159 (by decide) dL_law_148 ?_
      refine x_istore_n C [(2, .int 1), (9, .int 1), (8, .int pn), (6, .long (dig r)), (5, .int y), (4, .int x), (3, .int (nI t)), (1, .ref (ap 0)), (0, .ref b)] rfl rfl (by decide) dL_law_159 ?_
      refine x_iload_n C 0 rfl rfl dL_law_160 ?_
      refine x_if_eq C 238 (by decide) dL_law_161 (fun hz => absurd hz (by decide)) (fun _ => ?_)
      refine x_iload C 1 rfl dL_law_164 ?_
      refine x_if_ne C 238 (by decide) dL_law_166 (fun _ => ?_) (fun hz => absurd hz (by decide))
      refine x_lv [(4, .int x), (3, .int (nI t)), (2, .int 1), (1, .ref (ap 0)), (0, .ref b)] [5, 6, 0, 7, 8] rfl ?_
      refine x_wid (k := 2000 + 2700 * t + 500) (n := 20000 + 18000 * t + 4000) (by omega) (by omega) ?_
      exact K r_4 d_4 po_4 pn_4 sv_4 mm (hg_4.up (by omega)) hp_4 Hm Ht
theorem up_11 {x : Int32} (h : ¬ nI (upN x 16) ≤ 11) : 11 < upN x 16 := by
  have hl := upN_lt x (n := 16) (by decide)
  rcases Nat.lt_or_ge 11 (upN x 16) with y | y
  · exact y
  · exact absurd (nI_le (b := 11) y (by decide)) h
set_option maxRecDepth 100000 in
set_option maxHeartbeats 4000000 in
theorem law_a {p : Program} {l : Launch} {e : Env} {s : State} {m : MethodId} {args : Array Value} {below : List Frame} {meth : Method} {c : Code} {Q : State → Prop} {nm : String} {g : xGt} {A : Nat → Prop} {b L : Nat} {xs : Nat → Int32} {ap ad : Nat → Nat} (C : xC p l s m args meth c cL_law 10 RL nm g.1 (xT g) A) (hX : va_X b L xs s s.heap) (hbl : b < s.heap.size) (hbA : ¬ A b) (hL : L ≤ 260) {t : Nat} (ht : t < 40) (x y : Int32) (r : xR) (d : Nat → Int32) (po pn : Int32) (sv mm : xPl) (H : Gd (3 * (t : Int)) r) (Hp : pk po pn sv) (Hm : mk2 mm) (Ht : mt mm 0 r00) (K : ∀ (r : xR) (d : Nat → Int32) (po pn : Int32) (sv mm : xPl), Gd (3 * (t : Int) + 3) r → pk po pn sv → mk2 mm → mt mm 0 r00 → xW p l e room_1 s m args below meth c g.1 A 10 (2000 + 2700 * t + 500) (20000 + 18000 * t + 4000) Q (wB g ap ad r d po pn sv mm) [(4, .int x), (3, .int (nI t)), (2, .int 1), (1, .ref (ap 0)), (0, .ref b)] 238 []) : xW p l e room_1 s m args below meth c g.1 A 10 (2000 + 2700 * t) (20000 + 18000 * t) Q (wB g ap ad r d po pn sv mm) [(9, .int 0), (8, .int pn), (6, .long (dig r)), (5, .int y), (4, .int x), (3, .int (nI t)), (2, .int 1), (1, .ref (ap 0)), (0, .ref b)] 91 [] := by
  refine x_iload C 0 rfl dL_law_91 ?_
  refine x_if_eq C 151 (by decide) dL_law_93 (fun _ => ?_) (fun hz => absurd (by decide) hz)
  refine x_aload_n C 7 rfl rfl dL_law_151 ?_
  refine x_iload C 4 rfl dL_law_152 ?_
  refine x_iload C 3 rfl dL_law_154 ?_
  refine x_ES0 [.ref (ap 0), .int x, .int y] [] C (k_L_acts l g ap ad r d po pn sv mm (3 * (t : Int)) H (by omega) Hp x y) rfl yS_L_acts wML_L_214 rfl rfl (nle rfl) (nle rfl) (nle rfl) (show 2000 + 2700 * t + 200 ≤ 605224 by omega) (show 20000 + 18000 * t + 1400 ≤ 7286027 by omega) dL_law_156 (fun E w h => h.elim) (fun r0 w0 h0 => ?_)
  obtain ⟨rfl, r_1, d_1, po_1, pn_1, sv_1, rfl, hg_1, hp_1, hd_1⟩ := h0
  refine x_st (st' := [.int 1]) rfl ?_
  refine x_istore_n C [(2, .int 1), (9, .int 0), (8, .int pn), (6, .long (dig r)), (5, .int y), (4, .int x), (3, .int (nI t)), (1, .ref (ap 0)), (0, .ref b)] rfl rfl (by decide) dL_law_159 ?_
  refine x_iload_n C 0 rfl rfl dL_law_160 ?_
  refine x_if_eq C 238 (by decide) dL_law_161 (fun hz => absurd hz (by decide)) (fun _ => ?_)
  refine x_iload C 1 rfl dL_law_164 ?_
  refine x_if_ne C 238 (by decide) dL_law_166 (fun hz => absurd (by decide) hz) (fun _ => ?_)
  refine x_iload C 5 rfl dL_law_169 ?_
  refine x_bipush C 16 (by decide) dL_law_171 ?_
  refine x_st (st' := [.int (nI 16), .int x]) rfl ?_
  refine x_FS (w1 := ([] : va_W)) (wc := ([] : va_W)) (w2 := (wB g ap ad r_1 d_1 po_1 pn_1 sv_1 mm)) [.int x, .int (nI 16)] [] (wB g ap ad r_1 d_1 po_1 pn_1 sv_1 mm) C (k_L_up l g x 16 (by decide) (by decide)) rfl yS_L_up wML_L_15 rfl rfl rfl (nle rfl) (nle rfl) (nle rfl) (show 2000 + 2700 * t + 200 + 0 ≤ 605224 by omega) (show 20000 + 18000 * t + 1400 + 0 ≤ 7286027 by omega) dL_law_173 ?_
  refine x_bipush C 11 (by decide) dL_law_176 ?_
  refine x_icmp_le C 238 (by decide) dL_law_178 (fun h1 => ?_) (fun h1 => ?_)
  · refine x_lv [(4, .int x), (3, .int (nI t)), (2, .int 1), (1, .ref (ap 0)), (0, .ref b)] [5, 6, 0, 7, 8] rfl ?_
    refine x_wid (k := 2000 + 2700 * t + 500) (n := 20000 + 18000 * t + 4000) (by omega) (by omega) ?_
    exact K r_1 d_1 po_1 pn_1 sv_1 mm (hg_1.up (by omega)) hp_1 Hm Ht
  · refine x_aload_n C 7 rfl rfl dL_law_181 ?_
    refine x_EV0 [] [] C (a_savedStates l g ap ad r_1 d_1 po_1 pn_1 sv_1 mm  hg_1.1 hp_1) rfl yV_X6_savedStates wML_L_207 0 rfl rfl rfl rfl (nle rfl) (nle rfl) (nle rfl) (show 2000 + 2700 * t + 200 + 0 + 0 ≤ 605224 by omega) (show 20000 + 18000 * t + 1400 + 0 + 0 ≤ 7286027 by omega) dL_law_182 (fun E w h => h.elim) (fun r0 w0 h0 => ?_)
    obtain ⟨rfl, rfl⟩ := h0
    refine x_st (st' := [.int pn_1]) rfl ?_
    refine x_iload C 2 rfl dL_law_185 ?_
    refine x_bipush C 6 (by decide) dL_law_187 ?_
    refine x_icmp_ge C 199 (by decide) dL_law_189 (fun h2 => ?_) (fun h2 => ?_)
    · refine x_bipush C 6 (by decide) dL_law_199 ?_
      refine x_icmp_ne C 236 (by decide) dL_law_201 (fun hz => absurd ((hd_1 (up_11 h1)).2.2.trans (if_neg (Int32.not_lt.mpr h2))) hz) (fun _ => ?_)
      refine x_aload_n C 7 rfl rfl dL_law_204 ?_
      refine x_EV0 [] [] C (a_undo l g ap ad r_1 r d_1 po_1 pn_1 sv_1 mm hg_1.1 hp_1 ((hd_1 (up_11 h1)).2.1)) rfl yV_X6_undo wML_L_173 0 rfl rfl rfl rfl (nle rfl) (nle rfl) (nle rfl) (show 2000 + 2700 * t + 200 + 0 + 0 + 1 ≤ 605224 by omega) (show 20000 + 18000 * t + 1400 + 0 + 0 + 6 ≤ 7286027 by omega) dL_law_205 (fun E w h => h.elim) (fun r0 w0 h0 => ?_)
      obtain ⟨rfl, rfl, hu2⟩ := h0
      refine x_st (st' := [.int (pn_1 - 1)]) rfl ?_
      refine x_if_lt C 236 (by decide) dL_law_208 (fun hz => absurd hz hu2.2) (fun _ => ?_)
      refine x_aload_n C 7 rfl rfl dL_law_211 ?_
      refine x_EV0 [] [] C (a_digest l g ap ad r d_1 po_1 (pn_1 - 1) sv_1 mm  H.1 hu2.1 H.2.2.1) rfl yV_X6_digest wML_L_185 0 rfl rfl rfl rfl (nle rfl) (nle rfl) (nle rfl) (show 2000 + 2700 * t + 200 + 0 + 0 + 1 + 0 ≤ 605224 by omega) (show 20000 + 18000 * t + 1400 + 0 + 0 + 6 + 0 ≤ 7286027 by omega) dL_law_212 (fun E w h => h.elim) (fun r0 w0 h0 => ?_)
      obtain ⟨rfl, d3, rfl⟩ := h0
      refine x_st (st' := [.long (dig r)]) rfl ?_
      refine x_lload C 3 rfl dL_law_215 ?_
      refine x_lcmp C dL_law_217 ?_
      refine x_if_ne C 236 (by decide) dL_law_218 (fun hz => absurd (lg_self _) hz) (fun _ => ?_)
      refine x_aload_n C 7 rfl rfl dL_law_221 ?_
      refine x_iload C 5 rfl dL_law_222 ?_
      refine x_iload C 4 rfl dL_law_224 ?_
      refine x_ES0 [.ref (ap 0), .int x, .int y] [] C (k_L_acts l g ap ad r d3 po_1 (pn_1 - 1) sv_1 mm (3 * (t : Int)) H (by omega) hu2.1 x y) rfl yS_L_acts wML_L_214 rfl rfl (nle rfl) (nle rfl) (nle rfl) (show 2000 + 2700 * t + 200 + 0 + 0 + 1 + 0 + 200 ≤ 605224 by omega) (show 20000 + 18000 * t + 1400 + 0 + 0 + 6 + 0 + 1400 ≤ 7286027 by omega) dL_law_226 (fun E w h => h.elim) (fun r0 w0 h0 => ?_)
      obtain ⟨rfl, r_4, d_4, po_4, pn_4, sv_4, rfl, hg_4, hp_4, hd_4⟩ := h0
      refine x_st (st' := [.int 1]) rfl ?_
      refine x_if_eq C 236 (by decide) dL_law_229 (fun hz => absurd hz (by decide)) (fun _ => ?_)
      refine x_iconst C 1 (by decide) dL_law_232 ?_
      refine x_goto C 237 (by decide) dL_law_233 ?_
      refine x_istore_n C [(2, .int 1), (9, .int 0), (8, .int pn), (6, .long (dig r)), (5, .int y), (4, .int x), (3, .int (nI t)), (1, .ref (ap 0)), (0, .ref b)] rfl rfl (by decide) dL_law_237 ?_
      refine x_lv [(4, .int x), (3, .int (nI t)), (2, .int 1), (1, .ref (ap 0)), (0, .ref b)] [5, 6, 0, 7, 8] rfl ?_
      refine x_wid (k := 2000 + 2700 * t + 500) (n := 20000 + 18000 * t + 4000) (by omega) (by omega) ?_
      exact K r_4 d_4 po_4 pn_4 sv_4 mm (hg_4.up (by omega)) hp_4 Hm Ht
    · refine x_iload C 2 rfl dL_law_192 ?_
      refine x_iconst C 1 (by decide) dL_law_194 ?_
      refine x_iadd C dL_law_195 ?_
      refine x_goto C 201 (by decide) dL_law_196 ?_
      refine x_icmp_ne C 236 (by decide) dL_law_201 (fun hz => absurd ((hd_1 (up_11 h1)).2.2.trans (if_pos (Int32.not_le.mp h2))) hz) (fun _ => ?_)
      refine x_aload_n C 7 rfl rfl dL_law_204 ?_
      refine x_EV0 [] [] C (a_undo l g ap ad r_1 r d_1 po_1 pn_1 sv_1 mm hg_1.1 hp_1 ((hd_1 (up_11 h1)).2.1)) rfl yV_X6_undo wML_L_173 0 rfl rfl rfl rfl (nle rfl) (nle rfl) (nle rfl) (show 2000 + 2700 * t + 200 + 0 + 0 + 1 ≤ 605224 by omega) (show 20000 + 18000 * t + 1400 + 0 + 0 + 6 ≤ 7286027 by omega) dL_law_205 (fun E w h => h.elim) (fun r0 w0 h0 => ?_)
      obtain ⟨rfl, rfl, hu5⟩ := h0
      refine x_st (st' := [.int (pn_1 - 1)]) rfl ?_
      refine x_if_lt C 236 (by decide) dL_law_208 (fun hz => absurd hz hu5.2) (fun _ => ?_)
      refine x_aload_n C 7 rfl rfl dL_law_211 ?_
      refine x_EV0 [] [] C (a_digest l g ap ad r d_1 po_1 (pn_1 - 1) sv_1 mm  H.1 hu5.1 H.2.2.1) rfl yV_X6_digest wML_L_185 0 rfl rfl rfl rfl (nle rfl) (nle rfl) (nle rfl) (show 2000 + 2700 * t + 200 + 0 + 0 + 1 + 0 ≤ 605224 by omega) (show 20000 + 18000 * t + 1400 + 0 + 0 + 6 + 0 ≤ 7286027 by omega) dL_law_212 (fun E w h => h.elim) (fun r0 w0 h0 => ?_)
      obtain ⟨rfl, d6, rfl⟩ := h0
      refine x_st (st' := [.long (dig r)]) rfl ?_
      refine x_lload C 3 rfl dL_law_215 ?_
      refine x_lcmp C dL_law_217 ?_
      refine x_if_ne C 236 (by decide) dL_law_218 (fun hz => absurd (lg_self _) hz) (fun _ => ?_)
      refine x_aload_n C 7 rfl rfl dL_law_221 ?_
      refine x_iload C 5 rfl dL_law_222 ?_
      refine x_iload C 4 rfl dL_law_224 ?_
      refine x_ES0 [.ref (ap 0), .int x, .int y] [] C (k_L_acts l g ap ad r d6 po_1 (pn_1 - 1) sv_1 mm (3 * (t : Int)) H (by omega) hu5.1 x y) rfl yS_L_acts wML_L_214 rfl rfl (nle rfl) (nle rfl) (nle rfl) (show 2000 + 2700 * t + 200 + 0 + 0 + 1 + 0 + 200 ≤ 605224 by omega) (show 20000 + 18000 * t + 1400 + 0 + 0 + 6 + 0 + 1400 ≤ 7286027 by omega) dL_law_226 (fun E w h => h.elim) (fun r0 w0 h0 => ?_)
      obtain ⟨rfl, r_7, d_7, po_7, pn_7, sv_7, rfl, hg_7, hp_7, hd_7⟩ := h0
      refine x_st (st' := [.int 1]) rfl ?_
      refine x_if_eq C 236 (by decide) dL_law_229 (fun hz => absurd hz (by decide)) (fun _ => ?_)
      refine x_iconst C 1 (by decide) dL_law_232 ?_
      refine x_goto C 237 (by decide) dL_law_233 ?_
      refine x_istore_n C [(2, .int 1), (9, .int 0), (8, .int pn), (6, .long (dig r)), (5, .int y), (4, .int x), (3, .int (nI t)), (1, .ref (ap 0)), (0, .ref b)] rfl rfl (by decide) dL_law_237 ?_
      refine x_lv [(4, .int x), (3, .int (nI t)), (2, .int 1), (1, .ref (ap 0)), (0, .ref b)] [5, 6, 0, 7, 8] rfl ?_
      refine x_wid (k := 2000 + 2700 * t + 500) (n := 20000 + 18000 * t + 4000) (by omega) (by omega) ?_
      exact K r_7 d_7 po_7 pn_7 sv_7 mm (hg_7.up (by omega)) hp_7 Hm Ht
set_option maxRecDepth 100000 in
set_option maxHeartbeats 4000000 in
theorem law_t {p : Program} {l : Launch} {e : Env} {s : State} {m : MethodId} {args : Array Value} {below : List Frame} {meth : Method} {c : Code} {Q : State → Prop} {nm : String} {g : xGt} {A : Nat → Prop} {b L : Nat} {xs : Nat → Int32} {ap ad : Nat → Nat} (C : xC p l s m args meth c cL_law 10 RL nm g.1 (xT g) A) (hX : va_X b L xs s s.heap) (hbl : b < s.heap.size) (hbA : ¬ A b) (hL : L ≤ 260) {t : Nat} (ht : t < 40) (K : ∀ (r : xR) (d : Nat → Int32) (po pn : Int32) (sv mm : xPl), Gd (3 * ((t + 1 : Nat) : Int)) r → pk po pn sv → mk2 mm → mt mm 0 r00 → xW p l e room_1 s m args below meth c g.1 A 10 (2000 + 2700 * (t + 1)) (20000 + 18000 * (t + 1)) Q (wB g ap ad r d po pn sv mm) [(3, .int (nI (t + 1))), (2, .int 1), (1, .ref (ap 0)), (0, .ref b)] 32 []) (r : xR) (d : Nat → Int32) (po pn : Int32) (sv mm : xPl) (H : Gd (3 * (t : Int)) r) (Hp : pk po pn sv) (Hm : mk2 mm) (Ht : mt mm 0 r00) : xW p l e room_1 s m args below meth c g.1 A 10 (2000 + 2700 * t) (20000 + 18000 * t) Q (wB g ap ad r d po pn sv mm) [(3, .int (nI (t))), (2, .int 1), (1, .ref (ap 0)), (0, .ref b)] 42 [] := by
  refine x_aload_n C 3 rfl rfl dL_law_42 ?_
  refine x_iconst C 2 (by decide) dL_law_43 ?_
  refine x_iload_n C 0 rfl rfl dL_law_44 ?_
  refine x_imulN C 2 t rfl rfl dL_law_45 ?_
  refine x_callSX [.ref b, .int (nI (2 * t))] [] C hX hbl hbA (k_L_cell l g b L xs (2 * t) (by omega) (by omega)) yS_L_cell wML_L_203 rfl rfl (nle rfl) (nle rfl) (nle rfl) (show 2000 + 2700 * t + 0 ≤ 605224 by omega) (show 20000 + 18000 * t + 0 ≤ 7286027 by omega) dL_law_46 (fun r0 w0 h0 => ?_)
  obtain ⟨x, rfl, rfl⟩ := h0
  refine x_ws (ws' := (wB g ap ad r d po pn sv mm)) rfl ?_
  refine x_st (st' := [.int x]) rfl ?_
  refine x_istore C [(4, .int x), (3, .int (nI t)), (2, .int 1), (1, .ref (ap 0)), (0, .ref b)] rfl (by decide) dL_law_49 ?_
  refine x_aload_n C 4 rfl rfl dL_law_51 ?_
  refine x_iconst C 2 (by decide) dL_law_52 ?_
  refine x_iload_n C 1 rfl rfl dL_law_53 ?_
  refine x_imulN C 2 t rfl rfl dL_law_54 ?_
  refine x_iconst C 1 (by decide) dL_law_55 ?_
  refine x_iaddN C (2 * t) 1 rfl rfl dL_law_56 ?_
  refine x_callSX [.ref b, .int (nI (2 * t + 1))] [] C hX hbl hbA (k_L_cell l g b L xs (2 * t + 1) (by omega) (by omega)) yS_L_cell wML_L_203 rfl rfl (nle rfl) (nle rfl) (nle rfl) (show 2000 + 2700 * t + 0 + 0 ≤ 605224 by omega) (show 20000 + 18000 * t + 0 + 0 ≤ 7286027 by omega) dL_law_57 (fun r0 w0 h0 => ?_)
  obtain ⟨y, rfl, rfl⟩ := h0
  refine x_ws (ws' := (wB g ap ad r d po pn sv mm)) rfl ?_
  refine x_st (st' := [.int y]) rfl ?_
  refine x_istore C [(5, .int y), (4, .int x), (3, .int (nI t)), (2, .int 1), (1, .ref (ap 0)), (0, .ref b)] rfl (by decide) dL_law_60 ?_
  refine x_aload_n C 4 rfl rfl dL_law_62 ?_
  refine x_EV0 [] [] C (a_digest l g ap ad r d po pn sv mm  H.1 Hp H.2.2.1) rfl yV_X6_digest wML_L_185 0 rfl rfl rfl rfl (nle rfl) (nle rfl) (nle rfl) (show 2000 + 2700 * t + 0 + 0 + 0 ≤ 605224 by omega) (show 20000 + 18000 * t + 0 + 0 + 0 ≤ 7286027 by omega) dL_law_63 (fun E w h => h.elim) (fun r0 w0 h0 => ?_)
  obtain ⟨rfl, d1, rfl⟩ := h0
  refine x_st (st' := [.long (dig r)]) rfl ?_
  refine x_lstore C [(6, .long (dig r)), (5, .int y), (4, .int x), (3, .int (nI t)), (2, .int 1), (1, .ref (ap 0)), (0, .ref b)] rfl (by decide) dL_law_66 ?_
  refine x_aload_n C 5 rfl rfl dL_law_68 ?_
  refine x_EV0 [] [] C (a_savedStates l g ap ad r d1 po pn sv mm  H.1 Hp) rfl yV_X6_savedStates wML_L_207 0 rfl rfl rfl rfl (nle rfl) (nle rfl) (nle rfl) (show 2000 + 2700 * t + 0 + 0 + 0 + 0 ≤ 605224 by omega) (show 20000 + 18000 * t + 0 + 0 + 0 + 0 ≤ 7286027 by omega) dL_law_69 (fun E w h => h.elim) (fun r0 w0 h0 => ?_)
  obtain ⟨rfl, rfl⟩ := h0
  refine x_st (st' := [.int pn]) rfl ?_
  refine x_istore C [(8, .int pn), (6, .long (dig r)), (5, .int y), (4, .int x), (3, .int (nI t)), (2, .int 1), (1, .ref (ap 0)), (0, .ref b)] rfl (by decide) dL_law_72 ?_
  refine x_iload C 3 rfl dL_law_74 ?_
  refine x_bipush C 8 (by decide) dL_law_76 ?_
  refine x_ishr C dL_law_78 ?_
  refine x_iconst C 3 (by decide) dL_law_79 ?_
  refine x_iand C dL_law_80 ?_
  refine x_if_ne C 88 (by decide) dL_law_81 (fun h1 => ?_) (fun h1 => ?_)
  · refine x_iconst C 0 (by decide) dL_law_88 ?_
    refine x_istore C [(9, .int 0), (8, .int pn), (6, .long (dig r)), (5, .int y), (4, .int x), (3, .int (nI t)), (2, .int 1), (1, .ref (ap 0)), (0, .ref b)] rfl (by decide) dL_law_89 ?_
    refine x_lv [(9, .int 0), (8, .int pn), (6, .long (dig r)), (5, .int y), (4, .int x), (3, .int (nI t)), (2, .int 1), (1, .ref (ap 0)), (0, .ref b)] [0, 1, 2, 3, 4, 5, 6, 7, 8] rfl ?_
    refine x_wid (k := 2000 + 2700 * t) (n := 20000 + 18000 * t) (by omega) (by omega) ?_
    exact law_a C hX hbl hbA hL ht x y r d1 po pn sv mm H Hp Hm Ht (fun r d po pn sv mm G1 G2 G3 G4 => law_e C hX hbl hbA hL ht x K r d po pn sv mm G1 G2 G3 G4)
  · refine x_iconst C 1 (by decide) dL_law_84 ?_
    refine x_goto C 89 (by decide) dL_law_85 ?_
    refine x_istore C [(9, .int 1), (8, .int pn), (6, .long (dig r)), (5, .int y), (4, .int x), (3, .int (nI t)), (2, .int 1), (1, .ref (ap 0)), (0, .ref b)] rfl (by decide) dL_law_89 ?_
    refine x_lv [(9, .int 1), (8, .int pn), (6, .long (dig r)), (5, .int y), (4, .int x), (3, .int (nI t)), (2, .int 1), (1, .ref (ap 0)), (0, .ref b)] [0, 1, 2, 3, 4, 5, 6, 7, 8] rfl ?_
    refine x_wid (k := 2000 + 2700 * t) (n := 20000 + 18000 * t) (by omega) (by omega) ?_
    exact law_s C hX hbl hbA hL ht x y r d1 po pn sv mm H Hp Hm Ht (fun r d po pn sv mm G1 G2 G3 G4 => law_e C hX hbl hbA hL ht x K r d po pn sv mm G1 G2 G3 G4)
set_option maxRecDepth 100000 in
set_option maxHeartbeats 4000000 in
theorem law_loop {p : Program} {l : Launch} {e : Env} {s : State} {m : MethodId} {args : Array Value} {below : List Frame} {meth : Method} {c : Code} {Q : State → Prop} {nm : String} {g : xGt} {A : Nat → Prop} {b L : Nat} {xs : Nat → Int32} {ap ad : Nat → Nat} (C : xC p l s m args meth c cL_law 10 RL nm g.1 (xT g) A) (hX : va_X b L xs s s.heap) (hbl : b < s.heap.size) (hbA : ¬ A b) (hL : L ≤ 260) (Kend : ∀ (k n : Nat) (ws : va_W) (lv : List (Nat × Value)), k ≤ 605224 → n ≤ 7286027 → xW p l e room_1 s m args below meth c g.1 A 10 k n Q ws lv 351 [.int 1]) : ∀ (n t : Nat), t + n = 40 → ∀ (r : xR) (d : Nat → Int32) (po pn : Int32) (sv mm : xPl) (H : Gd (3 * (t : Int)) r) (Hp : pk po pn sv) (Hm : mk2 mm) (Ht : mt mm 0 r00), xW p l e room_1 s m args below meth c g.1 A 10 (2000 + 2700 * t) (20000 + 18000 * t) Q (wB g ap ad r d po pn sv mm) [(3, .int (nI (t))), (2, .int 1), (1, .ref (ap 0)), (0, .ref b)] 32 [] := by
  intro n
  induction n with
  | zero =>
    intro t ht r d po pn sv mm H Hp Hm Ht
    have et : t = 40 := by omega
    refine x_iload_n C 0 rfl rfl dL_law_32 ?_
    refine x_bipush C 40 (by decide) dL_law_33 ?_
    refine x_icmp_ge C 335 (by decide) dL_law_35 (fun _ => ?_) (fun hz => absurd (by rw [et]; decide) hz)
    refine x_iload_n C 1 rfl rfl dL_law_335 ?_
    refine x_if_eq C 350 (by decide) dL_law_336 (fun hz => absurd hz (by decide)) (fun _ => ?_)
    refine x_aload_n C 2 rfl rfl dL_law_339 ?_
    refine x_ES0 [.ref (ap 0)] [] C (k_L_holds l g ap ad r d po pn sv mm (3 * (t : Int)) H (by omega) Hp) rfl yS_L_holds wML_L_199 rfl rfl (nle rfl) (nle rfl) (nle rfl) (show 2000 + 2700 * t + 1000 ≤ 605224 by omega) (show 20000 + 18000 * t + 6000 ≤ 7286027 by omega) dL_law_340 (fun E w h => h.elim) (fun r0 w0 h0 => ?_)
    obtain ⟨rfl, d_1, rfl⟩ := h0
    refine x_st (st' := [.int 1]) rfl ?_
    refine x_if_eq C 350 (by decide) dL_law_343 (fun hz => absurd hz (by decide)) (fun _ => ?_)
    refine x_iconst C 1 (by decide) dL_law_346 ?_
    refine x_goto C 351 (by decide) dL_law_347 ?_
    exact Kend _ _ _ _ (by omega) (by omega)
  | succ n ih =>
    intro t ht r d po pn sv mm H Hp Hm Ht
    refine x_iload_n C 0 rfl rfl dL_law_32 ?_
    refine x_bipush C 40 (by decide) dL_law_33 ?_
    refine x_icmp_ge C 335 (by decide) dL_law_35 (fun hz => absurd hz (nI_ge (a := t) (b := 40) (by omega) (by decide))) (fun _ => ?_)
    refine x_iload_n C 1 rfl rfl dL_law_38 ?_
    refine x_if_eq C 335 (by decide) dL_law_39 (fun hz => absurd hz (by decide)) (fun _ => ?_)
    exact law_t C hX hbl hbA hL (by omega) (fun r d po pn sv mm G1 G2 G3 G4 => ih (t + 1) (by omega) r d po pn sv mm G1 G2 G3 G4) r d po pn sv mm H Hp Hm Ht
theorem pk_0 : pk 0 0 (fun _ => none) := ⟨⟨rfl, by decide⟩, ⟨rfl, by decide⟩, fun k x h => (by cases h), fun k h => absurd h (Nat.not_lt_zero _)⟩
theorem mk2_0 : mk2 (fun _ => none) := fun k x h => (by cases h)
set_option maxRecDepth 100000 in
set_option maxHeartbeats 4000000 in
theorem law_go {p : Program} {l : Launch} {e : Env} {s : State} {m : MethodId} {args : Array Value} {below : List Frame} {meth : Method} {c : Code} {Q : State → Prop} {nm : String} {g : xGt} {A : Nat → Prop} {b L : Nat} {xs : Nat → Int32} (C : xC p l s m args meth c cL_law 10 RL nm g.1 (xT g) A) (hX : va_X b L xs s s.heap) (hbl : b < s.heap.size) (hbA : ¬ A b) (hL : L ≤ 260) (Kend : ∀ (k n : Nat) (ws : va_W) (lv : List (Nat × Value)), k ≤ 605224 → n ≤ 7286027 → xW p l e room_1 s m args below meth c g.1 A 10 k n Q ws lv 351 [.int 1]) : xW p l e room_1 s m args below meth c g.1 A 10 (0) (0) Q ([] : va_W) [(0, .ref b)] 0 [] := by
  refine x_new (ci := 6) C tyX6 wLy_X6 tyX6_ok wCL_L_10 wIs_X6 wIn_X6 rfl (fs := [.null, .null, .int 0, .int 0, .null, .null, .int 0, .null]) (fun j hj => match j, hj with | 0, _ => rfl | 1, _ => rfl | 2, _ => rfl | 3, _ => rfl | 4, _ => rfl | 5, _ => rfl | 6, _ => rfl | 7, _ => rfl | j + 8, h => absurd h (by omega)) (nle rfl) (nle rfl) dL_law_0 (fun q1 => ?_)
  refine x_dup C rfl dL_law_3 ?_
  refine x_callI (w1 := ([] : va_W)) (wc := _) (w2 := ([] : va_W)) [] [.ref q1] C (k_X6_init l g q1) yI_X6_init wML_L_198 rfl rfl rfl (nle rfl) (nle rfl) (nle rfl) (nle rfl) (nle rfl) dL_law_4 (fun E w h => h.elim) (fun r0 w0 h0 => ?_)
  obtain ⟨rfl, ap, ad, hq, rfl⟩ := h0
  subst hq
  refine x_ws (ws' := wB g ap ad r00 (fun _ => (0 : Int32)) 0 0 (fun _ => none) (fun _ => none)) (by rw [List.nil_append, List.append_nil]; rfl) ?_
  refine x_astore_n C [(1, .ref (ap 0)), (0, .ref b)] rfl rfl (by decide) dL_law_7 ?_
  refine x_wid (k := 500) (n := 5000) (nle rfl) (nle rfl) ?_
  have H0 : Gd (3 * ((0 : Nat) : Int)) r00 := Gd.zero
  refine x_aload_n C 0 rfl rfl dL_law_8 ?_
  refine x_iconst C 0 (by decide) dL_law_9 ?_
  refine x_st (st' := [.int (nI 0), .ref (ap 0)]) rfl ?_
  refine x_EV0 [.int (nI 0)] [] C (a_store l g ap ad r00 (fun _ => (0 : Int32)) 0 0 (fun _ => none) (fun _ => none) 0 (by decide) H0.1 pk_0 mk2_0) rfl yV_X6_store wML_L_189 0 rfl rfl rfl rfl (nle rfl) (nle rfl) (nle rfl) (show 500 + 26 ≤ 605224 by omega) (show 5000 + 192 ≤ 7286027 by omega) dL_law_10 (fun E w h => h.elim) (fun r0 w0 h0 => ?_)
  obtain ⟨rfl, mm1, rfl, hm1, ht1, ho1⟩ := h0
  refine x_st (st' := [.int r00.xn]) rfl ?_
  refine x_iconst C 4 (by decide) dL_law_13 ?_
  refine x_icmp_ne C 28 (by decide) dL_law_14 (fun hz => absurd (show r00.xn = 4 from rfl) hz) (fun _ => ?_)
  refine x_aload_n C 0 rfl rfl dL_law_17 ?_
  refine x_ES0 [.ref (ap 0)] [] C (k_L_holds l g ap ad r00 (fun _ => (0 : Int32)) 0 0 (fun _ => none) mm1 (3 * ((0 : Nat) : Int)) H0 (by omega) pk_0) rfl yS_L_holds wML_L_199 rfl rfl (nle rfl) (nle rfl) (nle rfl) (show 500 + 26 + 1000 ≤ 605224 by omega) (show 5000 + 192 + 6000 ≤ 7286027 by omega) dL_law_18 (fun E w h => h.elim) (fun r0 w0 h0 => ?_)
  obtain ⟨rfl, d_2, rfl⟩ := h0
  refine x_st (st' := [.int 1]) rfl ?_
  refine x_if_eq C 28 (by decide) dL_law_21 (fun hz => absurd hz (by decide)) (fun _ => ?_)
  refine x_iconst C 1 (by decide) dL_law_24 ?_
  refine x_goto C 29 (by decide) dL_law_25 ?_
  refine x_istore_n C [(2, .int 1), (1, .ref (ap 0)), (0, .ref b)] rfl rfl (by decide) dL_law_29 ?_
  refine x_iconst C 0 (by decide) dL_law_30 ?_
  refine x_istore_n C [(3, .int 0), (2, .int 1), (1, .ref (ap 0)), (0, .ref b)] rfl rfl (by decide) dL_law_31 ?_
  refine x_lve (lv' := [(3, .int (nI (0))), (2, .int 1), (1, .ref (ap 0)), (0, .ref b)]) rfl ?_
  refine x_wid (k := 2000 + 2700 * 0) (n := 20000 + 18000 * 0) (nle rfl) (nle rfl) ?_
  exact law_loop C hX hbl hbA hL Kend 40 0 rfl r00 d_2 0 0 (fun _ => none) mm1 H0 pk_0 hm1 ht1
