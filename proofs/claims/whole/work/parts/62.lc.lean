set_option maxRecDepth 100000 in
set_option maxHeartbeats 2000000 in
theorem c_42 {p : Program} {l : Launch} {e : Env} {s : State} {m : MethodId} {args : Array Value} {below : List Frame} {meth : Method} {c : Code} {cells slots : Nat} {Q : State → Prop} {nm : String} {g : xGt} {A : Nat → Prop} {b L i : Nat} {xs : Nat → Int32} {ap ad am : Nat → Nat} {ao : Nat} {r : xR} {po : Int32} {pn : Int32} {pl : Int32} {tx : Nat → Int32} {rp : Int32} {rl : Int32} {rs : Int32} {rm : Int32} {rn : Int32} {rz : Int32} {sv : xPl} {mm : xPl} {u : Nat → Int32} {fi : Nat → Int32} {t2 : Nat → Int32} {dm : Nat → Int32} {th : Int32} {sa : Int32} {ln : Int32} {pa : Int32} {le : Int32} {sk : Int32} {nu : Int32} {h : Int64} {fo : Nat → Int64} (C : xC p l s m args meth c cL_law 9 RL nm g.1 (xT g) A) (hX : va_X b L xs s s.heap) (hbl : b < s.heap.size) (hbA : ¬ A b) (hi : i + 6 ≤ L) (hL : L ≤ 3072) (hcC : cells + 40 ≤ room_1.cells) (hsC : slots + 300 ≤ room_1.slots) (H : RI r po pn pl tx sv mm u fi t2 sa ln) (K : LK p l e s m args below meth c g A ap ad am ao b i (cells + 40) (slots + 300) Q) : xW p l e room_1 s m args below meth c g.1 A 9 cells slots Q (wLaw g ap ad am ao r po pn pl tx rp rl rs rm rn rz sv mm u fi t2 dm th sa ln pa le sk nu h fo) [(4, .int (nI i)), (3, .ref ao), (2, .ref (am 0)), (1, .ref (ap 0)), (0, .ref b)] 2413 [] := by
  refine x_ws (ws' := ((wOu g ao fo) ++ ((wMo g am u fi t2 dm th sa ln pa le sk nu h) ++ (wCl g ap ad r po pn pl tx rp rl rs rm rn rz sv mm)))) rfl ?_
  refine x_aload_n C 3 rfl rfl dL_law_2413 ?_
  refine x_EV1 (w1 := (wOu g ao fo) ++ (wMo g am u fi t2 dm th sa ln pa le sk nu h)) (wc := (wCl g ap ad r po pn pl tx rp rl rs rm rn rz sv mm)) [] [] C (k_X6_lostInRow l g ap ad r po pn pl tx rp rl rs rm rn rz sv mm H.clo) (List.append_assoc _ _ _).symm yV_X6_lostInRow wML_L_296 6 rfl rfl rfl rfl (nle rfl) (nle rfl) (nle rfl) (rmc hcC (by omega)) (rmc hsC (by omega)) dL_law_2414 (fun E w h => h.elim) (fun r0 w0 h0 => ?_)
  have hP := P_lostInRow r po pn pl tx rp rl rs rm rn rz sv mm u fi t2 dm th sa ln pa le sk nu h  H
  obtain ⟨rfl, rfl⟩ := h0
  refine x_ws (ws' := ((wOu g ao fo) ++ ((wMo g am u fi t2 dm th sa ln pa le sk nu h) ++ (wCl g ap ad r po pn pl tx rp rl rs rm rn rz sv mm)))) (List.append_assoc _ _ _) ?_
  refine x_st (st' := [.int r.ji]) rfl ?_
  refine x_aload_n C 2 rfl rfl dL_law_2417 ?_
  refine x_FV (w1 := (wOu g ao fo)) (wc := (wMo g am u fi t2 dm th sa ln pa le sk nu h)) (w2 := (wCl g ap ad r po pn pl tx rp rl rs rm rn rz sv mm)) [] [.int r.ji] ((wOu g ao fo) ++ ((wMo g am u fi t2 dm 0 sa ln pa le sk nu h) ++ (wCl g ap ad r po pn pl tx rp rl rs rm rn rz sv mm))) C (k_X7_lostInRow l g am u fi t2 dm th sa ln pa le sk nu h H.hs H.hs6 H.hm) rfl yV_X7_lostInRow wML_L_299 rfl 1 rfl rfl rfl rfl (nle rfl) (nle rfl) (nle rfl) (rmc hcC (by omega)) (rmc hsC (by omega)) dL_law_2418 ?_
  refine x_icmp_eq C 3131 (by decide) dL_law_2421 (fun _ => ?_) (fun hz => absurd hP.1 hz)
  refine x_wid (k := cells + 40) (n := slots + 300) (by omega) (by omega) ?_
  exact K r po pn pl tx rp rl rs rm rn rz sv mm u fi t2 dm 0 sa ln pa le sk nu h fo hP.2
set_option maxRecDepth 100000 in
set_option maxHeartbeats 2000000 in
theorem c_43 {p : Program} {l : Launch} {e : Env} {s : State} {m : MethodId} {args : Array Value} {below : List Frame} {meth : Method} {c : Code} {cells slots : Nat} {Q : State → Prop} {nm : String} {g : xGt} {A : Nat → Prop} {b L i : Nat} {xs : Nat → Int32} {ap ad am : Nat → Nat} {ao : Nat} {r : xR} {po : Int32} {pn : Int32} {pl : Int32} {tx : Nat → Int32} {rp : Int32} {rl : Int32} {rs : Int32} {rm : Int32} {rn : Int32} {rz : Int32} {sv : xPl} {mm : xPl} {u : Nat → Int32} {fi : Nat → Int32} {t2 : Nat → Int32} {dm : Nat → Int32} {th : Int32} {sa : Int32} {ln : Int32} {pa : Int32} {le : Int32} {sk : Int32} {nu : Int32} {h : Int64} {fo : Nat → Int64} (C : xC p l s m args meth c cL_law 9 RL nm g.1 (xT g) A) (hX : va_X b L xs s s.heap) (hbl : b < s.heap.size) (hbA : ¬ A b) (hi : i + 6 ≤ L) (hL : L ≤ 3072) (hcC : cells + 40 ≤ room_1.cells) (hsC : slots + 300 ≤ room_1.slots) (H : RI r po pn pl tx sv mm u fi t2 sa ln) (K : LK p l e s m args below meth c g A ap ad am ao b i (cells + 40) (slots + 300) Q) : xW p l e room_1 s m args below meth c g.1 A 9 cells slots Q (wLaw g ap ad am ao r po pn pl tx rp rl rs rm rn rz sv mm u fi t2 dm th sa ln pa le sk nu h fo) [(4, .int (nI i)), (3, .ref ao), (2, .ref (am 0)), (1, .ref (ap 0)), (0, .ref b)] 2426 [] := by
  refine x_ws (ws' := ((wOu g ao fo) ++ ((wMo g am u fi t2 dm th sa ln pa le sk nu h) ++ (wCl g ap ad r po pn pl tx rp rl rs rm rn rz sv mm)))) rfl ?_
  refine x_aload_n C 3 rfl rfl dL_law_2426 ?_
  refine x_EV1 (w1 := (wOu g ao fo) ++ (wMo g am u fi t2 dm th sa ln pa le sk nu h)) (wc := (wCl g ap ad r po pn pl tx rp rl rs rm rn rz sv mm)) [] [] C (k_X6_isFailsafe l g ap ad r po pn pl tx rp rl rs rm rn rz sv mm H.clo) (List.append_assoc _ _ _).symm yV_X6_isFailsafe wML_L_300 6 rfl rfl rfl rfl (nle rfl) (nle rfl) (nle rfl) (rmc hcC (by omega)) (rmc hsC (by omega)) dL_law_2427 (fun E w h => h.elim) (fun r0 w0 h0 => ?_)
  have hP := P_isFailsafe r po pn pl tx rp rl rs rm rn rz sv mm u fi t2 dm th sa ln pa le sk nu h  H
  obtain ⟨rfl, rfl⟩ := h0
  refine x_ws (ws' := ((wOu g ao fo) ++ ((wMo g am u fi t2 dm th sa ln pa le sk nu h) ++ (wCl g ap ad r po pn pl tx rp rl rs rm rn rz sv mm)))) (List.append_assoc _ _ _) ?_
  refine x_st (st' := [.int r.jf]) rfl ?_
  refine x_aload_n C 2 rfl rfl dL_law_2430 ?_
  refine x_FV (w1 := (wOu g ao fo)) (wc := (wMo g am u fi t2 dm th sa ln pa le sk nu h)) (w2 := (wCl g ap ad r po pn pl tx rp rl rs rm rn rz sv mm)) [] [.int r.jf] ((wOu g ao fo) ++ ((wMo g am u fi t2 dm 0 sa ln pa le sk nu h) ++ (wCl g ap ad r po pn pl tx rp rl rs rm rn rz sv mm))) C (k_X7_isFailsafe l g am u fi t2 dm th sa ln pa le sk nu h H.hs H.hs6 H.hm) rfl yV_X7_isFailsafe wML_L_303 rfl 1 rfl rfl rfl rfl (nle rfl) (nle rfl) (nle rfl) (rmc hcC (by omega)) (rmc hsC (by omega)) dL_law_2431 ?_
  refine x_icmp_eq C 3131 (by decide) dL_law_2434 (fun _ => ?_) (fun hz => absurd hP.1 hz)
  refine x_wid (k := cells + 40) (n := slots + 300) (by omega) (by omega) ?_
  exact K r po pn pl tx rp rl rs rm rn rz sv mm u fi t2 dm 0 sa ln pa le sk nu h fo hP.2
set_option maxRecDepth 100000 in
set_option maxHeartbeats 2000000 in
theorem c_44 {p : Program} {l : Launch} {e : Env} {s : State} {m : MethodId} {args : Array Value} {below : List Frame} {meth : Method} {c : Code} {cells slots : Nat} {Q : State → Prop} {nm : String} {g : xGt} {A : Nat → Prop} {b L i : Nat} {xs : Nat → Int32} {ap ad am : Nat → Nat} {ao : Nat} {r : xR} {po : Int32} {pn : Int32} {pl : Int32} {tx : Nat → Int32} {rp : Int32} {rl : Int32} {rs : Int32} {rm : Int32} {rn : Int32} {rz : Int32} {sv : xPl} {mm : xPl} {u : Nat → Int32} {fi : Nat → Int32} {t2 : Nat → Int32} {dm : Nat → Int32} {th : Int32} {sa : Int32} {ln : Int32} {pa : Int32} {le : Int32} {sk : Int32} {nu : Int32} {h : Int64} {fo : Nat → Int64} (C : xC p l s m args meth c cL_law 9 RL nm g.1 (xT g) A) (hX : va_X b L xs s s.heap) (hbl : b < s.heap.size) (hbA : ¬ A b) (hi : i + 6 ≤ L) (hL : L ≤ 3072) (hcC : cells + 40 ≤ room_1.cells) (hsC : slots + 300 ≤ room_1.slots) (H : RI r po pn pl tx sv mm u fi t2 sa ln) (K : LK p l e s m args below meth c g A ap ad am ao b i (cells + 40) (slots + 300) Q) : xW p l e room_1 s m args below meth c g.1 A 9 cells slots Q (wLaw g ap ad am ao r po pn pl tx rp rl rs rm rn rz sv mm u fi t2 dm th sa ln pa le sk nu h fo) [(4, .int (nI i)), (3, .ref ao), (2, .ref (am 0)), (1, .ref (ap 0)), (0, .ref b)] 2439 [] := by
  refine x_ws (ws' := ((wOu g ao fo) ++ ((wMo g am u fi t2 dm th sa ln pa le sk nu h) ++ (wCl g ap ad r po pn pl tx rp rl rs rm rn rz sv mm)))) rfl ?_
  refine x_aload_n C 3 rfl rfl dL_law_2439 ?_
  refine x_EV1 (w1 := (wOu g ao fo) ++ (wMo g am u fi t2 dm th sa ln pa le sk nu h)) (wc := (wCl g ap ad r po pn pl tx rp rl rs rm rn rz sv mm)) [] [] C (k_X6_failsafes l g ap ad r po pn pl tx rp rl rs rm rn rz sv mm H.clo) (List.append_assoc _ _ _).symm yV_X6_failsafes wML_L_304 6 rfl rfl rfl rfl (nle rfl) (nle rfl) (nle rfl) (rmc hcC (by omega)) (rmc hsC (by omega)) dL_law_2440 (fun E w h => h.elim) (fun r0 w0 h0 => ?_)
  have hP := P_failsafes r po pn pl tx rp rl rs rm rn rz sv mm u fi t2 dm th sa ln pa le sk nu h  H
  obtain ⟨rfl, rfl⟩ := h0
  refine x_ws (ws' := ((wOu g ao fo) ++ ((wMo g am u fi t2 dm th sa ln pa le sk nu h) ++ (wCl g ap ad r po pn pl tx rp rl rs rm rn rz sv mm)))) (List.append_assoc _ _ _) ?_
  refine x_st (st' := [.int r.jn]) rfl ?_
  refine x_aload_n C 2 rfl rfl dL_law_2443 ?_
  refine x_FV (w1 := (wOu g ao fo)) (wc := (wMo g am u fi t2 dm th sa ln pa le sk nu h)) (w2 := (wCl g ap ad r po pn pl tx rp rl rs rm rn rz sv mm)) [] [.int r.jn] ((wOu g ao fo) ++ ((wMo g am u fi t2 dm 0 sa ln pa le sk nu h) ++ (wCl g ap ad r po pn pl tx rp rl rs rm rn rz sv mm))) C (k_X7_failsafes l g am u fi t2 dm th sa ln pa le sk nu h H.hs H.hs6 H.hm) rfl yV_X7_failsafes wML_L_307 rfl 1 rfl rfl rfl rfl (nle rfl) (nle rfl) (nle rfl) (rmc hcC (by omega)) (rmc hsC (by omega)) dL_law_2444 ?_
  refine x_icmp_eq C 3131 (by decide) dL_law_2447 (fun _ => ?_) (fun hz => absurd hP.1 hz)
  refine x_wid (k := cells + 40) (n := slots + 300) (by omega) (by omega) ?_
  exact K r po pn pl tx rp rl rs rm rn rz sv mm u fi t2 dm 0 sa ln pa le sk nu h fo hP.2
set_option maxRecDepth 100000 in
set_option maxHeartbeats 2000000 in
theorem c_45 {p : Program} {l : Launch} {e : Env} {s : State} {m : MethodId} {args : Array Value} {below : List Frame} {meth : Method} {c : Code} {cells slots : Nat} {Q : State → Prop} {nm : String} {g : xGt} {A : Nat → Prop} {b L i : Nat} {xs : Nat → Int32} {ap ad am : Nat → Nat} {ao : Nat} {r : xR} {po : Int32} {pn : Int32} {pl : Int32} {tx : Nat → Int32} {rp : Int32} {rl : Int32} {rs : Int32} {rm : Int32} {rn : Int32} {rz : Int32} {sv : xPl} {mm : xPl} {u : Nat → Int32} {fi : Nat → Int32} {t2 : Nat → Int32} {dm : Nat → Int32} {th : Int32} {sa : Int32} {ln : Int32} {pa : Int32} {le : Int32} {sk : Int32} {nu : Int32} {h : Int64} {fo : Nat → Int64} (C : xC p l s m args meth c cL_law 9 RL nm g.1 (xT g) A) (hX : va_X b L xs s s.heap) (hbl : b < s.heap.size) (hbA : ¬ A b) (hi : i + 6 ≤ L) (hL : L ≤ 3072) (hcC : cells + 40 ≤ room_1.cells) (hsC : slots + 300 ≤ room_1.slots) (H : RI r po pn pl tx sv mm u fi t2 sa ln) (K : LK p l e s m args below meth c g A ap ad am ao b i (cells + 40) (slots + 300) Q) : xW p l e room_1 s m args below meth c g.1 A 9 cells slots Q (wLaw g ap ad am ao r po pn pl tx rp rl rs rm rn rz sv mm u fi t2 dm th sa ln pa le sk nu h fo) [(4, .int (nI i)), (3, .ref ao), (2, .ref (am 0)), (1, .ref (ap 0)), (0, .ref b)] 2452 [] := by
  refine x_ws (ws' := ((wOu g ao fo) ++ ((wMo g am u fi t2 dm th sa ln pa le sk nu h) ++ (wCl g ap ad r po pn pl tx rp rl rs rm rn rz sv mm)))) rfl ?_
  refine x_aload_n C 3 rfl rfl dL_law_2452 ?_
  refine x_aload_n C 4 rfl rfl dL_law_2453 ?_
  refine x_iload C 0 rfl dL_law_2454 ?_
  refine x_iconst C 1 (by decide) dL_law_2456 ?_
  refine x_iaddN C i 1 rfl rfl dL_law_2457 ?_
  refine x_sld C (i + 1) hX hbl hbA rfl (by omega) (by omega) dL_law_2458 ?_
  refine x_aload_n C 1 rfl rfl dL_law_2459 ?_
  refine x_callL (X := (wOu g ao fo)) (Y := (wMo g am u fi t2 dm th sa ln pa le sk nu h)) (Z := (wCl g ap ad r po pn pl tx rp rl rs rm rn rz sv mm)) [.ref (ap 0), .int (xs (i + 1)), .ref ao] [] C (k_L_reason l g ao fo ap ad r po pn pl tx rp rl rs rm rn rz sv mm (xs (i + 1)) H.clo) yH_L_reason wML_L_308 rfl rfl rfl (nle rfl) (nle rfl) (nle rfl) (rmc hcC (by omega)) (rmc hsC (by omega)) dL_law_2460 (fun r0 w0 h0 => ?_)
  have hP := P_reason r po pn pl tx rp rl rs rm rn rz sv mm u fi t2 dm th sa ln pa le sk nu h (xs (i + 1)) H
  rcases h0 with ⟨h1, rfl, w8, hw, rfl⟩ | ⟨E, cd, h1, hcd, rfl, rfl⟩
  · obtain rfl := hw
    obtain ⟨e1, e2, e3⟩ := hP.1 h1
    refine x_perm (ws' := ((wOu g ao (vp_updL fo 0 (Int32.toInt64 (sp_X6_reason r (xs (i + 1)))))) ++ ((wMo g am u fi t2 dm th sa ln pa le sk nu h) ++ (wCl g ap ad (r.set_dq (sp_cdm r.kp r.ke r.kr r.kt r.kh r.kc r.xn r.xs r.xv r.xh r.xo r.xc r.dq 6)) po pn pl tx rp rl rs rm rn rz sv mm)))) (List.perm_append_comm_assoc (wMo g am u fi t2 dm th sa ln pa le sk nu h) (wOu g ao (vp_updL fo 0 (Int32.toInt64 (sp_X6_reason r (xs (i + 1)))))) (wCl g ap ad (r.set_dq (sp_cdm r.kp r.ke r.kr r.kt r.kh r.kc r.xn r.xs r.xv r.xh r.xo r.xc r.dq 6)) po pn pl tx rp rl rs rm rn rz sv mm)) ?_
    refine x_st (st' := [.int 0]) rfl ?_
    refine x_istore C [(5, .int 0), (4, .int (nI i)), (3, .ref ao), (2, .ref (am 0)), (1, .ref (ap 0)), (0, .ref b)] rfl (by decide) dL_law_2463 ?_
    refine x_aload_n C 3 rfl rfl dL_law_2465 ?_
    refine x_aload_n C 5 rfl rfl dL_law_2466 ?_
    refine x_iload C 1 rfl dL_law_2467 ?_
    refine x_iconst C 1 (by decide) dL_law_2469 ?_
    refine x_iaddN C i 1 rfl rfl dL_law_2470 ?_
    refine x_sld C (i + 1) hX hbl hbA rfl (by omega) (by omega) dL_law_2471 ?_
    refine x_FV (w1 := (wOu g ao (vp_updL fo 0 (Int32.toInt64 (sp_X6_reason r (xs (i + 1))))))) (wc := (wMo g am u fi t2 dm th sa ln pa le sk nu h)) (w2 := (wCl g ap ad (r.set_dq (sp_cdm r.kp r.ke r.kr r.kt r.kh r.kc r.xn r.xs r.xv r.xh r.xo r.xc r.dq 6)) po pn pl tx rp rl rs rm rn rz sv mm)) [.int (xs (i + 1))] [] ((wOu g ao (vp_updL fo 0 (Int32.toInt64 (sp_X6_reason r (xs (i + 1)))))) ++ ((wMo g am u fi t2 (sp_X7_reason_dm u dm (xs (i + 1))) (sp_X7_reason_th (xs (i + 1))) sa ln pa le sk nu h) ++ (wCl g ap ad (r.set_dq (sp_cdm r.kp r.ke r.kr r.kt r.kh r.kc r.xn r.xs r.xv r.xh r.xo r.xc r.dq 6)) po pn pl tx rp rl rs rm rn rz sv mm))) C (k_X7_reason l g am u fi t2 dm th sa ln pa le sk nu h (xs (i + 1)) H.hs H.hs6 H.hm) rfl yV_X7_reason wML_L_310 rfl 1 rfl rfl rfl rfl (nle rfl) (nle rfl) (nle rfl) (rmc hcC (by omega)) (rmc hsC (by omega)) dL_law_2472 ?_
    refine x_istore C [(6, .int (sp_X7_reason u dm (xs (i + 1)))), (5, .int 0), (4, .int (nI i)), (3, .ref ao), (2, .ref (am 0)), (1, .ref (ap 0)), (0, .ref b)] rfl (by decide) dL_law_2475 ?_
    refine x_aload_n C 4 rfl rfl dL_law_2477 ?_
    refine x_FV (w1 := (wOu g ao (vp_updL fo 0 (Int32.toInt64 (sp_X6_reason r (xs (i + 1))))))) (wc := (wMo g am u fi t2 (sp_X7_reason_dm u dm (xs (i + 1))) (sp_X7_reason_th (xs (i + 1))) sa ln pa le sk nu h)) (w2 := (wCl g ap ad (r.set_dq (sp_cdm r.kp r.ke r.kr r.kt r.kh r.kc r.xn r.xs r.xv r.xh r.xo r.xc r.dq 6)) po pn pl tx rp rl rs rm rn rz sv mm)) [] [] ((wOu g ao (vp_updL fo 0 (Int32.toInt64 (sp_X6_reason r (xs (i + 1)))))) ++ ((wMo g am u fi t2 (sp_X7_reason_dm u dm (xs (i + 1))) (sp_X7_reason_th (xs (i + 1))) sa ln pa le sk nu h) ++ (wCl g ap ad (r.set_dq (sp_cdm r.kp r.ke r.kr r.kt r.kh r.kc r.xn r.xs r.xv r.xh r.xo r.xc r.dq 6)) po pn pl tx rp rl rs rm rn rz sv mm))) C (k_X7_thrown l g am u fi t2 (sp_X7_reason_dm u dm (xs (i + 1))) (sp_X7_reason_th (xs (i + 1))) sa ln pa le sk nu h) rfl yV_X7_thrown wML_L_154 rfl 1 rfl rfl rfl rfl (nle rfl) (nle rfl) (nle rfl) (rmc hcC (by omega)) (rmc hsC (by omega)) dL_law_2478 ?_
    refine x_iload C 1 rfl dL_law_2481 ?_
    refine x_icmp_eq C 2488 (by decide) dL_law_2483 (fun _ => ?_) (fun hz => absurd e1 hz)
    refine x_iload C 1 rfl dL_law_2488 ?_
    refine x_if_ne C 2505 (by decide) dL_law_2490 (fun hz => absurd (by decide) hz) (fun _ => ?_)
    refine x_aload_n C 3 rfl rfl dL_law_2493 ?_
    refine x_iconst C 0 (by decide) dL_law_2494 ?_
    refine x_lald (f := (vp_updL fo 0 (Int32.toInt64 (sp_X6_reason r (xs (i + 1)))))) C 0 3 rfl rfl in1 dL_law_2495 ?_
    refine x_st (st' := [.long (Int32.toInt64 (sp_X6_reason r (xs (i + 1))))]) rfl ?_
    refine x_iload C 0 rfl dL_law_2496 ?_
    refine x_i2l C dL_law_2498 ?_
    refine x_lcmp C dL_law_2499 ?_
    refine x_if_eq C 2505 (by decide) dL_law_2500 (fun _ => ?_) (fun hz => absurd (lgz (congrArg Int32.toInt64 e2)) hz)
    refine x_goto C 3131 (by decide) dL_law_2505 ?_
    refine x_lv [(4, .int (nI i)), (3, .ref ao), (2, .ref (am 0)), (1, .ref (ap 0)), (0, .ref b)] [2, 3, 4, 5, 6] rfl ?_
    refine x_wid (k := cells + 40) (n := slots + 300) (by omega) (by omega) ?_
    exact K (r.set_dq (sp_cdm r.kp r.ke r.kr r.kt r.kh r.kc r.xn r.xs r.xv r.xh r.xo r.xc r.dq 6)) po pn pl tx rp rl rs rm rn rz sv mm u fi t2 (sp_X7_reason_dm u dm (xs (i + 1))) (sp_X7_reason_th (xs (i + 1))) sa ln pa le sk nu h (vp_updL fo 0 (Int32.toInt64 (sp_X6_reason r (xs (i + 1))))) e3
  · obtain ⟨e1, e3⟩ := hP.2 E cd h1 hcd
    refine x_perm (ws' := ((wOu g ao fo) ++ ((wMo g am u fi t2 dm th sa ln pa le sk nu h) ++ (wCl g ap ad r po pn pl tx rp rl rs rm rn rz sv mm)))) (List.perm_append_comm_assoc (wMo g am u fi t2 dm th sa ln pa le sk nu h) (wOu g ao fo) (wCl g ap ad r po pn pl tx rp rl rs rm rn rz sv mm)) ?_
    refine x_st (st' := [.int cd]) rfl ?_
    refine x_istore C [(5, .int cd), (4, .int (nI i)), (3, .ref ao), (2, .ref (am 0)), (1, .ref (ap 0)), (0, .ref b)] rfl (by decide) dL_law_2463 ?_
    refine x_aload_n C 3 rfl rfl dL_law_2465 ?_
    refine x_aload_n C 5 rfl rfl dL_law_2466 ?_
    refine x_iload C 1 rfl dL_law_2467 ?_
    refine x_iconst C 1 (by decide) dL_law_2469 ?_
    refine x_iaddN C i 1 rfl rfl dL_law_2470 ?_
    refine x_sld C (i + 1) hX hbl hbA rfl (by omega) (by omega) dL_law_2471 ?_
    refine x_FV (w1 := (wOu g ao fo)) (wc := (wMo g am u fi t2 dm th sa ln pa le sk nu h)) (w2 := (wCl g ap ad r po pn pl tx rp rl rs rm rn rz sv mm)) [.int (xs (i + 1))] [] ((wOu g ao fo) ++ ((wMo g am u fi t2 (sp_X7_reason_dm u dm (xs (i + 1))) (sp_X7_reason_th (xs (i + 1))) sa ln pa le sk nu h) ++ (wCl g ap ad r po pn pl tx rp rl rs rm rn rz sv mm))) C (k_X7_reason l g am u fi t2 dm th sa ln pa le sk nu h (xs (i + 1)) H.hs H.hs6 H.hm) rfl yV_X7_reason wML_L_310 rfl 1 rfl rfl rfl rfl (nle rfl) (nle rfl) (nle rfl) (rmc hcC (by omega)) (rmc hsC (by omega)) dL_law_2472 ?_
    refine x_istore C [(6, .int (sp_X7_reason u dm (xs (i + 1)))), (5, .int cd), (4, .int (nI i)), (3, .ref ao), (2, .ref (am 0)), (1, .ref (ap 0)), (0, .ref b)] rfl (by decide) dL_law_2475 ?_
    refine x_aload_n C 4 rfl rfl dL_law_2477 ?_
    refine x_FV (w1 := (wOu g ao fo)) (wc := (wMo g am u fi t2 (sp_X7_reason_dm u dm (xs (i + 1))) (sp_X7_reason_th (xs (i + 1))) sa ln pa le sk nu h)) (w2 := (wCl g ap ad r po pn pl tx rp rl rs rm rn rz sv mm)) [] [] ((wOu g ao fo) ++ ((wMo g am u fi t2 (sp_X7_reason_dm u dm (xs (i + 1))) (sp_X7_reason_th (xs (i + 1))) sa ln pa le sk nu h) ++ (wCl g ap ad r po pn pl tx rp rl rs rm rn rz sv mm))) C (k_X7_thrown l g am u fi t2 (sp_X7_reason_dm u dm (xs (i + 1))) (sp_X7_reason_th (xs (i + 1))) sa ln pa le sk nu h) rfl yV_X7_thrown wML_L_154 rfl 1 rfl rfl rfl rfl (nle rfl) (nle rfl) (nle rfl) (rmc hcC (by omega)) (rmc hsC (by omega)) dL_law_2478 ?_
    refine x_iload C 1 rfl dL_law_2481 ?_
    refine x_icmp_eq C 2488 (by decide) dL_law_2483 (fun _ => ?_) (fun hz => absurd e1 hz)
    refine x_iload C 1 rfl dL_law_2488 ?_
    refine x_if_ne C 2505 (by decide) dL_law_2490 (fun _ => ?_) (fun hz => absurd hz (cd0 hcd))
    refine x_goto C 3131 (by decide) dL_law_2505 ?_
    refine x_lv [(4, .int (nI i)), (3, .ref ao), (2, .ref (am 0)), (1, .ref (ap 0)), (0, .ref b)] [2, 3, 4, 5, 6] rfl ?_
    refine x_wid (k := cells + 40) (n := slots + 300) (by omega) (by omega) ?_
    exact K r po pn pl tx rp rl rs rm rn rz sv mm u fi t2 (sp_X7_reason_dm u dm (xs (i + 1))) (sp_X7_reason_th (xs (i + 1))) sa ln pa le sk nu h fo e3
set_option maxRecDepth 100000 in
set_option maxHeartbeats 2000000 in
theorem c_46 {p : Program} {l : Launch} {e : Env} {s : State} {m : MethodId} {args : Array Value} {below : List Frame} {meth : Method} {c : Code} {cells slots : Nat} {Q : State → Prop} {nm : String} {g : xGt} {A : Nat → Prop} {b L i : Nat} {xs : Nat → Int32} {ap ad am : Nat → Nat} {ao : Nat} {r : xR} {po : Int32} {pn : Int32} {pl : Int32} {tx : Nat → Int32} {rp : Int32} {rl : Int32} {rs : Int32} {rm : Int32} {rn : Int32} {rz : Int32} {sv : xPl} {mm : xPl} {u : Nat → Int32} {fi : Nat → Int32} {t2 : Nat → Int32} {dm : Nat → Int32} {th : Int32} {sa : Int32} {ln : Int32} {pa : Int32} {le : Int32} {sk : Int32} {nu : Int32} {h : Int64} {fo : Nat → Int64} (C : xC p l s m args meth c cL_law 9 RL nm g.1 (xT g) A) (hX : va_X b L xs s s.heap) (hbl : b < s.heap.size) (hbA : ¬ A b) (hi : i + 6 ≤ L) (hL : L ≤ 3072) (hcC : cells + 40 ≤ room_1.cells) (hsC : slots + 300 ≤ room_1.slots) (H : RI r po pn pl tx sv mm u fi t2 sa ln) (K : LK p l e s m args below meth c g A ap ad am ao b i (cells + 40) (slots + 300) Q) : xW p l e room_1 s m args below meth c g.1 A 9 cells slots Q (wLaw g ap ad am ao r po pn pl tx rp rl rs rm rn rz sv mm u fi t2 dm th sa ln pa le sk nu h fo) [(4, .int (nI i)), (3, .ref ao), (2, .ref (am 0)), (1, .ref (ap 0)), (0, .ref b)] 2508 [] := by
  refine x_ws (ws' := ((wOu g ao fo) ++ ((wMo g am u fi t2 dm th sa ln pa le sk nu h) ++ (wCl g ap ad r po pn pl tx rp rl rs rm rn rz sv mm)))) rfl ?_
  refine x_aload_n C 3 rfl rfl dL_law_2508 ?_
  refine x_aload_n C 4 rfl rfl dL_law_2509 ?_
  refine x_iload C 0 rfl dL_law_2510 ?_
  refine x_iconst C 1 (by decide) dL_law_2512 ?_
  refine x_iaddN C i 1 rfl rfl dL_law_2513 ?_
  refine x_sld C (i + 1) hX hbl hbA rfl (by omega) (by omega) dL_law_2514 ?_
  refine x_aload_n C 1 rfl rfl dL_law_2515 ?_
  refine x_callL (X := (wOu g ao fo)) (Y := (wMo g am u fi t2 dm th sa ln pa le sk nu h)) (Z := (wCl g ap ad r po pn pl tx rp rl rs rm rn rz sv mm)) [.ref (ap 0), .int (xs (i + 1)), .ref ao] [] C (k_L_framesToAim l g ao fo ap ad r po pn pl tx rp rl rs rm rn rz sv mm (xs (i + 1)) H.clo) yH_L_framesToAim wML_L_311 rfl rfl rfl (nle rfl) (nle rfl) (nle rfl) (rmc hcC (by omega)) (rmc hsC (by omega)) dL_law_2516 (fun r0 w0 h0 => ?_)
  have hP := P_framesToAim r po pn pl tx rp rl rs rm rn rz sv mm u fi t2 dm th sa ln pa le sk nu h (xs (i + 1)) H
  rcases h0 with ⟨h1, rfl, w8, hw, rfl⟩ | ⟨E, cd, h1, hcd, rfl, rfl⟩
  · obtain rfl := hw
    obtain ⟨e1, e2, e3⟩ := hP.1 h1
    refine x_perm (ws' := ((wOu g ao (vp_updL fo 0 (Int32.toInt64 (sp_X6_framesToAim r (xs (i + 1)))))) ++ ((wMo g am u fi t2 dm th sa ln pa le sk nu h) ++ (wCl g ap ad (r.set_dq (sp_cdm r.kp r.ke r.kr r.kt r.kh r.kc r.xn r.xs r.xv r.xh r.xo r.xc r.dq 6)) po pn pl tx rp rl rs rm rn rz sv mm)))) (List.perm_append_comm_assoc (wMo g am u fi t2 dm th sa ln pa le sk nu h) (wOu g ao (vp_updL fo 0 (Int32.toInt64 (sp_X6_framesToAim r (xs (i + 1)))))) (wCl g ap ad (r.set_dq (sp_cdm r.kp r.ke r.kr r.kt r.kh r.kc r.xn r.xs r.xv r.xh r.xo r.xc r.dq 6)) po pn pl tx rp rl rs rm rn rz sv mm)) ?_
    refine x_st (st' := [.int 0]) rfl ?_
    refine x_istore C [(5, .int 0), (4, .int (nI i)), (3, .ref ao), (2, .ref (am 0)), (1, .ref (ap 0)), (0, .ref b)] rfl (by decide) dL_law_2519 ?_
    refine x_aload_n C 3 rfl rfl dL_law_2521 ?_
    refine x_aload_n C 5 rfl rfl dL_law_2522 ?_
    refine x_iload C 1 rfl dL_law_2523 ?_
    refine x_iconst C 1 (by decide) dL_law_2525 ?_
    refine x_iaddN C i 1 rfl rfl dL_law_2526 ?_
    refine x_sld C (i + 1) hX hbl hbA rfl (by omega) (by omega) dL_law_2527 ?_
    refine x_FV (w1 := (wOu g ao (vp_updL fo 0 (Int32.toInt64 (sp_X6_framesToAim r (xs (i + 1))))))) (wc := (wMo g am u fi t2 dm th sa ln pa le sk nu h)) (w2 := (wCl g ap ad (r.set_dq (sp_cdm r.kp r.ke r.kr r.kt r.kh r.kc r.xn r.xs r.xv r.xh r.xo r.xc r.dq 6)) po pn pl tx rp rl rs rm rn rz sv mm)) [.int (xs (i + 1))] [] ((wOu g ao (vp_updL fo 0 (Int32.toInt64 (sp_X6_framesToAim r (xs (i + 1)))))) ++ ((wMo g am u fi t2 (sp_X7_framesToAim_dm u dm (xs (i + 1))) (sp_X7_framesToAim_th (xs (i + 1))) sa ln pa le sk nu h) ++ (wCl g ap ad (r.set_dq (sp_cdm r.kp r.ke r.kr r.kt r.kh r.kc r.xn r.xs r.xv r.xh r.xo r.xc r.dq 6)) po pn pl tx rp rl rs rm rn rz sv mm))) C (k_X7_framesToAim l g am u fi t2 dm th sa ln pa le sk nu h (xs (i + 1)) H.hs H.hs6 H.hm H.hsp) rfl yV_X7_framesToAim wML_L_313 rfl 1 rfl rfl rfl rfl (nle rfl) (nle rfl) (nle rfl) (rmc hcC (by omega)) (rmc hsC (by omega)) dL_law_2528 ?_
    refine x_istore C [(6, .int (sp_X7_framesToAim u dm (xs (i + 1)))), (5, .int 0), (4, .int (nI i)), (3, .ref ao), (2, .ref (am 0)), (1, .ref (ap 0)), (0, .ref b)] rfl (by decide) dL_law_2531 ?_
    refine x_aload_n C 4 rfl rfl dL_law_2533 ?_
    refine x_FV (w1 := (wOu g ao (vp_updL fo 0 (Int32.toInt64 (sp_X6_framesToAim r (xs (i + 1))))))) (wc := (wMo g am u fi t2 (sp_X7_framesToAim_dm u dm (xs (i + 1))) (sp_X7_framesToAim_th (xs (i + 1))) sa ln pa le sk nu h)) (w2 := (wCl g ap ad (r.set_dq (sp_cdm r.kp r.ke r.kr r.kt r.kh r.kc r.xn r.xs r.xv r.xh r.xo r.xc r.dq 6)) po pn pl tx rp rl rs rm rn rz sv mm)) [] [] ((wOu g ao (vp_updL fo 0 (Int32.toInt64 (sp_X6_framesToAim r (xs (i + 1)))))) ++ ((wMo g am u fi t2 (sp_X7_framesToAim_dm u dm (xs (i + 1))) (sp_X7_framesToAim_th (xs (i + 1))) sa ln pa le sk nu h) ++ (wCl g ap ad (r.set_dq (sp_cdm r.kp r.ke r.kr r.kt r.kh r.kc r.xn r.xs r.xv r.xh r.xo r.xc r.dq 6)) po pn pl tx rp rl rs rm rn rz sv mm))) C (k_X7_thrown l g am u fi t2 (sp_X7_framesToAim_dm u dm (xs (i + 1))) (sp_X7_framesToAim_th (xs (i + 1))) sa ln pa le sk nu h) rfl yV_X7_thrown wML_L_154 rfl 1 rfl rfl rfl rfl (nle rfl) (nle rfl) (nle rfl) (rmc hcC (by omega)) (rmc hsC (by omega)) dL_law_2534 ?_
    refine x_iload C 1 rfl dL_law_2537 ?_
    refine x_icmp_eq C 2544 (by decide) dL_law_2539 (fun _ => ?_) (fun hz => absurd e1 hz)
    refine x_iload C 1 rfl dL_law_2544 ?_
    refine x_if_ne C 2561 (by decide) dL_law_2546 (fun hz => absurd (by decide) hz) (fun _ => ?_)
    refine x_aload_n C 3 rfl rfl dL_law_2549 ?_
    refine x_iconst C 0 (by decide) dL_law_2550 ?_
    refine x_lald (f := (vp_updL fo 0 (Int32.toInt64 (sp_X6_framesToAim r (xs (i + 1)))))) C 0 3 rfl rfl in1 dL_law_2551 ?_
    refine x_st (st' := [.long (Int32.toInt64 (sp_X6_framesToAim r (xs (i + 1))))]) rfl ?_
    refine x_iload C 0 rfl dL_law_2552 ?_
    refine x_i2l C dL_law_2554 ?_
    refine x_lcmp C dL_law_2555 ?_
    refine x_if_eq C 2561 (by decide) dL_law_2556 (fun _ => ?_) (fun hz => absurd (lgz (congrArg Int32.toInt64 e2)) hz)
    refine x_goto C 3131 (by decide) dL_law_2561 ?_
    refine x_lv [(4, .int (nI i)), (3, .ref ao), (2, .ref (am 0)), (1, .ref (ap 0)), (0, .ref b)] [2, 3, 4, 5, 6] rfl ?_
    refine x_wid (k := cells + 40) (n := slots + 300) (by omega) (by omega) ?_
    exact K (r.set_dq (sp_cdm r.kp r.ke r.kr r.kt r.kh r.kc r.xn r.xs r.xv r.xh r.xo r.xc r.dq 6)) po pn pl tx rp rl rs rm rn rz sv mm u fi t2 (sp_X7_framesToAim_dm u dm (xs (i + 1))) (sp_X7_framesToAim_th (xs (i + 1))) sa ln pa le sk nu h (vp_updL fo 0 (Int32.toInt64 (sp_X6_framesToAim r (xs (i + 1))))) e3
  · obtain ⟨e1, e3⟩ := hP.2 E cd h1 hcd
    refine x_perm (ws' := ((wOu g ao fo) ++ ((wMo g am u fi t2 dm th sa ln pa le sk nu h) ++ (wCl g ap ad r po pn pl tx rp rl rs rm rn rz sv mm)))) (List.perm_append_comm_assoc (wMo g am u fi t2 dm th sa ln pa le sk nu h) (wOu g ao fo) (wCl g ap ad r po pn pl tx rp rl rs rm rn rz sv mm)) ?_
    refine x_st (st' := [.int cd]) rfl ?_
    refine x_istore C [(5, .int cd), (4, .int (nI i)), (3, .ref ao), (2, .ref (am 0)), (1, .ref (ap 0)), (0, .ref b)] rfl (by decide) dL_law_2519 ?_
    refine x_aload_n C 3 rfl rfl dL_law_2521 ?_
    refine x_aload_n C 5 rfl rfl dL_law_2522 ?_
    refine x_iload C 1 rfl dL_law_2523 ?_
    refine x_iconst C 1 (by decide) dL_law_2525 ?_
    refine x_iaddN C i 1 rfl rfl dL_law_2526 ?_
    refine x_sld C (i + 1) hX hbl hbA rfl (by omega) (by omega) dL_law_2527 ?_
    refine x_FV (w1 := (wOu g ao fo)) (wc := (wMo g am u fi t2 dm th sa ln pa le sk nu h)) (w2 := (wCl g ap ad r po pn pl tx rp rl rs rm rn rz sv mm)) [.int (xs (i + 1))] [] ((wOu g ao fo) ++ ((wMo g am u fi t2 (sp_X7_framesToAim_dm u dm (xs (i + 1))) (sp_X7_framesToAim_th (xs (i + 1))) sa ln pa le sk nu h) ++ (wCl g ap ad r po pn pl tx rp rl rs rm rn rz sv mm))) C (k_X7_framesToAim l g am u fi t2 dm th sa ln pa le sk nu h (xs (i + 1)) H.hs H.hs6 H.hm H.hsp) rfl yV_X7_framesToAim wML_L_313 rfl 1 rfl rfl rfl rfl (nle rfl) (nle rfl) (nle rfl) (rmc hcC (by omega)) (rmc hsC (by omega)) dL_law_2528 ?_
    refine x_istore C [(6, .int (sp_X7_framesToAim u dm (xs (i + 1)))), (5, .int cd), (4, .int (nI i)), (3, .ref ao), (2, .ref (am 0)), (1, .ref (ap 0)), (0, .ref b)] rfl (by decide) dL_law_2531 ?_
    refine x_aload_n C 4 rfl rfl dL_law_2533 ?_
    refine x_FV (w1 := (wOu g ao fo)) (wc := (wMo g am u fi t2 (sp_X7_framesToAim_dm u dm (xs (i + 1))) (sp_X7_framesToAim_th (xs (i + 1))) sa ln pa le sk nu h)) (w2 := (wCl g ap ad r po pn pl tx rp rl rs rm rn rz sv mm)) [] [] ((wOu g ao fo) ++ ((wMo g am u fi t2 (sp_X7_framesToAim_dm u dm (xs (i + 1))) (sp_X7_framesToAim_th (xs (i + 1))) sa ln pa le sk nu h) ++ (wCl g ap ad r po pn pl tx rp rl rs rm rn rz sv mm))) C (k_X7_thrown l g am u fi t2 (sp_X7_framesToAim_dm u dm (xs (i + 1))) (sp_X7_framesToAim_th (xs (i + 1))) sa ln pa le sk nu h) rfl yV_X7_thrown wML_L_154 rfl 1 rfl rfl rfl rfl (nle rfl) (nle rfl) (nle rfl) (rmc hcC (by omega)) (rmc hsC (by omega)) dL_law_2534 ?_
    refine x_iload C 1 rfl dL_law_2537 ?_
    refine x_icmp_eq C 2544 (by decide) dL_law_2539 (fun _ => ?_) (fun hz => absurd e1 hz)
    refine x_iload C 1 rfl dL_law_2544 ?_
    refine x_if_ne C 2561 (by decide) dL_law_2546 (fun _ => ?_) (fun hz => absurd hz (cd0 hcd))
    refine x_goto C 3131 (by decide) dL_law_2561 ?_
    refine x_lv [(4, .int (nI i)), (3, .ref ao), (2, .ref (am 0)), (1, .ref (ap 0)), (0, .ref b)] [2, 3, 4, 5, 6] rfl ?_
    refine x_wid (k := cells + 40) (n := slots + 300) (by omega) (by omega) ?_
    exact K r po pn pl tx rp rl rs rm rn rz sv mm u fi t2 (sp_X7_framesToAim_dm u dm (xs (i + 1))) (sp_X7_framesToAim_th (xs (i + 1))) sa ln pa le sk nu h fo e3
set_option maxRecDepth 100000 in
set_option maxHeartbeats 2000000 in
theorem c_47 {p : Program} {l : Launch} {e : Env} {s : State} {m : MethodId} {args : Array Value} {below : List Frame} {meth : Method} {c : Code} {cells slots : Nat} {Q : State → Prop} {nm : String} {g : xGt} {A : Nat → Prop} {b L i : Nat} {xs : Nat → Int32} {ap ad am : Nat → Nat} {ao : Nat} {r : xR} {po : Int32} {pn : Int32} {pl : Int32} {tx : Nat → Int32} {rp : Int32} {rl : Int32} {rs : Int32} {rm : Int32} {rn : Int32} {rz : Int32} {sv : xPl} {mm : xPl} {u : Nat → Int32} {fi : Nat → Int32} {t2 : Nat → Int32} {dm : Nat → Int32} {th : Int32} {sa : Int32} {ln : Int32} {pa : Int32} {le : Int32} {sk : Int32} {nu : Int32} {h : Int64} {fo : Nat → Int64} (C : xC p l s m args meth c cL_law 9 RL nm g.1 (xT g) A) (hX : va_X b L xs s s.heap) (hbl : b < s.heap.size) (hbA : ¬ A b) (hi : i + 6 ≤ L) (hL : L ≤ 3072) (hcC : cells + 40 ≤ room_1.cells) (hsC : slots + 300 ≤ room_1.slots) (H : RI r po pn pl tx sv mm u fi t2 sa ln) (K : LK p l e s m args below meth c g A ap ad am ao b i (cells + 40) (slots + 300) Q) : xW p l e room_1 s m args below meth c g.1 A 9 cells slots Q (wLaw g ap ad am ao r po pn pl tx rp rl rs rm rn rz sv mm u fi t2 dm th sa ln pa le sk nu h fo) [(4, .int (nI i)), (3, .ref ao), (2, .ref (am 0)), (1, .ref (ap 0)), (0, .ref b)] 2564 [] := by
  refine x_ws (ws' := ((wOu g ao fo) ++ ((wMo g am u fi t2 dm th sa ln pa le sk nu h) ++ (wCl g ap ad r po pn pl tx rp rl rs rm rn rz sv mm)))) rfl ?_
  refine x_aload_n C 3 rfl rfl dL_law_2564 ?_
  refine x_aload_n C 4 rfl rfl dL_law_2565 ?_
  refine x_iload C 0 rfl dL_law_2566 ?_
  refine x_iconst C 1 (by decide) dL_law_2568 ?_
  refine x_iaddN C i 1 rfl rfl dL_law_2569 ?_
  refine x_sld C (i + 1) hX hbl hbA rfl (by omega) (by omega) dL_law_2570 ?_
  refine x_aload_n C 4 rfl rfl dL_law_2571 ?_
  refine x_iload C 0 rfl dL_law_2572 ?_
  refine x_iconst C 2 (by decide) dL_law_2574 ?_
  refine x_iaddN C i 2 rfl rfl dL_law_2575 ?_
  refine x_sld C (i + 2) hX hbl hbA rfl (by omega) (by omega) dL_law_2576 ?_
  refine x_aload_n C 4 rfl rfl dL_law_2577 ?_
  refine x_iload C 0 rfl dL_law_2578 ?_
  refine x_iconst C 3 (by decide) dL_law_2580 ?_
  refine x_iaddN C i 3 rfl rfl dL_law_2581 ?_
  refine x_sld C (i + 3) hX hbl hbA rfl (by omega) (by omega) dL_law_2582 ?_
  refine x_aload_n C 1 rfl rfl dL_law_2583 ?_
  refine x_callL (X := (wOu g ao fo)) (Y := (wMo g am u fi t2 dm th sa ln pa le sk nu h)) (Z := (wCl g ap ad r po pn pl tx rp rl rs rm rn rz sv mm)) [.ref (ap 0), .int (xs (i + 1)), .int (xs (i + 2)), .int (xs (i + 3)), .ref ao] [] C (k_L_aimIfMoved l g ao fo ap ad r po pn pl tx rp rl rs rm rn rz sv mm (xs (i + 1)) (xs (i + 2)) (xs (i + 3)) H.clo) yH_L_aimIfMoved wML_L_314 rfl rfl rfl (nle rfl) (nle rfl) (nle rfl) (rmc hcC (by omega)) (rmc hsC (by omega)) dL_law_2584 (fun r0 w0 h0 => ?_)
  have hP := P_aimIfMoved r po pn pl tx rp rl rs rm rn rz sv mm u fi t2 dm th sa ln pa le sk nu h (xs (i + 1)) (xs (i + 2)) (xs (i + 3)) H
  rcases h0 with ⟨h1, rfl, w8, hw, rfl⟩ | ⟨E, cd, h1, hcd, rfl, rfl⟩
  · obtain rfl := hw
    obtain ⟨e1, e2, e3⟩ := hP.1 h1
    refine x_perm (ws' := ((wOu g ao (vp_updL fo 0 (Int32.toInt64 (sp_X6_aimIfMoved r (xs (i + 1)) (xs (i + 2)) (xs (i + 3)))))) ++ ((wMo g am u fi t2 dm th sa ln pa le sk nu h) ++ (wCl g ap ad (xRk (sp_X6_aimIfMoved_kp r (xs (i + 1)) (xs (i + 2))) r.ke r.kr r.kt r.kh r.kc r.xn r.xs r.xv r.xh r.xo r.xc r.vd r.vn r.vl r.vu r.vs r.vm r.vp r.vt r.va r.vw r.jd r.jb r.jc r.js r.jl r.jx r.ji r.jf r.jn (sp_X6_aimIfMoved_dq r (xs (i + 1)) (xs (i + 2)))) po pn pl tx rp rl rs rm rn rz sv mm)))) (List.perm_append_comm_assoc (wMo g am u fi t2 dm th sa ln pa le sk nu h) (wOu g ao (vp_updL fo 0 (Int32.toInt64 (sp_X6_aimIfMoved r (xs (i + 1)) (xs (i + 2)) (xs (i + 3)))))) (wCl g ap ad (xRk (sp_X6_aimIfMoved_kp r (xs (i + 1)) (xs (i + 2))) r.ke r.kr r.kt r.kh r.kc r.xn r.xs r.xv r.xh r.xo r.xc r.vd r.vn r.vl r.vu r.vs r.vm r.vp r.vt r.va r.vw r.jd r.jb r.jc r.js r.jl r.jx r.ji r.jf r.jn (sp_X6_aimIfMoved_dq r (xs (i + 1)) (xs (i + 2)))) po pn pl tx rp rl rs rm rn rz sv mm)) ?_
    refine x_st (st' := [.int 0]) rfl ?_
    refine x_istore C [(5, .int 0), (4, .int (nI i)), (3, .ref ao), (2, .ref (am 0)), (1, .ref (ap 0)), (0, .ref b)] rfl (by decide) dL_law_2587 ?_
    refine x_aload_n C 3 rfl rfl dL_law_2589 ?_
    refine x_aload_n C 5 rfl rfl dL_law_2590 ?_
    refine x_iload C 1 rfl dL_law_2591 ?_
    refine x_iconst C 1 (by decide) dL_law_2593 ?_
    refine x_iaddN C i 1 rfl rfl dL_law_2594 ?_
    refine x_sld C (i + 1) hX hbl hbA rfl (by omega) (by omega) dL_law_2595 ?_
    refine x_aload_n C 5 rfl rfl dL_law_2596 ?_
    refine x_iload C 1 rfl dL_law_2597 ?_
    refine x_iconst C 2 (by decide) dL_law_2599 ?_
    refine x_iaddN C i 2 rfl rfl dL_law_2600 ?_
    refine x_sld C (i + 2) hX hbl hbA rfl (by omega) (by omega) dL_law_2601 ?_
    refine x_aload_n C 5 rfl rfl dL_law_2602 ?_
    refine x_iload C 1 rfl dL_law_2603 ?_
    refine x_iconst C 3 (by decide) dL_law_2605 ?_
    refine x_iaddN C i 3 rfl rfl dL_law_2606 ?_
    refine x_sld C (i + 3) hX hbl hbA rfl (by omega) (by omega) dL_law_2607 ?_
    refine x_FV (w1 := (wOu g ao (vp_updL fo 0 (Int32.toInt64 (sp_X6_aimIfMoved r (xs (i + 1)) (xs (i + 2)) (xs (i + 3))))))) (wc := (wMo g am u fi t2 dm th sa ln pa le sk nu h)) (w2 := (wCl g ap ad (xRk (sp_X6_aimIfMoved_kp r (xs (i + 1)) (xs (i + 2))) r.ke r.kr r.kt r.kh r.kc r.xn r.xs r.xv r.xh r.xo r.xc r.vd r.vn r.vl r.vu r.vs r.vm r.vp r.vt r.va r.vw r.jd r.jb r.jc r.js r.jl r.jx r.ji r.jf r.jn (sp_X6_aimIfMoved_dq r (xs (i + 1)) (xs (i + 2)))) po pn pl tx rp rl rs rm rn rz sv mm)) [.int (xs (i + 1)), .int (xs (i + 2)), .int (xs (i + 3))] [] ((wOu g ao (vp_updL fo 0 (Int32.toInt64 (sp_X6_aimIfMoved r (xs (i + 1)) (xs (i + 2)) (xs (i + 3)))))) ++ ((wMo g am (sp_X7_aimIfMoved_s u (xs (i + 1)) (xs (i + 2)) (xs (i + 3))) fi t2 (sp_X7_aimIfMoved_dm u dm (xs (i + 1)) (xs (i + 2)) (xs (i + 3))) (sp_X7_aimIfMoved_th (xs (i + 1)) (xs (i + 2)) (xs (i + 3))) sa ln pa le sk nu h) ++ (wCl g ap ad (xRk (sp_X6_aimIfMoved_kp r (xs (i + 1)) (xs (i + 2))) r.ke r.kr r.kt r.kh r.kc r.xn r.xs r.xv r.xh r.xo r.xc r.vd r.vn r.vl r.vu r.vs r.vm r.vp r.vt r.va r.vw r.jd r.jb r.jc r.js r.jl r.jx r.ji r.jf r.jn (sp_X6_aimIfMoved_dq r (xs (i + 1)) (xs (i + 2)))) po pn pl tx rp rl rs rm rn rz sv mm))) C (k_X7_aimIfMoved l g am u fi t2 dm th sa ln pa le sk nu h (xs (i + 1)) (xs (i + 2)) (xs (i + 3)) H.hs H.hs6 H.hm) rfl yV_X7_aimIfMoved wML_L_316 rfl 1 rfl rfl rfl rfl (nle rfl) (nle rfl) (nle rfl) (rmc hcC (by omega)) (rmc hsC (by omega)) dL_law_2608 ?_
    refine x_istore C [(6, .int (sp_X7_aimIfMoved u dm (xs (i + 1)) (xs (i + 2)) (xs (i + 3)))), (5, .int 0), (4, .int (nI i)), (3, .ref ao), (2, .ref (am 0)), (1, .ref (ap 0)), (0, .ref b)] rfl (by decide) dL_law_2611 ?_
    refine x_aload_n C 4 rfl rfl dL_law_2613 ?_
    refine x_FV (w1 := (wOu g ao (vp_updL fo 0 (Int32.toInt64 (sp_X6_aimIfMoved r (xs (i + 1)) (xs (i + 2)) (xs (i + 3))))))) (wc := (wMo g am (sp_X7_aimIfMoved_s u (xs (i + 1)) (xs (i + 2)) (xs (i + 3))) fi t2 (sp_X7_aimIfMoved_dm u dm (xs (i + 1)) (xs (i + 2)) (xs (i + 3))) (sp_X7_aimIfMoved_th (xs (i + 1)) (xs (i + 2)) (xs (i + 3))) sa ln pa le sk nu h)) (w2 := (wCl g ap ad (xRk (sp_X6_aimIfMoved_kp r (xs (i + 1)) (xs (i + 2))) r.ke r.kr r.kt r.kh r.kc r.xn r.xs r.xv r.xh r.xo r.xc r.vd r.vn r.vl r.vu r.vs r.vm r.vp r.vt r.va r.vw r.jd r.jb r.jc r.js r.jl r.jx r.ji r.jf r.jn (sp_X6_aimIfMoved_dq r (xs (i + 1)) (xs (i + 2)))) po pn pl tx rp rl rs rm rn rz sv mm)) [] [] ((wOu g ao (vp_updL fo 0 (Int32.toInt64 (sp_X6_aimIfMoved r (xs (i + 1)) (xs (i + 2)) (xs (i + 3)))))) ++ ((wMo g am (sp_X7_aimIfMoved_s u (xs (i + 1)) (xs (i + 2)) (xs (i + 3))) fi t2 (sp_X7_aimIfMoved_dm u dm (xs (i + 1)) (xs (i + 2)) (xs (i + 3))) (sp_X7_aimIfMoved_th (xs (i + 1)) (xs (i + 2)) (xs (i + 3))) sa ln pa le sk nu h) ++ (wCl g ap ad (xRk (sp_X6_aimIfMoved_kp r (xs (i + 1)) (xs (i + 2))) r.ke r.kr r.kt r.kh r.kc r.xn r.xs r.xv r.xh r.xo r.xc r.vd r.vn r.vl r.vu r.vs r.vm r.vp r.vt r.va r.vw r.jd r.jb r.jc r.js r.jl r.jx r.ji r.jf r.jn (sp_X6_aimIfMoved_dq r (xs (i + 1)) (xs (i + 2)))) po pn pl tx rp rl rs rm rn rz sv mm))) C (k_X7_thrown l g am (sp_X7_aimIfMoved_s u (xs (i + 1)) (xs (i + 2)) (xs (i + 3))) fi t2 (sp_X7_aimIfMoved_dm u dm (xs (i + 1)) (xs (i + 2)) (xs (i + 3))) (sp_X7_aimIfMoved_th (xs (i + 1)) (xs (i + 2)) (xs (i + 3))) sa ln pa le sk nu h) rfl yV_X7_thrown wML_L_154 rfl 1 rfl rfl rfl rfl (nle rfl) (nle rfl) (nle rfl) (rmc hcC (by omega)) (rmc hsC (by omega)) dL_law_2614 ?_
    refine x_iload C 1 rfl dL_law_2617 ?_
    refine x_icmp_eq C 2624 (by decide) dL_law_2619 (fun _ => ?_) (fun hz => absurd e1 hz)
    refine x_iload C 1 rfl dL_law_2624 ?_
    refine x_if_ne C 2641 (by decide) dL_law_2626 (fun hz => absurd (by decide) hz) (fun _ => ?_)
    refine x_aload_n C 3 rfl rfl dL_law_2629 ?_
    refine x_iconst C 0 (by decide) dL_law_2630 ?_
    refine x_lald (f := (vp_updL fo 0 (Int32.toInt64 (sp_X6_aimIfMoved r (xs (i + 1)) (xs (i + 2)) (xs (i + 3)))))) C 0 3 rfl rfl in1 dL_law_2631 ?_
    refine x_st (st' := [.long (Int32.toInt64 (sp_X6_aimIfMoved r (xs (i + 1)) (xs (i + 2)) (xs (i + 3))))]) rfl ?_
    refine x_iload C 0 rfl dL_law_2632 ?_
    refine x_i2l C dL_law_2634 ?_
    refine x_lcmp C dL_law_2635 ?_
    refine x_if_eq C 2641 (by decide) dL_law_2636 (fun _ => ?_) (fun hz => absurd (lgz (congrArg Int32.toInt64 e2)) hz)
    refine x_goto C 3131 (by decide) dL_law_2641 ?_
    refine x_lv [(4, .int (nI i)), (3, .ref ao), (2, .ref (am 0)), (1, .ref (ap 0)), (0, .ref b)] [2, 3, 4, 5, 6] rfl ?_
    refine x_wid (k := cells + 40) (n := slots + 300) (by omega) (by omega) ?_
    exact K (xRk (sp_X6_aimIfMoved_kp r (xs (i + 1)) (xs (i + 2))) r.ke r.kr r.kt r.kh r.kc r.xn r.xs r.xv r.xh r.xo r.xc r.vd r.vn r.vl r.vu r.vs r.vm r.vp r.vt r.va r.vw r.jd r.jb r.jc r.js r.jl r.jx r.ji r.jf r.jn (sp_X6_aimIfMoved_dq r (xs (i + 1)) (xs (i + 2)))) po pn pl tx rp rl rs rm rn rz sv mm (sp_X7_aimIfMoved_s u (xs (i + 1)) (xs (i + 2)) (xs (i + 3))) fi t2 (sp_X7_aimIfMoved_dm u dm (xs (i + 1)) (xs (i + 2)) (xs (i + 3))) (sp_X7_aimIfMoved_th (xs (i + 1)) (xs (i + 2)) (xs (i + 3))) sa ln pa le sk nu h (vp_updL fo 0 (Int32.toInt64 (sp_X6_aimIfMoved r (xs (i + 1)) (xs (i + 2)) (xs (i + 3))))) e3
  · obtain ⟨e1, e3⟩ := hP.2 E cd h1 hcd
    refine x_perm (ws' := ((wOu g ao fo) ++ ((wMo g am u fi t2 dm th sa ln pa le sk nu h) ++ (wCl g ap ad r po pn pl tx rp rl rs rm rn rz sv mm)))) (List.perm_append_comm_assoc (wMo g am u fi t2 dm th sa ln pa le sk nu h) (wOu g ao fo) (wCl g ap ad r po pn pl tx rp rl rs rm rn rz sv mm)) ?_
    refine x_st (st' := [.int cd]) rfl ?_
    refine x_istore C [(5, .int cd), (4, .int (nI i)), (3, .ref ao), (2, .ref (am 0)), (1, .ref (ap 0)), (0, .ref b)] rfl (by decide) dL_law_2587 ?_
    refine x_aload_n C 3 rfl rfl dL_law_2589 ?_
    refine x_aload_n C 5 rfl rfl dL_law_2590 ?_
    refine x_iload C 1 rfl dL_law_2591 ?_
    refine x_iconst C 1 (by decide) dL_law_2593 ?_
    refine x_iaddN C i 1 rfl rfl dL_law_2594 ?_
    refine x_sld C (i + 1) hX hbl hbA rfl (by omega) (by omega) dL_law_2595 ?_
    refine x_aload_n C 5 rfl rfl dL_law_2596 ?_
    refine x_iload C 1 rfl dL_law_2597 ?_
    refine x_iconst C 2 (by decide) dL_law_2599 ?_
    refine x_iaddN C i 2 rfl rfl dL_law_2600 ?_
    refine x_sld C (i + 2) hX hbl hbA rfl (by omega) (by omega) dL_law_2601 ?_
    refine x_aload_n C 5 rfl rfl dL_law_2602 ?_
    refine x_iload C 1 rfl dL_law_2603 ?_
    refine x_iconst C 3 (by decide) dL_law_2605 ?_
    refine x_iaddN C i 3 rfl rfl dL_law_2606 ?_
    refine x_sld C (i + 3) hX hbl hbA rfl (by omega) (by omega) dL_law_2607 ?_
    refine x_FV (w1 := (wOu g ao fo)) (wc := (wMo g am u fi t2 dm th sa ln pa le sk nu h)) (w2 := (wCl g ap ad r po pn pl tx rp rl rs rm rn rz sv mm)) [.int (xs (i + 1)), .int (xs (i + 2)), .int (xs (i + 3))] [] ((wOu g ao fo) ++ ((wMo g am (sp_X7_aimIfMoved_s u (xs (i + 1)) (xs (i + 2)) (xs (i + 3))) fi t2 (sp_X7_aimIfMoved_dm u dm (xs (i + 1)) (xs (i + 2)) (xs (i + 3))) (sp_X7_aimIfMoved_th (xs (i + 1)) (xs (i + 2)) (xs (i + 3))) sa ln pa le sk nu h) ++ (wCl g ap ad r po pn pl tx rp rl rs rm rn rz sv mm))) C (k_X7_aimIfMoved l g am u fi t2 dm th sa ln pa le sk nu h (xs (i + 1)) (xs (i + 2)) (xs (i + 3)) H.hs H.hs6 H.hm) rfl yV_X7_aimIfMoved wML_L_316 rfl 1 rfl rfl rfl rfl (nle rfl) (nle rfl) (nle rfl) (rmc hcC (by omega)) (rmc hsC (by omega)) dL_law_2608 ?_
    refine x_istore C [(6, .int (sp_X7_aimIfMoved u dm (xs (i + 1)) (xs (i + 2)) (xs (i + 3)))), (5, .int cd), (4, .int (nI i)), (3, .ref ao), (2, .ref (am 0)), (1, .ref (ap 0)), (0, .ref b)] rfl (by decide) dL_law_2611 ?_
    refine x_aload_n C 4 rfl rfl dL_law_2613 ?_
    refine x_FV (w1 := (wOu g ao fo)) (wc := (wMo g am (sp_X7_aimIfMoved_s u (xs (i + 1)) (xs (i + 2)) (xs (i + 3))) fi t2 (sp_X7_aimIfMoved_dm u dm (xs (i + 1)) (xs (i + 2)) (xs (i + 3))) (sp_X7_aimIfMoved_th (xs (i + 1)) (xs (i + 2)) (xs (i + 3))) sa ln pa le sk nu h)) (w2 := (wCl g ap ad r po pn pl tx rp rl rs rm rn rz sv mm)) [] [] ((wOu g ao fo) ++ ((wMo g am (sp_X7_aimIfMoved_s u (xs (i + 1)) (xs (i + 2)) (xs (i + 3))) fi t2 (sp_X7_aimIfMoved_dm u dm (xs (i + 1)) (xs (i + 2)) (xs (i + 3))) (sp_X7_aimIfMoved_th (xs (i + 1)) (xs (i + 2)) (xs (i + 3))) sa ln pa le sk nu h) ++ (wCl g ap ad r po pn pl tx rp rl rs rm rn rz sv mm))) C (k_X7_thrown l g am (sp_X7_aimIfMoved_s u (xs (i + 1)) (xs (i + 2)) (xs (i + 3))) fi t2 (sp_X7_aimIfMoved_dm u dm (xs (i + 1)) (xs (i + 2)) (xs (i + 3))) (sp_X7_aimIfMoved_th (xs (i + 1)) (xs (i + 2)) (xs (i + 3))) sa ln pa le sk nu h) rfl yV_X7_thrown wML_L_154 rfl 1 rfl rfl rfl rfl (nle rfl) (nle rfl) (nle rfl) (rmc hcC (by omega)) (rmc hsC (by omega)) dL_law_2614 ?_
    refine x_iload C 1 rfl dL_law_2617 ?_
    refine x_icmp_eq C 2624 (by decide) dL_law_2619 (fun _ => ?_) (fun hz => absurd e1 hz)
    refine x_iload C 1 rfl dL_law_2624 ?_
    refine x_if_ne C 2641 (by decide) dL_law_2626 (fun _ => ?_) (fun hz => absurd hz (by rcases hcd with ⟨-, rfl⟩ | ⟨-, rfl⟩ <;> decide))
    refine x_goto C 3131 (by decide) dL_law_2641 ?_
    refine x_lv [(4, .int (nI i)), (3, .ref ao), (2, .ref (am 0)), (1, .ref (ap 0)), (0, .ref b)] [2, 3, 4, 5, 6] rfl ?_
    refine x_wid (k := cells + 40) (n := slots + 300) (by omega) (by omega) ?_
    exact K r po pn pl tx rp rl rs rm rn rz sv mm (sp_X7_aimIfMoved_s u (xs (i + 1)) (xs (i + 2)) (xs (i + 3))) fi t2 (sp_X7_aimIfMoved_dm u dm (xs (i + 1)) (xs (i + 2)) (xs (i + 3))) (sp_X7_aimIfMoved_th (xs (i + 1)) (xs (i + 2)) (xs (i + 3))) sa ln pa le sk nu h fo e3
set_option maxRecDepth 100000 in
set_option maxHeartbeats 2000000 in
theorem c_48 {p : Program} {l : Launch} {e : Env} {s : State} {m : MethodId} {args : Array Value} {below : List Frame} {meth : Method} {c : Code} {cells slots : Nat} {Q : State → Prop} {nm : String} {g : xGt} {A : Nat → Prop} {b L i : Nat} {xs : Nat → Int32} {ap ad am : Nat → Nat} {ao : Nat} {r : xR} {po : Int32} {pn : Int32} {pl : Int32} {tx : Nat → Int32} {rp : Int32} {rl : Int32} {rs : Int32} {rm : Int32} {rn : Int32} {rz : Int32} {sv : xPl} {mm : xPl} {u : Nat → Int32} {fi : Nat → Int32} {t2 : Nat → Int32} {dm : Nat → Int32} {th : Int32} {sa : Int32} {ln : Int32} {pa : Int32} {le : Int32} {sk : Int32} {nu : Int32} {h : Int64} {fo : Nat → Int64} (C : xC p l s m args meth c cL_law 9 RL nm g.1 (xT g) A) (hX : va_X b L xs s s.heap) (hbl : b < s.heap.size) (hbA : ¬ A b) (hi : i + 6 ≤ L) (hL : L ≤ 3072) (hcC : cells + 40 ≤ room_1.cells) (hsC : slots + 300 ≤ room_1.slots) (H : RI r po pn pl tx sv mm u fi t2 sa ln) (K : LK p l e s m args below meth c g A ap ad am ao b i (cells + 40) (slots + 300) Q) : xW p l e room_1 s m args below meth c g.1 A 9 cells slots Q (wLaw g ap ad am ao r po pn pl tx rp rl rs rm rn rz sv mm u fi t2 dm th sa ln pa le sk nu h fo) [(4, .int (nI i)), (3, .ref ao), (2, .ref (am 0)), (1, .ref (ap 0)), (0, .ref b)] 2644 [] := by
  refine x_ws (ws' := ((wOu g ao fo) ++ ((wMo g am u fi t2 dm th sa ln pa le sk nu h) ++ (wCl g ap ad r po pn pl tx rp rl rs rm rn rz sv mm)))) rfl ?_
  refine x_aload_n C 3 rfl rfl dL_law_2644 ?_
  refine x_aload_n C 4 rfl rfl dL_law_2645 ?_
  refine x_iload C 0 rfl dL_law_2646 ?_
  refine x_iconst C 1 (by decide) dL_law_2648 ?_
  refine x_iaddN C i 1 rfl rfl dL_law_2649 ?_
  refine x_sld C (i + 1) hX hbl hbA rfl (by omega) (by omega) dL_law_2650 ?_
  refine x_aload_n C 1 rfl rfl dL_law_2651 ?_
  refine x_callL (X := (wOu g ao fo)) (Y := (wMo g am u fi t2 dm th sa ln pa le sk nu h)) (Z := (wCl g ap ad r po pn pl tx rp rl rs rm rn rz sv mm)) [.ref (ap 0), .int (xs (i + 1)), .ref ao] [] C (k_L_drivenBy l g ao fo ap ad r po pn pl tx rp rl rs rm rn rz sv mm (xs (i + 1)) H.clo) yH_L_drivenBy wML_L_317 rfl rfl rfl (nle rfl) (nle rfl) (nle rfl) (rmc hcC (by omega)) (rmc hsC (by omega)) dL_law_2652 (fun r0 w0 h0 => ?_)
  have hP := P_drivenBy r po pn pl tx rp rl rs rm rn rz sv mm u fi t2 dm th sa ln pa le sk nu h (xs (i + 1)) H
  rcases h0 with ⟨h1, rfl, w8, hw, rfl⟩ | ⟨E, cd, h1, hcd, rfl, rfl⟩
  · obtain rfl := hw
    obtain ⟨e1, e2, e3⟩ := hP.1 h1
    refine x_perm (ws' := ((wOu g ao (vp_updL fo 0 (Int32.toInt64 (sp_dby r (xs (i + 1)) 0 6)))) ++ ((wMo g am u fi t2 dm th sa ln pa le sk nu h) ++ (wCl g ap ad r po pn pl tx rp rl rs rm rn rz sv mm)))) (List.perm_append_comm_assoc (wMo g am u fi t2 dm th sa ln pa le sk nu h) (wOu g ao (vp_updL fo 0 (Int32.toInt64 (sp_dby r (xs (i + 1)) 0 6)))) (wCl g ap ad r po pn pl tx rp rl rs rm rn rz sv mm)) ?_
    refine x_st (st' := [.int 0]) rfl ?_
    refine x_istore C [(5, .int 0), (4, .int (nI i)), (3, .ref ao), (2, .ref (am 0)), (1, .ref (ap 0)), (0, .ref b)] rfl (by decide) dL_law_2655 ?_
    refine x_aload_n C 3 rfl rfl dL_law_2657 ?_
    refine x_aload_n C 5 rfl rfl dL_law_2658 ?_
    refine x_iload C 1 rfl dL_law_2659 ?_
    refine x_iconst C 1 (by decide) dL_law_2661 ?_
    refine x_iaddN C i 1 rfl rfl dL_law_2662 ?_
    refine x_sld C (i + 1) hX hbl hbA rfl (by omega) (by omega) dL_law_2663 ?_
    refine x_FV (w1 := (wOu g ao (vp_updL fo 0 (Int32.toInt64 (sp_dby r (xs (i + 1)) 0 6))))) (wc := (wMo g am u fi t2 dm th sa ln pa le sk nu h)) (w2 := (wCl g ap ad r po pn pl tx rp rl rs rm rn rz sv mm)) [.int (xs (i + 1))] [] ((wOu g ao (vp_updL fo 0 (Int32.toInt64 (sp_dby r (xs (i + 1)) 0 6)))) ++ ((wMo g am u fi t2 dm (sp_X7_drivenBy_th (xs (i + 1))) sa ln pa le sk nu h) ++ (wCl g ap ad r po pn pl tx rp rl rs rm rn rz sv mm))) C (k_X7_drivenBy l g am u fi t2 dm th sa ln pa le sk nu h (xs (i + 1)) H.hs H.hs6 H.hm) rfl yV_X7_drivenBy wML_L_319 rfl 1 rfl rfl rfl rfl (nle rfl) (nle rfl) (nle rfl) (rmc hcC (by omega)) (rmc hsC (by omega)) dL_law_2664 ?_
    refine x_istore C [(6, .int (sp_X7_drivenBy u (xs (i + 1)))), (5, .int 0), (4, .int (nI i)), (3, .ref ao), (2, .ref (am 0)), (1, .ref (ap 0)), (0, .ref b)] rfl (by decide) dL_law_2667 ?_
    refine x_aload_n C 4 rfl rfl dL_law_2669 ?_
    refine x_FV (w1 := (wOu g ao (vp_updL fo 0 (Int32.toInt64 (sp_dby r (xs (i + 1)) 0 6))))) (wc := (wMo g am u fi t2 dm (sp_X7_drivenBy_th (xs (i + 1))) sa ln pa le sk nu h)) (w2 := (wCl g ap ad r po pn pl tx rp rl rs rm rn rz sv mm)) [] [] ((wOu g ao (vp_updL fo 0 (Int32.toInt64 (sp_dby r (xs (i + 1)) 0 6)))) ++ ((wMo g am u fi t2 dm (sp_X7_drivenBy_th (xs (i + 1))) sa ln pa le sk nu h) ++ (wCl g ap ad r po pn pl tx rp rl rs rm rn rz sv mm))) C (k_X7_thrown l g am u fi t2 dm (sp_X7_drivenBy_th (xs (i + 1))) sa ln pa le sk nu h) rfl yV_X7_thrown wML_L_154 rfl 1 rfl rfl rfl rfl (nle rfl) (nle rfl) (nle rfl) (rmc hcC (by omega)) (rmc hsC (by omega)) dL_law_2670 ?_
    refine x_iload C 1 rfl dL_law_2673 ?_
    refine x_icmp_eq C 2680 (by decide) dL_law_2675 (fun _ => ?_) (fun hz => absurd e1 hz)
    refine x_iload C 1 rfl dL_law_2680 ?_
    refine x_if_ne C 2697 (by decide) dL_law_2682 (fun hz => absurd (by decide) hz) (fun _ => ?_)
    refine x_aload_n C 3 rfl rfl dL_law_2685 ?_
    refine x_iconst C 0 (by decide) dL_law_2686 ?_
    refine x_lald (f := (vp_updL fo 0 (Int32.toInt64 (sp_dby r (xs (i + 1)) 0 6)))) C 0 3 rfl rfl in1 dL_law_2687 ?_
    refine x_st (st' := [.long (Int32.toInt64 (sp_dby r (xs (i + 1)) 0 6))]) rfl ?_
    refine x_iload C 0 rfl dL_law_2688 ?_
    refine x_i2l C dL_law_2690 ?_
    refine x_lcmp C dL_law_2691 ?_
    refine x_if_eq C 2697 (by decide) dL_law_2692 (fun _ => ?_) (fun hz => absurd (lgz (congrArg Int32.toInt64 e2)) hz)
    refine x_goto C 3131 (by decide) dL_law_2697 ?_
    refine x_lv [(4, .int (nI i)), (3, .ref ao), (2, .ref (am 0)), (1, .ref (ap 0)), (0, .ref b)] [2, 3, 4, 5, 6] rfl ?_
    refine x_wid (k := cells + 40) (n := slots + 300) (by omega) (by omega) ?_
    exact K r po pn pl tx rp rl rs rm rn rz sv mm u fi t2 dm (sp_X7_drivenBy_th (xs (i + 1))) sa ln pa le sk nu h (vp_updL fo 0 (Int32.toInt64 (sp_dby r (xs (i + 1)) 0 6))) e3
  · obtain ⟨e1, e3⟩ := hP.2 E cd h1 hcd
    refine x_perm (ws' := ((wOu g ao fo) ++ ((wMo g am u fi t2 dm th sa ln pa le sk nu h) ++ (wCl g ap ad r po pn pl tx rp rl rs rm rn rz sv mm)))) (List.perm_append_comm_assoc (wMo g am u fi t2 dm th sa ln pa le sk nu h) (wOu g ao fo) (wCl g ap ad r po pn pl tx rp rl rs rm rn rz sv mm)) ?_
    refine x_st (st' := [.int cd]) rfl ?_
    refine x_istore C [(5, .int cd), (4, .int (nI i)), (3, .ref ao), (2, .ref (am 0)), (1, .ref (ap 0)), (0, .ref b)] rfl (by decide) dL_law_2655 ?_
    refine x_aload_n C 3 rfl rfl dL_law_2657 ?_
    refine x_aload_n C 5 rfl rfl dL_law_2658 ?_
    refine x_iload C 1 rfl dL_law_2659 ?_
    refine x_iconst C 1 (by decide) dL_law_2661 ?_
    refine x_iaddN C i 1 rfl rfl dL_law_2662 ?_
    refine x_sld C (i + 1) hX hbl hbA rfl (by omega) (by omega) dL_law_2663 ?_
    refine x_FV (w1 := (wOu g ao fo)) (wc := (wMo g am u fi t2 dm th sa ln pa le sk nu h)) (w2 := (wCl g ap ad r po pn pl tx rp rl rs rm rn rz sv mm)) [.int (xs (i + 1))] [] ((wOu g ao fo) ++ ((wMo g am u fi t2 dm (sp_X7_drivenBy_th (xs (i + 1))) sa ln pa le sk nu h) ++ (wCl g ap ad r po pn pl tx rp rl rs rm rn rz sv mm))) C (k_X7_drivenBy l g am u fi t2 dm th sa ln pa le sk nu h (xs (i + 1)) H.hs H.hs6 H.hm) rfl yV_X7_drivenBy wML_L_319 rfl 1 rfl rfl rfl rfl (nle rfl) (nle rfl) (nle rfl) (rmc hcC (by omega)) (rmc hsC (by omega)) dL_law_2664 ?_
    refine x_istore C [(6, .int (sp_X7_drivenBy u (xs (i + 1)))), (5, .int cd), (4, .int (nI i)), (3, .ref ao), (2, .ref (am 0)), (1, .ref (ap 0)), (0, .ref b)] rfl (by decide) dL_law_2667 ?_
    refine x_aload_n C 4 rfl rfl dL_law_2669 ?_
    refine x_FV (w1 := (wOu g ao fo)) (wc := (wMo g am u fi t2 dm (sp_X7_drivenBy_th (xs (i + 1))) sa ln pa le sk nu h)) (w2 := (wCl g ap ad r po pn pl tx rp rl rs rm rn rz sv mm)) [] [] ((wOu g ao fo) ++ ((wMo g am u fi t2 dm (sp_X7_drivenBy_th (xs (i + 1))) sa ln pa le sk nu h) ++ (wCl g ap ad r po pn pl tx rp rl rs rm rn rz sv mm))) C (k_X7_thrown l g am u fi t2 dm (sp_X7_drivenBy_th (xs (i + 1))) sa ln pa le sk nu h) rfl yV_X7_thrown wML_L_154 rfl 1 rfl rfl rfl rfl (nle rfl) (nle rfl) (nle rfl) (rmc hcC (by omega)) (rmc hsC (by omega)) dL_law_2670 ?_
    refine x_iload C 1 rfl dL_law_2673 ?_
    refine x_icmp_eq C 2680 (by decide) dL_law_2675 (fun _ => ?_) (fun hz => absurd e1 hz)
    refine x_iload C 1 rfl dL_law_2680 ?_
    refine x_if_ne C 2697 (by decide) dL_law_2682 (fun _ => ?_) (fun hz => absurd hz (cd0 hcd))
    refine x_goto C 3131 (by decide) dL_law_2697 ?_
    refine x_lv [(4, .int (nI i)), (3, .ref ao), (2, .ref (am 0)), (1, .ref (ap 0)), (0, .ref b)] [2, 3, 4, 5, 6] rfl ?_
    refine x_wid (k := cells + 40) (n := slots + 300) (by omega) (by omega) ?_
    exact K r po pn pl tx rp rl rs rm rn rz sv mm u fi t2 dm (sp_X7_drivenBy_th (xs (i + 1))) sa ln pa le sk nu h fo e3
set_option maxRecDepth 100000 in
set_option maxHeartbeats 2000000 in
theorem c_49 {p : Program} {l : Launch} {e : Env} {s : State} {m : MethodId} {args : Array Value} {below : List Frame} {meth : Method} {c : Code} {cells slots : Nat} {Q : State → Prop} {nm : String} {g : xGt} {A : Nat → Prop} {b L i : Nat} {xs : Nat → Int32} {ap ad am : Nat → Nat} {ao : Nat} {r : xR} {po : Int32} {pn : Int32} {pl : Int32} {tx : Nat → Int32} {rp : Int32} {rl : Int32} {rs : Int32} {rm : Int32} {rn : Int32} {rz : Int32} {sv : xPl} {mm : xPl} {u : Nat → Int32} {fi : Nat → Int32} {t2 : Nat → Int32} {dm : Nat → Int32} {th : Int32} {sa : Int32} {ln : Int32} {pa : Int32} {le : Int32} {sk : Int32} {nu : Int32} {h : Int64} {fo : Nat → Int64} (C : xC p l s m args meth c cL_law 9 RL nm g.1 (xT g) A) (hX : va_X b L xs s s.heap) (hbl : b < s.heap.size) (hbA : ¬ A b) (hi : i + 6 ≤ L) (hL : L ≤ 3072) (hcC : cells + 40 ≤ room_1.cells) (hsC : slots + 300 ≤ room_1.slots) (H : RI r po pn pl tx sv mm u fi t2 sa ln) (K : LK p l e s m args below meth c g A ap ad am ao b i (cells + 40) (slots + 300) Q) : xW p l e room_1 s m args below meth c g.1 A 9 cells slots Q (wLaw g ap ad am ao r po pn pl tx rp rl rs rm rn rz sv mm u fi t2 dm th sa ln pa le sk nu h fo) [(4, .int (nI i)), (3, .ref ao), (2, .ref (am 0)), (1, .ref (ap 0)), (0, .ref b)] 2700 [] := by
  refine x_ws (ws' := ((wOu g ao fo) ++ ((wMo g am u fi t2 dm th sa ln pa le sk nu h) ++ (wCl g ap ad r po pn pl tx rp rl rs rm rn rz sv mm)))) rfl ?_
  refine x_aload_n C 3 rfl rfl dL_law_2700 ?_
  refine x_aload_n C 4 rfl rfl dL_law_2701 ?_
  refine x_iload C 0 rfl dL_law_2702 ?_
  refine x_iconst C 1 (by decide) dL_law_2704 ?_
  refine x_iaddN C i 1 rfl rfl dL_law_2705 ?_
  refine x_sld C (i + 1) hX hbl hbA rfl (by omega) (by omega) dL_law_2706 ?_
  refine x_aload_n C 4 rfl rfl dL_law_2707 ?_
  refine x_iload C 0 rfl dL_law_2708 ?_
  refine x_iconst C 2 (by decide) dL_law_2710 ?_
  refine x_iaddN C i 2 rfl rfl dL_law_2711 ?_
  refine x_sld C (i + 2) hX hbl hbA rfl (by omega) (by omega) dL_law_2712 ?_
  refine x_aload_n C 1 rfl rfl dL_law_2713 ?_
  refine x_callL (X := (wOu g ao fo)) (Y := (wMo g am u fi t2 dm th sa ln pa le sk nu h)) (Z := (wCl g ap ad r po pn pl tx rp rl rs rm rn rz sv mm)) [.ref (ap 0), .int (xs (i + 1)), .int (xs (i + 2)), .ref ao] [] C (k_L_bestTrim l g ao fo ap ad r po pn pl tx rp rl rs rm rn rz sv mm (xs (i + 1)) (xs (i + 2)) H.clo) yH_L_bestTrim wML_L_320 rfl rfl rfl (nle rfl) (nle rfl) (nle rfl) (rmc hcC (by omega)) (rmc hsC (by omega)) dL_law_2714 (fun r0 w0 h0 => ?_)
  have hP := P_bestTrim r po pn pl tx rp rl rs rm rn rz sv mm u fi t2 dm th sa ln pa le sk nu h (xs (i + 1)) (xs (i + 2)) H
  rcases h0 with ⟨h1, rfl, w8, hw, rfl⟩ | ⟨E, cd, h1, hcd, rfl, rfl⟩
  · obtain rfl := hw
    obtain ⟨e1, e2, e3⟩ := hP.1 h1
    refine x_perm (ws' := ((wOu g ao (vp_updL fo 0 (Int32.toInt64 (sp_X6_bestTrim r (xs (i + 1)) (xs (i + 2)))))) ++ ((wMo g am u fi t2 dm th sa ln pa le sk nu h) ++ (wCl g ap ad (rTD r (sp_X6_bestTrim_kt r (xs (i + 1)) (xs (i + 2))) (sp_X6_bestTrim_dq r (xs (i + 1)) (xs (i + 2)))) po pn pl tx rp rl rs rm rn rz sv mm)))) (List.perm_append_comm_assoc (wMo g am u fi t2 dm th sa ln pa le sk nu h) (wOu g ao (vp_updL fo 0 (Int32.toInt64 (sp_X6_bestTrim r (xs (i + 1)) (xs (i + 2)))))) (wCl g ap ad (rTD r (sp_X6_bestTrim_kt r (xs (i + 1)) (xs (i + 2))) (sp_X6_bestTrim_dq r (xs (i + 1)) (xs (i + 2)))) po pn pl tx rp rl rs rm rn rz sv mm)) ?_
    refine x_st (st' := [.int 0]) rfl ?_
    refine x_istore C [(5, .int 0), (4, .int (nI i)), (3, .ref ao), (2, .ref (am 0)), (1, .ref (ap 0)), (0, .ref b)] rfl (by decide) dL_law_2717 ?_
    refine x_aload_n C 3 rfl rfl dL_law_2719 ?_
    refine x_aload_n C 5 rfl rfl dL_law_2720 ?_
    refine x_iload C 1 rfl dL_law_2721 ?_
    refine x_iconst C 1 (by decide) dL_law_2723 ?_
    refine x_iaddN C i 1 rfl rfl dL_law_2724 ?_
    refine x_sld C (i + 1) hX hbl hbA rfl (by omega) (by omega) dL_law_2725 ?_
    refine x_aload_n C 5 rfl rfl dL_law_2726 ?_
    refine x_iload C 1 rfl dL_law_2727 ?_
    refine x_iconst C 2 (by decide) dL_law_2729 ?_
    refine x_iaddN C i 2 rfl rfl dL_law_2730 ?_
    refine x_sld C (i + 2) hX hbl hbA rfl (by omega) (by omega) dL_law_2731 ?_
    refine x_FV (w1 := (wOu g ao (vp_updL fo 0 (Int32.toInt64 (sp_X6_bestTrim r (xs (i + 1)) (xs (i + 2))))))) (wc := (wMo g am u fi t2 dm th sa ln pa le sk nu h)) (w2 := (wCl g ap ad (rTD r (sp_X6_bestTrim_kt r (xs (i + 1)) (xs (i + 2))) (sp_X6_bestTrim_dq r (xs (i + 1)) (xs (i + 2)))) po pn pl tx rp rl rs rm rn rz sv mm)) [.int (xs (i + 1)), .int (xs (i + 2))] [] ((wOu g ao (vp_updL fo 0 (Int32.toInt64 (sp_X6_bestTrim r (xs (i + 1)) (xs (i + 2)))))) ++ ((wMo g am (sp_X7_bestTrim_s u dm (xs (i + 1)) (xs (i + 2))) fi t2 (sp_X7_bestTrim_dm u dm (xs (i + 1)) (xs (i + 2))) (sp_X7_bestTrim_th (xs (i + 1)) (xs (i + 2))) sa ln pa le sk nu h) ++ (wCl g ap ad (rTD r (sp_X6_bestTrim_kt r (xs (i + 1)) (xs (i + 2))) (sp_X6_bestTrim_dq r (xs (i + 1)) (xs (i + 2)))) po pn pl tx rp rl rs rm rn rz sv mm))) C (k_X7_bestTrim l g am u fi t2 dm th sa ln pa le sk nu h (xs (i + 1)) (xs (i + 2)) H.hs H.hs6 H.hm) rfl yV_X7_bestTrim wML_L_322 rfl 1 rfl rfl rfl rfl (nle rfl) (nle rfl) (nle rfl) (rmc hcC (by omega)) (rmc hsC (by omega)) dL_law_2732 ?_
    refine x_istore C [(6, .int (sp_X7_bestTrim u dm (xs (i + 1)) (xs (i + 2)))), (5, .int 0), (4, .int (nI i)), (3, .ref ao), (2, .ref (am 0)), (1, .ref (ap 0)), (0, .ref b)] rfl (by decide) dL_law_2735 ?_
    refine x_aload_n C 4 rfl rfl dL_law_2737 ?_
    refine x_FV (w1 := (wOu g ao (vp_updL fo 0 (Int32.toInt64 (sp_X6_bestTrim r (xs (i + 1)) (xs (i + 2))))))) (wc := (wMo g am (sp_X7_bestTrim_s u dm (xs (i + 1)) (xs (i + 2))) fi t2 (sp_X7_bestTrim_dm u dm (xs (i + 1)) (xs (i + 2))) (sp_X7_bestTrim_th (xs (i + 1)) (xs (i + 2))) sa ln pa le sk nu h)) (w2 := (wCl g ap ad (rTD r (sp_X6_bestTrim_kt r (xs (i + 1)) (xs (i + 2))) (sp_X6_bestTrim_dq r (xs (i + 1)) (xs (i + 2)))) po pn pl tx rp rl rs rm rn rz sv mm)) [] [] ((wOu g ao (vp_updL fo 0 (Int32.toInt64 (sp_X6_bestTrim r (xs (i + 1)) (xs (i + 2)))))) ++ ((wMo g am (sp_X7_bestTrim_s u dm (xs (i + 1)) (xs (i + 2))) fi t2 (sp_X7_bestTrim_dm u dm (xs (i + 1)) (xs (i + 2))) (sp_X7_bestTrim_th (xs (i + 1)) (xs (i + 2))) sa ln pa le sk nu h) ++ (wCl g ap ad (rTD r (sp_X6_bestTrim_kt r (xs (i + 1)) (xs (i + 2))) (sp_X6_bestTrim_dq r (xs (i + 1)) (xs (i + 2)))) po pn pl tx rp rl rs rm rn rz sv mm))) C (k_X7_thrown l g am (sp_X7_bestTrim_s u dm (xs (i + 1)) (xs (i + 2))) fi t2 (sp_X7_bestTrim_dm u dm (xs (i + 1)) (xs (i + 2))) (sp_X7_bestTrim_th (xs (i + 1)) (xs (i + 2))) sa ln pa le sk nu h) rfl yV_X7_thrown wML_L_154 rfl 1 rfl rfl rfl rfl (nle rfl) (nle rfl) (nle rfl) (rmc hcC (by omega)) (rmc hsC (by omega)) dL_law_2738 ?_
    refine x_iload C 1 rfl dL_law_2741 ?_
    refine x_icmp_eq C 2748 (by decide) dL_law_2743 (fun _ => ?_) (fun hz => absurd e1 hz)
    refine x_iload C 1 rfl dL_law_2748 ?_
    refine x_if_ne C 2765 (by decide) dL_law_2750 (fun hz => absurd (by decide) hz) (fun _ => ?_)
    refine x_aload_n C 3 rfl rfl dL_law_2753 ?_
    refine x_iconst C 0 (by decide) dL_law_2754 ?_
    refine x_lald (f := (vp_updL fo 0 (Int32.toInt64 (sp_X6_bestTrim r (xs (i + 1)) (xs (i + 2)))))) C 0 3 rfl rfl in1 dL_law_2755 ?_
    refine x_st (st' := [.long (Int32.toInt64 (sp_X6_bestTrim r (xs (i + 1)) (xs (i + 2))))]) rfl ?_
    refine x_iload C 0 rfl dL_law_2756 ?_
    refine x_i2l C dL_law_2758 ?_
    refine x_lcmp C dL_law_2759 ?_
    refine x_if_eq C 2765 (by decide) dL_law_2760 (fun _ => ?_) (fun hz => absurd (lgz (congrArg Int32.toInt64 e2)) hz)
    refine x_goto C 3131 (by decide) dL_law_2765 ?_
    refine x_lv [(4, .int (nI i)), (3, .ref ao), (2, .ref (am 0)), (1, .ref (ap 0)), (0, .ref b)] [2, 3, 4, 5, 6] rfl ?_
    refine x_wid (k := cells + 40) (n := slots + 300) (by omega) (by omega) ?_
    exact K (rTD r (sp_X6_bestTrim_kt r (xs (i + 1)) (xs (i + 2))) (sp_X6_bestTrim_dq r (xs (i + 1)) (xs (i + 2)))) po pn pl tx rp rl rs rm rn rz sv mm (sp_X7_bestTrim_s u dm (xs (i + 1)) (xs (i + 2))) fi t2 (sp_X7_bestTrim_dm u dm (xs (i + 1)) (xs (i + 2))) (sp_X7_bestTrim_th (xs (i + 1)) (xs (i + 2))) sa ln pa le sk nu h (vp_updL fo 0 (Int32.toInt64 (sp_X6_bestTrim r (xs (i + 1)) (xs (i + 2))))) e3
  · obtain ⟨e1, e3⟩ := hP.2 E cd h1 hcd
    refine x_perm (ws' := ((wOu g ao fo) ++ ((wMo g am u fi t2 dm th sa ln pa le sk nu h) ++ (wCl g ap ad r po pn pl tx rp rl rs rm rn rz sv mm)))) (List.perm_append_comm_assoc (wMo g am u fi t2 dm th sa ln pa le sk nu h) (wOu g ao fo) (wCl g ap ad r po pn pl tx rp rl rs rm rn rz sv mm)) ?_
    refine x_st (st' := [.int cd]) rfl ?_
    refine x_istore C [(5, .int cd), (4, .int (nI i)), (3, .ref ao), (2, .ref (am 0)), (1, .ref (ap 0)), (0, .ref b)] rfl (by decide) dL_law_2717 ?_
    refine x_aload_n C 3 rfl rfl dL_law_2719 ?_
    refine x_aload_n C 5 rfl rfl dL_law_2720 ?_
    refine x_iload C 1 rfl dL_law_2721 ?_
    refine x_iconst C 1 (by decide) dL_law_2723 ?_
    refine x_iaddN C i 1 rfl rfl dL_law_2724 ?_
    refine x_sld C (i + 1) hX hbl hbA rfl (by omega) (by omega) dL_law_2725 ?_
    refine x_aload_n C 5 rfl rfl dL_law_2726 ?_
    refine x_iload C 1 rfl dL_law_2727 ?_
    refine x_iconst C 2 (by decide) dL_law_2729 ?_
    refine x_iaddN C i 2 rfl rfl dL_law_2730 ?_
    refine x_sld C (i + 2) hX hbl hbA rfl (by omega) (by omega) dL_law_2731 ?_
    refine x_FV (w1 := (wOu g ao fo)) (wc := (wMo g am u fi t2 dm th sa ln pa le sk nu h)) (w2 := (wCl g ap ad r po pn pl tx rp rl rs rm rn rz sv mm)) [.int (xs (i + 1)), .int (xs (i + 2))] [] ((wOu g ao fo) ++ ((wMo g am (sp_X7_bestTrim_s u dm (xs (i + 1)) (xs (i + 2))) fi t2 (sp_X7_bestTrim_dm u dm (xs (i + 1)) (xs (i + 2))) (sp_X7_bestTrim_th (xs (i + 1)) (xs (i + 2))) sa ln pa le sk nu h) ++ (wCl g ap ad r po pn pl tx rp rl rs rm rn rz sv mm))) C (k_X7_bestTrim l g am u fi t2 dm th sa ln pa le sk nu h (xs (i + 1)) (xs (i + 2)) H.hs H.hs6 H.hm) rfl yV_X7_bestTrim wML_L_322 rfl 1 rfl rfl rfl rfl (nle rfl) (nle rfl) (nle rfl) (rmc hcC (by omega)) (rmc hsC (by omega)) dL_law_2732 ?_
    refine x_istore C [(6, .int (sp_X7_bestTrim u dm (xs (i + 1)) (xs (i + 2)))), (5, .int cd), (4, .int (nI i)), (3, .ref ao), (2, .ref (am 0)), (1, .ref (ap 0)), (0, .ref b)] rfl (by decide) dL_law_2735 ?_
    refine x_aload_n C 4 rfl rfl dL_law_2737 ?_
    refine x_FV (w1 := (wOu g ao fo)) (wc := (wMo g am (sp_X7_bestTrim_s u dm (xs (i + 1)) (xs (i + 2))) fi t2 (sp_X7_bestTrim_dm u dm (xs (i + 1)) (xs (i + 2))) (sp_X7_bestTrim_th (xs (i + 1)) (xs (i + 2))) sa ln pa le sk nu h)) (w2 := (wCl g ap ad r po pn pl tx rp rl rs rm rn rz sv mm)) [] [] ((wOu g ao fo) ++ ((wMo g am (sp_X7_bestTrim_s u dm (xs (i + 1)) (xs (i + 2))) fi t2 (sp_X7_bestTrim_dm u dm (xs (i + 1)) (xs (i + 2))) (sp_X7_bestTrim_th (xs (i + 1)) (xs (i + 2))) sa ln pa le sk nu h) ++ (wCl g ap ad r po pn pl tx rp rl rs rm rn rz sv mm))) C (k_X7_thrown l g am (sp_X7_bestTrim_s u dm (xs (i + 1)) (xs (i + 2))) fi t2 (sp_X7_bestTrim_dm u dm (xs (i + 1)) (xs (i + 2))) (sp_X7_bestTrim_th (xs (i + 1)) (xs (i + 2))) sa ln pa le sk nu h) rfl yV_X7_thrown wML_L_154 rfl 1 rfl rfl rfl rfl (nle rfl) (nle rfl) (nle rfl) (rmc hcC (by omega)) (rmc hsC (by omega)) dL_law_2738 ?_
    refine x_iload C 1 rfl dL_law_2741 ?_
    refine x_icmp_eq C 2748 (by decide) dL_law_2743 (fun _ => ?_) (fun hz => absurd e1 hz)
    refine x_iload C 1 rfl dL_law_2748 ?_
    refine x_if_ne C 2765 (by decide) dL_law_2750 (fun _ => ?_) (fun hz => absurd hz (cd0 hcd))
    refine x_goto C 3131 (by decide) dL_law_2765 ?_
    refine x_lv [(4, .int (nI i)), (3, .ref ao), (2, .ref (am 0)), (1, .ref (ap 0)), (0, .ref b)] [2, 3, 4, 5, 6] rfl ?_
    refine x_wid (k := cells + 40) (n := slots + 300) (by omega) (by omega) ?_
    exact K r po pn pl tx rp rl rs rm rn rz sv mm (sp_X7_bestTrim_s u dm (xs (i + 1)) (xs (i + 2))) fi t2 (sp_X7_bestTrim_dm u dm (xs (i + 1)) (xs (i + 2))) (sp_X7_bestTrim_th (xs (i + 1)) (xs (i + 2))) sa ln pa le sk nu h fo e3
set_option maxRecDepth 100000 in
set_option maxHeartbeats 2000000 in
theorem c_50 {p : Program} {l : Launch} {e : Env} {s : State} {m : MethodId} {args : Array Value} {below : List Frame} {meth : Method} {c : Code} {cells slots : Nat} {Q : State → Prop} {nm : String} {g : xGt} {A : Nat → Prop} {b L i : Nat} {xs : Nat → Int32} {ap ad am : Nat → Nat} {ao : Nat} {r : xR} {po : Int32} {pn : Int32} {pl : Int32} {tx : Nat → Int32} {rp : Int32} {rl : Int32} {rs : Int32} {rm : Int32} {rn : Int32} {rz : Int32} {sv : xPl} {mm : xPl} {u : Nat → Int32} {fi : Nat → Int32} {t2 : Nat → Int32} {dm : Nat → Int32} {th : Int32} {sa : Int32} {ln : Int32} {pa : Int32} {le : Int32} {sk : Int32} {nu : Int32} {h : Int64} {fo : Nat → Int64} (C : xC p l s m args meth c cL_law 9 RL nm g.1 (xT g) A) (hX : va_X b L xs s s.heap) (hbl : b < s.heap.size) (hbA : ¬ A b) (hi : i + 6 ≤ L) (hL : L ≤ 3072) (hcC : cells + 40 ≤ room_1.cells) (hsC : slots + 300 ≤ room_1.slots) (H : RI r po pn pl tx sv mm u fi t2 sa ln) (K : LK p l e s m args below meth c g A ap ad am ao b i (cells + 40) (slots + 300) Q) : xW p l e room_1 s m args below meth c g.1 A 9 cells slots Q (wLaw g ap ad am ao r po pn pl tx rp rl rs rm rn rz sv mm u fi t2 dm th sa ln pa le sk nu h fo) [(4, .int (nI i)), (3, .ref ao), (2, .ref (am 0)), (1, .ref (ap 0)), (0, .ref b)] 2768 [] := by
  refine x_ws (ws' := ((wOu g ao fo) ++ ((wMo g am u fi t2 dm th sa ln pa le sk nu h) ++ (wCl g ap ad r po pn pl tx rp rl rs rm rn rz sv mm)))) rfl ?_
  refine x_aload_n C 3 rfl rfl dL_law_2768 ?_
  refine x_EV1 (w1 := (wOu g ao fo) ++ (wMo g am u fi t2 dm th sa ln pa le sk nu h)) (wc := (wCl g ap ad r po pn pl tx rp rl rs rm rn rz sv mm)) [] [] C (k_X6_mostWorn l g ap ad r po pn pl tx rp rl rs rm rn rz sv mm H.clo) (List.append_assoc _ _ _).symm yV_X6_mostWorn wML_L_323 6 rfl rfl rfl rfl (nle rfl) (nle rfl) (nle rfl) (rmc hcC (by omega)) (rmc hsC (by omega)) dL_law_2769 (fun E w h => h.elim) (fun r0 w0 h0 => ?_)
  have hP := P_mostWorn r po pn pl tx rp rl rs rm rn rz sv mm u fi t2 dm th sa ln pa le sk nu h  H
  obtain ⟨rfl, rfl⟩ := h0
  refine x_ws (ws' := ((wOu g ao fo) ++ ((wMo g am u fi t2 dm th sa ln pa le sk nu h) ++ (wCl g ap ad r po pn pl tx rp rl rs rm rn rz sv mm)))) (List.append_assoc _ _ _) ?_
  refine x_st (st' := [.int ((sp_mow r (-1) 0 6).1)]) rfl ?_
  refine x_aload_n C 2 rfl rfl dL_law_2772 ?_
  refine x_FV (w1 := (wOu g ao fo)) (wc := (wMo g am u fi t2 dm th sa ln pa le sk nu h)) (w2 := (wCl g ap ad r po pn pl tx rp rl rs rm rn rz sv mm)) [] [.int ((sp_mow r (-1) 0 6).1)] ((wOu g ao fo) ++ ((wMo g am u fi t2 dm 0 sa ln pa le sk nu h) ++ (wCl g ap ad r po pn pl tx rp rl rs rm rn rz sv mm))) C (k_X7_mostWorn l g am u fi t2 dm th sa ln pa le sk nu h H.hs H.hs6 H.hm) rfl yV_X7_mostWorn wML_L_326 rfl 1 rfl rfl rfl rfl (nle rfl) (nle rfl) (nle rfl) (rmc hcC (by omega)) (rmc hsC (by omega)) dL_law_2773 ?_
  refine x_icmp_eq C 3131 (by decide) dL_law_2776 (fun _ => ?_) (fun hz => absurd hP.1 hz)
  refine x_wid (k := cells + 40) (n := slots + 300) (by omega) (by omega) ?_
  exact K r po pn pl tx rp rl rs rm rn rz sv mm u fi t2 dm 0 sa ln pa le sk nu h fo hP.2
set_option maxRecDepth 100000 in
set_option maxHeartbeats 2000000 in
theorem c_52 {p : Program} {l : Launch} {e : Env} {s : State} {m : MethodId} {args : Array Value} {below : List Frame} {meth : Method} {c : Code} {cells slots : Nat} {Q : State → Prop} {nm : String} {g : xGt} {A : Nat → Prop} {b L i : Nat} {xs : Nat → Int32} {ap ad am : Nat → Nat} {ao : Nat} {r : xR} {po : Int32} {pn : Int32} {pl : Int32} {tx : Nat → Int32} {rp : Int32} {rl : Int32} {rs : Int32} {rm : Int32} {rn : Int32} {rz : Int32} {sv : xPl} {mm : xPl} {u : Nat → Int32} {fi : Nat → Int32} {t2 : Nat → Int32} {dm : Nat → Int32} {th : Int32} {sa : Int32} {ln : Int32} {pa : Int32} {le : Int32} {sk : Int32} {nu : Int32} {h : Int64} {fo : Nat → Int64} (C : xC p l s m args meth c cL_law 9 RL nm g.1 (xT g) A) (hX : va_X b L xs s s.heap) (hbl : b < s.heap.size) (hbA : ¬ A b) (hi : i + 6 ≤ L) (hL : L ≤ 3072) (hcC : cells + 40 ≤ room_1.cells) (hsC : slots + 300 ≤ room_1.slots) (H : RI r po pn pl tx sv mm u fi t2 sa ln) (K : LK p l e s m args below meth c g A ap ad am ao b i (cells + 40) (slots + 300) Q) : xW p l e room_1 s m args below meth c g.1 A 9 cells slots Q (wLaw g ap ad am ao r po pn pl tx rp rl rs rm rn rz sv mm u fi t2 dm th sa ln pa le sk nu h fo) [(4, .int (nI i)), (3, .ref ao), (2, .ref (am 0)), (1, .ref (ap 0)), (0, .ref b)] 2822 [] := by
  refine x_ws (ws' := ((wOu g ao fo) ++ ((wMo g am u fi t2 dm th sa ln pa le sk nu h) ++ (wCl g ap ad r po pn pl tx rp rl rs rm rn rz sv mm)))) rfl ?_
  refine x_aload_n C 3 rfl rfl dL_law_2822 ?_
  refine x_aload_n C 4 rfl rfl dL_law_2823 ?_
  refine x_iload C 0 rfl dL_law_2824 ?_
  refine x_iconst C 1 (by decide) dL_law_2826 ?_
  refine x_iaddN C i 1 rfl rfl dL_law_2827 ?_
  refine x_sld C (i + 1) hX hbl hbA rfl (by omega) (by omega) dL_law_2828 ?_
  refine x_aload_n C 1 rfl rfl dL_law_2829 ?_
  refine x_callL (X := (wOu g ao fo)) (Y := (wMo g am u fi t2 dm th sa ln pa le sk nu h)) (Z := (wCl g ap ad r po pn pl tx rp rl rs rm rn rz sv mm)) [.ref (ap 0), .int (xs (i + 1)), .ref ao] [] C (k_L_append l g ao fo ap ad r po pn pl tx rp rl rs rm rn rz sv mm (xs (i + 1)) H.clo H.hpl) yH_L_append wML_L_332 rfl rfl rfl (nle rfl) (nle rfl) (nle rfl) (rmc hcC (by omega)) (rmc hsC (by omega)) dL_law_2830 (fun r0 w0 h0 => ?_)
  have hP := P_append r po pn pl tx rp rl rs rm rn rz sv mm u fi t2 dm th sa ln pa le sk nu h (xs (i + 1)) H
  rcases h0 with ⟨h1, rfl, w8, hw, rfl⟩ | ⟨E, cd, h1, hcd, rfl, rfl⟩
  · obtain rfl := hw
    obtain ⟨e1, e2, e3⟩ := hP.1 h1
    refine x_perm (ws' := ((wOu g ao (vp_updL fo 0 (Int32.toInt64 (pl + 1)))) ++ ((wMo g am u fi t2 dm th sa ln pa le sk nu h) ++ (wCl g ap ad r po pn (pl + 1) (upd tx (Int32.toNatClampNeg pl) (xs (i + 1))) rp rl rs rm rn rz sv mm)))) (List.perm_append_comm_assoc (wMo g am u fi t2 dm th sa ln pa le sk nu h) (wOu g ao (vp_updL fo 0 (Int32.toInt64 (pl + 1)))) (wCl g ap ad r po pn (pl + 1) (upd tx (Int32.toNatClampNeg pl) (xs (i + 1))) rp rl rs rm rn rz sv mm)) ?_
    refine x_st (st' := [.int 0]) rfl ?_
    refine x_istore C [(5, .int 0), (4, .int (nI i)), (3, .ref ao), (2, .ref (am 0)), (1, .ref (ap 0)), (0, .ref b)] rfl (by decide) dL_law_2833 ?_
    refine x_aload_n C 3 rfl rfl dL_law_2835 ?_
    refine x_aload_n C 5 rfl rfl dL_law_2836 ?_
    refine x_iload C 1 rfl dL_law_2837 ?_
    refine x_iconst C 1 (by decide) dL_law_2839 ?_
    refine x_iaddN C i 1 rfl rfl dL_law_2840 ?_
    refine x_sld C (i + 1) hX hbl hbA rfl (by omega) (by omega) dL_law_2841 ?_
    refine x_FV (w1 := (wOu g ao (vp_updL fo 0 (Int32.toInt64 (pl + 1))))) (wc := (wMo g am u fi t2 dm th sa ln pa le sk nu h)) (w2 := (wCl g ap ad r po pn (pl + 1) (upd tx (Int32.toNatClampNeg pl) (xs (i + 1))) rp rl rs rm rn rz sv mm)) [.int (xs (i + 1))] [] ((wOu g ao (vp_updL fo 0 (Int32.toInt64 (pl + 1)))) ++ ((wMo g am u fi (sp_X7_append_tx t2 ln (xs (i + 1))) dm (sp_X7_append_th ln (xs (i + 1))) sa (sp_X7_append_ln ln (xs (i + 1))) pa le sk nu h) ++ (wCl g ap ad r po pn (pl + 1) (upd tx (Int32.toNatClampNeg pl) (xs (i + 1))) rp rl rs rm rn rz sv mm))) C (k_X7_append l g am u fi t2 dm th sa ln pa le sk nu h (xs (i + 1)) H.hs H.hs6 H.hm H.hl H.hl6) rfl yV_X7_append wML_L_334 rfl 1 rfl rfl rfl rfl (nle rfl) (nle rfl) (nle rfl) (rmc hcC (by omega)) (rmc hsC (by omega)) dL_law_2842 ?_
    refine x_istore C [(6, .int (sp_X7_append ln (xs (i + 1)))), (5, .int 0), (4, .int (nI i)), (3, .ref ao), (2, .ref (am 0)), (1, .ref (ap 0)), (0, .ref b)] rfl (by decide) dL_law_2845 ?_
    refine x_aload_n C 4 rfl rfl dL_law_2847 ?_
    refine x_FV (w1 := (wOu g ao (vp_updL fo 0 (Int32.toInt64 (pl + 1))))) (wc := (wMo g am u fi (sp_X7_append_tx t2 ln (xs (i + 1))) dm (sp_X7_append_th ln (xs (i + 1))) sa (sp_X7_append_ln ln (xs (i + 1))) pa le sk nu h)) (w2 := (wCl g ap ad r po pn (pl + 1) (upd tx (Int32.toNatClampNeg pl) (xs (i + 1))) rp rl rs rm rn rz sv mm)) [] [] ((wOu g ao (vp_updL fo 0 (Int32.toInt64 (pl + 1)))) ++ ((wMo g am u fi (sp_X7_append_tx t2 ln (xs (i + 1))) dm (sp_X7_append_th ln (xs (i + 1))) sa (sp_X7_append_ln ln (xs (i + 1))) pa le sk nu h) ++ (wCl g ap ad r po pn (pl + 1) (upd tx (Int32.toNatClampNeg pl) (xs (i + 1))) rp rl rs rm rn rz sv mm))) C (k_X7_thrown l g am u fi (sp_X7_append_tx t2 ln (xs (i + 1))) dm (sp_X7_append_th ln (xs (i + 1))) sa (sp_X7_append_ln ln (xs (i + 1))) pa le sk nu h) rfl yV_X7_thrown wML_L_154 rfl 1 rfl rfl rfl rfl (nle rfl) (nle rfl) (nle rfl) (rmc hcC (by omega)) (rmc hsC (by omega)) dL_law_2848 ?_
    refine x_iload C 1 rfl dL_law_2851 ?_
    refine x_icmp_eq C 2858 (by decide) dL_law_2853 (fun _ => ?_) (fun hz => absurd e1 hz)
    refine x_iload C 1 rfl dL_law_2858 ?_
    refine x_if_ne C 2875 (by decide) dL_law_2860 (fun hz => absurd (by decide) hz) (fun _ => ?_)
    refine x_aload_n C 3 rfl rfl dL_law_2863 ?_
    refine x_iconst C 0 (by decide) dL_law_2864 ?_
    refine x_lald (f := (vp_updL fo 0 (Int32.toInt64 (pl + 1)))) C 0 3 rfl rfl in1 dL_law_2865 ?_
    refine x_st (st' := [.long (Int32.toInt64 (pl + 1))]) rfl ?_
    refine x_iload C 0 rfl dL_law_2866 ?_
    refine x_i2l C dL_law_2868 ?_
    refine x_lcmp C dL_law_2869 ?_
    refine x_if_eq C 2875 (by decide) dL_law_2870 (fun _ => ?_) (fun hz => absurd (lgz (congrArg Int32.toInt64 e2)) hz)
    refine x_goto C 3131 (by decide) dL_law_2875 ?_
    refine x_lv [(4, .int (nI i)), (3, .ref ao), (2, .ref (am 0)), (1, .ref (ap 0)), (0, .ref b)] [2, 3, 4, 5, 6] rfl ?_
    refine x_wid (k := cells + 40) (n := slots + 300) (by omega) (by omega) ?_
    exact K r po pn (pl + 1) (upd tx (Int32.toNatClampNeg pl) (xs (i + 1))) rp rl rs rm rn rz sv mm u fi (sp_X7_append_tx t2 ln (xs (i + 1))) dm (sp_X7_append_th ln (xs (i + 1))) sa (sp_X7_append_ln ln (xs (i + 1))) pa le sk nu h (vp_updL fo 0 (Int32.toInt64 (pl + 1))) e3
  · obtain ⟨e1, e3⟩ := hP.2 E cd h1 hcd
    refine x_perm (ws' := ((wOu g ao fo) ++ ((wMo g am u fi t2 dm th sa ln pa le sk nu h) ++ (wCl g ap ad r po pn pl tx rp rl rs rm rn rz sv mm)))) (List.perm_append_comm_assoc (wMo g am u fi t2 dm th sa ln pa le sk nu h) (wOu g ao fo) (wCl g ap ad r po pn pl tx rp rl rs rm rn rz sv mm)) ?_
    refine x_st (st' := [.int cd]) rfl ?_
    refine x_istore C [(5, .int cd), (4, .int (nI i)), (3, .ref ao), (2, .ref (am 0)), (1, .ref (ap 0)), (0, .ref b)] rfl (by decide) dL_law_2833 ?_
    refine x_aload_n C 3 rfl rfl dL_law_2835 ?_
    refine x_aload_n C 5 rfl rfl dL_law_2836 ?_
    refine x_iload C 1 rfl dL_law_2837 ?_
    refine x_iconst C 1 (by decide) dL_law_2839 ?_
    refine x_iaddN C i 1 rfl rfl dL_law_2840 ?_
    refine x_sld C (i + 1) hX hbl hbA rfl (by omega) (by omega) dL_law_2841 ?_
    refine x_FV (w1 := (wOu g ao fo)) (wc := (wMo g am u fi t2 dm th sa ln pa le sk nu h)) (w2 := (wCl g ap ad r po pn pl tx rp rl rs rm rn rz sv mm)) [.int (xs (i + 1))] [] ((wOu g ao fo) ++ ((wMo g am u fi (sp_X7_append_tx t2 ln (xs (i + 1))) dm (sp_X7_append_th ln (xs (i + 1))) sa (sp_X7_append_ln ln (xs (i + 1))) pa le sk nu h) ++ (wCl g ap ad r po pn pl tx rp rl rs rm rn rz sv mm))) C (k_X7_append l g am u fi t2 dm th sa ln pa le sk nu h (xs (i + 1)) H.hs H.hs6 H.hm H.hl H.hl6) rfl yV_X7_append wML_L_334 rfl 1 rfl rfl rfl rfl (nle rfl) (nle rfl) (nle rfl) (rmc hcC (by omega)) (rmc hsC (by omega)) dL_law_2842 ?_
    refine x_istore C [(6, .int (sp_X7_append ln (xs (i + 1)))), (5, .int cd), (4, .int (nI i)), (3, .ref ao), (2, .ref (am 0)), (1, .ref (ap 0)), (0, .ref b)] rfl (by decide) dL_law_2845 ?_
    refine x_aload_n C 4 rfl rfl dL_law_2847 ?_
    refine x_FV (w1 := (wOu g ao fo)) (wc := (wMo g am u fi (sp_X7_append_tx t2 ln (xs (i + 1))) dm (sp_X7_append_th ln (xs (i + 1))) sa (sp_X7_append_ln ln (xs (i + 1))) pa le sk nu h)) (w2 := (wCl g ap ad r po pn pl tx rp rl rs rm rn rz sv mm)) [] [] ((wOu g ao fo) ++ ((wMo g am u fi (sp_X7_append_tx t2 ln (xs (i + 1))) dm (sp_X7_append_th ln (xs (i + 1))) sa (sp_X7_append_ln ln (xs (i + 1))) pa le sk nu h) ++ (wCl g ap ad r po pn pl tx rp rl rs rm rn rz sv mm))) C (k_X7_thrown l g am u fi (sp_X7_append_tx t2 ln (xs (i + 1))) dm (sp_X7_append_th ln (xs (i + 1))) sa (sp_X7_append_ln ln (xs (i + 1))) pa le sk nu h) rfl yV_X7_thrown wML_L_154 rfl 1 rfl rfl rfl rfl (nle rfl) (nle rfl) (nle rfl) (rmc hcC (by omega)) (rmc hsC (by omega)) dL_law_2848 ?_
    refine x_iload C 1 rfl dL_law_2851 ?_
    refine x_icmp_eq C 2858 (by decide) dL_law_2853 (fun _ => ?_) (fun hz => absurd e1 hz)
    refine x_iload C 1 rfl dL_law_2858 ?_
    refine x_if_ne C 2875 (by decide) dL_law_2860 (fun _ => ?_) (fun hz => absurd hz (cd00 hcd))
    refine x_goto C 3131 (by decide) dL_law_2875 ?_
    refine x_lv [(4, .int (nI i)), (3, .ref ao), (2, .ref (am 0)), (1, .ref (ap 0)), (0, .ref b)] [2, 3, 4, 5, 6] rfl ?_
    refine x_wid (k := cells + 40) (n := slots + 300) (by omega) (by omega) ?_
    exact K r po pn pl tx rp rl rs rm rn rz sv mm u fi (sp_X7_append_tx t2 ln (xs (i + 1))) dm (sp_X7_append_th ln (xs (i + 1))) sa (sp_X7_append_ln ln (xs (i + 1))) pa le sk nu h fo e3
set_option maxRecDepth 100000 in
set_option maxHeartbeats 2000000 in
theorem c_53 {p : Program} {l : Launch} {e : Env} {s : State} {m : MethodId} {args : Array Value} {below : List Frame} {meth : Method} {c : Code} {cells slots : Nat} {Q : State → Prop} {nm : String} {g : xGt} {A : Nat → Prop} {b L i : Nat} {xs : Nat → Int32} {ap ad am : Nat → Nat} {ao : Nat} {r : xR} {po : Int32} {pn : Int32} {pl : Int32} {tx : Nat → Int32} {rp : Int32} {rl : Int32} {rs : Int32} {rm : Int32} {rn : Int32} {rz : Int32} {sv : xPl} {mm : xPl} {u : Nat → Int32} {fi : Nat → Int32} {t2 : Nat → Int32} {dm : Nat → Int32} {th : Int32} {sa : Int32} {ln : Int32} {pa : Int32} {le : Int32} {sk : Int32} {nu : Int32} {h : Int64} {fo : Nat → Int64} (C : xC p l s m args meth c cL_law 9 RL nm g.1 (xT g) A) (hX : va_X b L xs s s.heap) (hbl : b < s.heap.size) (hbA : ¬ A b) (hi : i + 6 ≤ L) (hL : L ≤ 3072) (hcC : cells + 40 ≤ room_1.cells) (hsC : slots + 300 ≤ room_1.slots) (H : RI r po pn pl tx sv mm u fi t2 sa ln) (K : LK p l e s m args below meth c g A ap ad am ao b i (cells + 40) (slots + 300) Q) : xW p l e room_1 s m args below meth c g.1 A 9 cells slots Q (wLaw g ap ad am ao r po pn pl tx rp rl rs rm rn rz sv mm u fi t2 dm th sa ln pa le sk nu h fo) [(4, .int (nI i)), (3, .ref ao), (2, .ref (am 0)), (1, .ref (ap 0)), (0, .ref b)] 2878 [] := by
  refine x_ws (ws' := ((wOu g ao fo) ++ ((wMo g am u fi t2 dm th sa ln pa le sk nu h) ++ (wCl g ap ad r po pn pl tx rp rl rs rm rn rz sv mm)))) rfl ?_
  refine x_aload_n C 3 rfl rfl dL_law_2878 ?_
  refine x_EV1 (w1 := (wOu g ao fo) ++ (wMo g am u fi t2 dm th sa ln pa le sk nu h)) (wc := (wCl g ap ad r po pn pl tx rp rl rs rm rn rz sv mm)) [] [] C (k_X6_clearText l g ap ad r po pn pl tx rp rl rs rm rn rz sv mm H.clo) (List.append_assoc _ _ _).symm yV_X6_clearText wML_L_335 6 rfl rfl rfl rfl (nle rfl) (nle rfl) (nle rfl) (rmc hcC (by omega)) (rmc hsC (by omega)) dL_law_2879 (fun E w h => h.elim) (fun r0 w0 h0 => ?_)
  have hP := P_clearText r po pn pl tx rp rl rs rm rn rz sv mm u fi t2 dm th sa ln pa le sk nu h  H
  obtain ⟨rfl, rfl⟩ := h0
  refine x_ws (ws' := ((wOu g ao fo) ++ ((wMo g am u fi t2 dm th sa ln pa le sk nu h) ++ (wCl g ap ad r po pn 0 tx rp rl rs rm rn rz sv mm)))) (List.append_assoc _ _ _) ?_
  refine x_st (st' := [.int pl]) rfl ?_
  refine x_aload_n C 2 rfl rfl dL_law_2882 ?_
  refine x_FV (w1 := (wOu g ao fo)) (wc := (wMo g am u fi t2 dm th sa ln pa le sk nu h)) (w2 := (wCl g ap ad r po pn 0 tx rp rl rs rm rn rz sv mm)) [] [.int pl] ((wOu g ao fo) ++ ((wMo g am u fi t2 dm 0 sa 0 pa le sk nu h) ++ (wCl g ap ad r po pn 0 tx rp rl rs rm rn rz sv mm))) C (k_X7_clearText l g am u fi t2 dm th sa ln pa le sk nu h H.hs H.hs6 H.hm) rfl yV_X7_clearText wML_L_338 rfl 1 rfl rfl rfl rfl (nle rfl) (nle rfl) (nle rfl) (rmc hcC (by omega)) (rmc hsC (by omega)) dL_law_2883 ?_
  refine x_icmp_eq C 3131 (by decide) dL_law_2886 (fun _ => ?_) (fun hz => absurd hP.1 hz)
  refine x_wid (k := cells + 40) (n := slots + 300) (by omega) (by omega) ?_
  exact K r po pn 0 tx rp rl rs rm rn rz sv mm u fi t2 dm 0 sa 0 pa le sk nu h fo hP.2
set_option maxRecDepth 100000 in
set_option maxHeartbeats 2000000 in
theorem c_54 {p : Program} {l : Launch} {e : Env} {s : State} {m : MethodId} {args : Array Value} {below : List Frame} {meth : Method} {c : Code} {cells slots : Nat} {Q : State → Prop} {nm : String} {g : xGt} {A : Nat → Prop} {b L i : Nat} {xs : Nat → Int32} {ap ad am : Nat → Nat} {ao : Nat} {r : xR} {po : Int32} {pn : Int32} {pl : Int32} {tx : Nat → Int32} {rp : Int32} {rl : Int32} {rs : Int32} {rm : Int32} {rn : Int32} {rz : Int32} {sv : xPl} {mm : xPl} {u : Nat → Int32} {fi : Nat → Int32} {t2 : Nat → Int32} {dm : Nat → Int32} {th : Int32} {sa : Int32} {ln : Int32} {pa : Int32} {le : Int32} {sk : Int32} {nu : Int32} {h : Int64} {fo : Nat → Int64} (C : xC p l s m args meth c cL_law 9 RL nm g.1 (xT g) A) (hX : va_X b L xs s s.heap) (hbl : b < s.heap.size) (hbA : ¬ A b) (hi : i + 6 ≤ L) (hL : L ≤ 3072) (hcC : cells + 40 ≤ room_1.cells) (hsC : slots + 300 ≤ room_1.slots) (H : RI r po pn pl tx sv mm u fi t2 sa ln) (K : LK p l e s m args below meth c g A ap ad am ao b i (cells + 40) (slots + 300) Q) : xW p l e room_1 s m args below meth c g.1 A 9 cells slots Q (wLaw g ap ad am ao r po pn pl tx rp rl rs rm rn rz sv mm u fi t2 dm th sa ln pa le sk nu h fo) [(4, .int (nI i)), (3, .ref ao), (2, .ref (am 0)), (1, .ref (ap 0)), (0, .ref b)] 2891 [] := by
  refine x_ws (ws' := ((wOu g ao fo) ++ ((wMo g am u fi t2 dm th sa ln pa le sk nu h) ++ (wCl g ap ad r po pn pl tx rp rl rs rm rn rz sv mm)))) rfl ?_
  refine x_aload_n C 3 rfl rfl dL_law_2891 ?_
  refine x_EV1 (w1 := (wOu g ao fo) ++ (wMo g am u fi t2 dm th sa ln pa le sk nu h)) (wc := (wCl g ap ad r po pn pl tx rp rl rs rm rn rz sv mm)) [] [] C (k_X6_firstError l g ap ad r po pn pl tx rp rl rs rm rn rz sv mm H.clo H.hpl) (List.append_assoc _ _ _).symm yV_X6_firstError wML_L_339 6 rfl rfl rfl rfl (nle rfl) (nle rfl) (nle rfl) (rmc hcC (by omega)) (rmc hsC (by omega)) dL_law_2892 (fun E w h => h.elim) (fun r0 w0 h0 => ?_)
  have hP := P_firstError r po pn pl tx rp rl rs rm rn rz sv mm u fi t2 dm th sa ln pa le sk nu h  H
  obtain ⟨rfl, rfl⟩ := h0
  refine x_ws (ws' := ((wOu g ao fo) ++ ((wMo g am u fi t2 dm th sa ln pa le sk nu h) ++ (wCl g ap ad r po pn pl tx ((sp_fer pl tx 61 0 0 rl rs rm 0 0).2.2.1) ((sp_fer pl tx 61 0 0 rl rs rm 0 0).2.2.2.1) ((sp_fer pl tx 61 0 0 rl rs rm 0 0).2.2.2.2.1) ((sp_fer pl tx 61 0 0 rl rs rm 0 0).2.2.2.2.2.1) ((sp_fer pl tx 61 0 0 rl rs rm 0 0).2.2.2.2.2.2.1) ((sp_fer pl tx 61 0 0 rl rs rm 0 0).2.2.2.2.2.2.2) sv mm)))) (List.append_assoc _ _ _) ?_
  refine x_st (st' := [.int ((sp_fer pl tx 61 0 0 rl rs rm 0 0).1)]) rfl ?_
  refine x_aload_n C 2 rfl rfl dL_law_2895 ?_
  refine x_FV (w1 := (wOu g ao fo)) (wc := (wMo g am u fi t2 dm th sa ln pa le sk nu h)) (w2 := (wCl g ap ad r po pn pl tx ((sp_fer pl tx 61 0 0 rl rs rm 0 0).2.2.1) ((sp_fer pl tx 61 0 0 rl rs rm 0 0).2.2.2.1) ((sp_fer pl tx 61 0 0 rl rs rm 0 0).2.2.2.2.1) ((sp_fer pl tx 61 0 0 rl rs rm 0 0).2.2.2.2.2.1) ((sp_fer pl tx 61 0 0 rl rs rm 0 0).2.2.2.2.2.2.1) ((sp_fer pl tx 61 0 0 rl rs rm 0 0).2.2.2.2.2.2.2) sv mm)) [] [.int ((sp_fer pl tx 61 0 0 rl rs rm 0 0).1)] ((wOu g ao fo) ++ ((wMo g am u fi t2 dm 0 sa ln ((sp_ipl t2 ln 61 0 le sk nu).2.1) ((sp_ipl t2 ln 61 0 le sk nu).2.2.1) ((sp_ipl t2 ln 61 0 le sk nu).2.2.2.1) ((sp_ipl t2 ln 61 0 le sk nu).2.2.2.2) h) ++ (wCl g ap ad r po pn pl tx ((sp_fer pl tx 61 0 0 rl rs rm 0 0).2.2.1) ((sp_fer pl tx 61 0 0 rl rs rm 0 0).2.2.2.1) ((sp_fer pl tx 61 0 0 rl rs rm 0 0).2.2.2.2.1) ((sp_fer pl tx 61 0 0 rl rs rm 0 0).2.2.2.2.2.1) ((sp_fer pl tx 61 0 0 rl rs rm 0 0).2.2.2.2.2.2.1) ((sp_fer pl tx 61 0 0 rl rs rm 0 0).2.2.2.2.2.2.2) sv mm))) C (k_X7_firstError l g am u fi t2 dm th sa ln pa le sk nu h H.hs H.hs6 H.hm H.hln) rfl yV_X7_firstError wML_L_342 rfl 1 rfl rfl rfl rfl (nle rfl) (nle rfl) (nle rfl) (rmc hcC (by omega)) (rmc hsC (by omega)) dL_law_2896 ?_
  refine x_icmp_eq C 3131 (by decide) dL_law_2899 (fun _ => ?_) (fun hz => absurd hP.1 hz)
  refine x_wid (k := cells + 40) (n := slots + 300) (by omega) (by omega) ?_
  exact K r po pn pl tx ((sp_fer pl tx 61 0 0 rl rs rm 0 0).2.2.1) ((sp_fer pl tx 61 0 0 rl rs rm 0 0).2.2.2.1) ((sp_fer pl tx 61 0 0 rl rs rm 0 0).2.2.2.2.1) ((sp_fer pl tx 61 0 0 rl rs rm 0 0).2.2.2.2.2.1) ((sp_fer pl tx 61 0 0 rl rs rm 0 0).2.2.2.2.2.2.1) ((sp_fer pl tx 61 0 0 rl rs rm 0 0).2.2.2.2.2.2.2) sv mm u fi t2 dm 0 sa ln ((sp_ipl t2 ln 61 0 le sk nu).2.1) ((sp_ipl t2 ln 61 0 le sk nu).2.2.1) ((sp_ipl t2 ln 61 0 le sk nu).2.2.2.1) ((sp_ipl t2 ln 61 0 le sk nu).2.2.2.2) h fo hP.2
set_option maxRecDepth 100000 in
set_option maxHeartbeats 2000000 in
theorem c_55 {p : Program} {l : Launch} {e : Env} {s : State} {m : MethodId} {args : Array Value} {below : List Frame} {meth : Method} {c : Code} {cells slots : Nat} {Q : State → Prop} {nm : String} {g : xGt} {A : Nat → Prop} {b L i : Nat} {xs : Nat → Int32} {ap ad am : Nat → Nat} {ao : Nat} {r : xR} {po : Int32} {pn : Int32} {pl : Int32} {tx : Nat → Int32} {rp : Int32} {rl : Int32} {rs : Int32} {rm : Int32} {rn : Int32} {rz : Int32} {sv : xPl} {mm : xPl} {u : Nat → Int32} {fi : Nat → Int32} {t2 : Nat → Int32} {dm : Nat → Int32} {th : Int32} {sa : Int32} {ln : Int32} {pa : Int32} {le : Int32} {sk : Int32} {nu : Int32} {h : Int64} {fo : Nat → Int64} (C : xC p l s m args meth c cL_law 9 RL nm g.1 (xT g) A) (hX : va_X b L xs s s.heap) (hbl : b < s.heap.size) (hbA : ¬ A b) (hi : i + 6 ≤ L) (hL : L ≤ 3072) (hcC : cells + 40 ≤ room_1.cells) (hsC : slots + 300 ≤ room_1.slots) (H : RI r po pn pl tx sv mm u fi t2 sa ln) (K : LK p l e s m args below meth c g A ap ad am ao b i (cells + 40) (slots + 300) Q) : xW p l e room_1 s m args below meth c g.1 A 9 cells slots Q (wLaw g ap ad am ao r po pn pl tx rp rl rs rm rn rz sv mm u fi t2 dm th sa ln pa le sk nu h fo) [(4, .int (nI i)), (3, .ref ao), (2, .ref (am 0)), (1, .ref (ap 0)), (0, .ref b)] 2904 [] := by
  refine x_ws (ws' := ((wOu g ao fo) ++ ((wMo g am u fi t2 dm th sa ln pa le sk nu h) ++ (wCl g ap ad r po pn pl tx rp rl rs rm rn rz sv mm)))) rfl ?_
  refine x_aload_n C 3 rfl rfl dL_law_2904 ?_
  refine x_aload_n C 1 rfl rfl dL_law_2905 ?_
  refine x_callL (X := (wOu g ao fo)) (Y := (wMo g am u fi t2 dm th sa ln pa le sk nu h)) (Z := (wCl g ap ad r po pn pl tx rp rl rs rm rn rz sv mm)) [.ref (ap 0), .ref ao] [] C (k_L_run l g ao fo ap ad r po pn pl tx rp rl rs rm rn rz sv mm  H.clo H.hpl H.hrd) yH_L_run wML_L_343 rfl rfl rfl (nle rfl) (nle rfl) (nle rfl) (rmc hcC (by omega)) (rmc hsC (by omega)) dL_law_2906 (fun r0 w0 h0 => ?_)
  have hP := P_run r po pn pl tx rp rl rs rm rn rz sv mm u fi t2 dm th sa ln pa le sk nu h  H
  rcases h0 with ⟨h1, rfl, w8, hw, rfl⟩ | ⟨E, cd, h1, hcd, rfl, rfl⟩
  · obtain ⟨adn, rfl⟩ := hw
    obtain ⟨e1, e2, e3⟩ := hP.1 h1
    refine x_perm (ws' := ((wOu g ao (vp_updL fo 0 (Int32.toInt64 (ruV r pl tx rl rs rm)))) ++ ((wMo g am u fi t2 dm th sa ln pa le sk nu h) ++ (wCl g ap ad (ruR r pl tx rl rs rm) (sp_spo2 po pn) (sp_spn2 pn) 0 tx ((rdI tx (ferQ pl tx rl rs rm) (Int32.toNatClampNeg pl)).1) ((rdI tx (ferQ pl tx rl rs rm) (Int32.toNatClampNeg pl)).2.1) ((rdI tx (ferQ pl tx rl rs rm) (Int32.toNatClampNeg pl)).2.2.1) ((rdI tx (ferQ pl tx rl rs rm) (Int32.toNatClampNeg pl)).2.2.2.1) ((rdI tx (ferQ pl tx rl rs rm) (Int32.toNatClampNeg pl)).2.2.2.2.1) ((rdI tx (ferQ pl tx rl rs rm) (Int32.toNatClampNeg pl)).2.2.2.2.2) (svS sv adn r po pn) mm)))) (List.perm_append_comm_assoc (wMo g am u fi t2 dm th sa ln pa le sk nu h) (wOu g ao (vp_updL fo 0 (Int32.toInt64 (ruV r pl tx rl rs rm)))) (wCl g ap ad (ruR r pl tx rl rs rm) (sp_spo2 po pn) (sp_spn2 pn) 0 tx ((rdI tx (ferQ pl tx rl rs rm) (Int32.toNatClampNeg pl)).1) ((rdI tx (ferQ pl tx rl rs rm) (Int32.toNatClampNeg pl)).2.1) ((rdI tx (ferQ pl tx rl rs rm) (Int32.toNatClampNeg pl)).2.2.1) ((rdI tx (ferQ pl tx rl rs rm) (Int32.toNatClampNeg pl)).2.2.2.1) ((rdI tx (ferQ pl tx rl rs rm) (Int32.toNatClampNeg pl)).2.2.2.2.1) ((rdI tx (ferQ pl tx rl rs rm) (Int32.toNatClampNeg pl)).2.2.2.2.2) (svS sv adn r po pn) mm)) ?_
    refine x_st (st' := [.int 0]) rfl ?_
    refine x_istore C [(5, .int 0), (4, .int (nI i)), (3, .ref ao), (2, .ref (am 0)), (1, .ref (ap 0)), (0, .ref b)] rfl (by decide) dL_law_2909 ?_
    refine x_aload_n C 3 rfl rfl dL_law_2911 ?_
    refine x_FV (w1 := (wOu g ao (vp_updL fo 0 (Int32.toInt64 (ruV r pl tx rl rs rm))))) (wc := (wMo g am u fi t2 dm th sa ln pa le sk nu h)) (w2 := (wCl g ap ad (ruR r pl tx rl rs rm) (sp_spo2 po pn) (sp_spn2 pn) 0 tx ((rdI tx (ferQ pl tx rl rs rm) (Int32.toNatClampNeg pl)).1) ((rdI tx (ferQ pl tx rl rs rm) (Int32.toNatClampNeg pl)).2.1) ((rdI tx (ferQ pl tx rl rs rm) (Int32.toNatClampNeg pl)).2.2.1) ((rdI tx (ferQ pl tx rl rs rm) (Int32.toNatClampNeg pl)).2.2.2.1) ((rdI tx (ferQ pl tx rl rs rm) (Int32.toNatClampNeg pl)).2.2.2.2.1) ((rdI tx (ferQ pl tx rl rs rm) (Int32.toNatClampNeg pl)).2.2.2.2.2) (svS sv adn r po pn) mm)) [] [] ((wOu g ao (vp_updL fo 0 (Int32.toInt64 (ruV r pl tx rl rs rm)))) ++ ((wMo g am (sp_X7_run_s u t2 dm sa ln le sk nu) fi t2 (sp_X7_run_dm u t2 dm sa ln le sk nu) (sp_X7_run_th t2 ln le sk nu) (sp_X7_run_sa t2 sa ln le sk nu) (sp_X7_run_ln t2 ln le sk nu) (sp_X7_run_pa u t2 dm sa ln le sk nu) (sp_X7_run_le u t2 dm sa ln le sk nu) (sp_X7_run_sk u t2 dm sa ln le sk nu) (sp_X7_run_nu u t2 dm sa ln le sk nu) h) ++ (wCl g ap ad (ruR r pl tx rl rs rm) (sp_spo2 po pn) (sp_spn2 pn) 0 tx ((rdI tx (ferQ pl tx rl rs rm) (Int32.toNatClampNeg pl)).1) ((rdI tx (ferQ pl tx rl rs rm) (Int32.toNatClampNeg pl)).2.1) ((rdI tx (ferQ pl tx rl rs rm) (Int32.toNatClampNeg pl)).2.2.1) ((rdI tx (ferQ pl tx rl rs rm) (Int32.toNatClampNeg pl)).2.2.2.1) ((rdI tx (ferQ pl tx rl rs rm) (Int32.toNatClampNeg pl)).2.2.2.2.1) ((rdI tx (ferQ pl tx rl rs rm) (Int32.toNatClampNeg pl)).2.2.2.2.2) (svS sv adn r po pn) mm))) C (k_X7_run l g am u fi t2 dm th sa ln pa le sk nu h H.hs H.hs6 H.hm H.hln) rfl yV_X7_run wML_L_346 rfl 1 rfl rfl rfl rfl (nle rfl) (nle rfl) (nle rfl) (rmc hcC (by omega)) (rmc hsC (by omega)) dL_law_2912 ?_
    refine x_istore C [(6, .int (sp_X7_run u t2 dm sa ln le sk nu)), (5, .int 0), (4, .int (nI i)), (3, .ref ao), (2, .ref (am 0)), (1, .ref (ap 0)), (0, .ref b)] rfl (by decide) dL_law_2915 ?_
    refine x_aload_n C 4 rfl rfl dL_law_2917 ?_
    refine x_FV (w1 := (wOu g ao (vp_updL fo 0 (Int32.toInt64 (ruV r pl tx rl rs rm))))) (wc := (wMo g am (sp_X7_run_s u t2 dm sa ln le sk nu) fi t2 (sp_X7_run_dm u t2 dm sa ln le sk nu) (sp_X7_run_th t2 ln le sk nu) (sp_X7_run_sa t2 sa ln le sk nu) (sp_X7_run_ln t2 ln le sk nu) (sp_X7_run_pa u t2 dm sa ln le sk nu) (sp_X7_run_le u t2 dm sa ln le sk nu) (sp_X7_run_sk u t2 dm sa ln le sk nu) (sp_X7_run_nu u t2 dm sa ln le sk nu) h)) (w2 := (wCl g ap ad (ruR r pl tx rl rs rm) (sp_spo2 po pn) (sp_spn2 pn) 0 tx ((rdI tx (ferQ pl tx rl rs rm) (Int32.toNatClampNeg pl)).1) ((rdI tx (ferQ pl tx rl rs rm) (Int32.toNatClampNeg pl)).2.1) ((rdI tx (ferQ pl tx rl rs rm) (Int32.toNatClampNeg pl)).2.2.1) ((rdI tx (ferQ pl tx rl rs rm) (Int32.toNatClampNeg pl)).2.2.2.1) ((rdI tx (ferQ pl tx rl rs rm) (Int32.toNatClampNeg pl)).2.2.2.2.1) ((rdI tx (ferQ pl tx rl rs rm) (Int32.toNatClampNeg pl)).2.2.2.2.2) (svS sv adn r po pn) mm)) [] [] ((wOu g ao (vp_updL fo 0 (Int32.toInt64 (ruV r pl tx rl rs rm)))) ++ ((wMo g am (sp_X7_run_s u t2 dm sa ln le sk nu) fi t2 (sp_X7_run_dm u t2 dm sa ln le sk nu) (sp_X7_run_th t2 ln le sk nu) (sp_X7_run_sa t2 sa ln le sk nu) (sp_X7_run_ln t2 ln le sk nu) (sp_X7_run_pa u t2 dm sa ln le sk nu) (sp_X7_run_le u t2 dm sa ln le sk nu) (sp_X7_run_sk u t2 dm sa ln le sk nu) (sp_X7_run_nu u t2 dm sa ln le sk nu) h) ++ (wCl g ap ad (ruR r pl tx rl rs rm) (sp_spo2 po pn) (sp_spn2 pn) 0 tx ((rdI tx (ferQ pl tx rl rs rm) (Int32.toNatClampNeg pl)).1) ((rdI tx (ferQ pl tx rl rs rm) (Int32.toNatClampNeg pl)).2.1) ((rdI tx (ferQ pl tx rl rs rm) (Int32.toNatClampNeg pl)).2.2.1) ((rdI tx (ferQ pl tx rl rs rm) (Int32.toNatClampNeg pl)).2.2.2.1) ((rdI tx (ferQ pl tx rl rs rm) (Int32.toNatClampNeg pl)).2.2.2.2.1) ((rdI tx (ferQ pl tx rl rs rm) (Int32.toNatClampNeg pl)).2.2.2.2.2) (svS sv adn r po pn) mm))) C (k_X7_thrown l g am (sp_X7_run_s u t2 dm sa ln le sk nu) fi t2 (sp_X7_run_dm u t2 dm sa ln le sk nu) (sp_X7_run_th t2 ln le sk nu) (sp_X7_run_sa t2 sa ln le sk nu) (sp_X7_run_ln t2 ln le sk nu) (sp_X7_run_pa u t2 dm sa ln le sk nu) (sp_X7_run_le u t2 dm sa ln le sk nu) (sp_X7_run_sk u t2 dm sa ln le sk nu) (sp_X7_run_nu u t2 dm sa ln le sk nu) h) rfl yV_X7_thrown wML_L_154 rfl 1 rfl rfl rfl rfl (nle rfl) (nle rfl) (nle rfl) (rmc hcC (by omega)) (rmc hsC (by omega)) dL_law_2918 ?_
    refine x_iload C 1 rfl dL_law_2921 ?_
    refine x_icmp_eq C 2928 (by decide) dL_law_2923 (fun _ => ?_) (fun hz => absurd e1 hz)
    refine x_iload C 1 rfl dL_law_2928 ?_
    refine x_if_ne C 2945 (by decide) dL_law_2930 (fun hz => absurd (by decide) hz) (fun _ => ?_)
    refine x_aload_n C 3 rfl rfl dL_law_2933 ?_
    refine x_iconst C 0 (by decide) dL_law_2934 ?_
    refine x_lald (f := (vp_updL fo 0 (Int32.toInt64 (ruV r pl tx rl rs rm)))) C 0 3 rfl rfl in1 dL_law_2935 ?_
    refine x_st (st' := [.long (Int32.toInt64 (ruV r pl tx rl rs rm))]) rfl ?_
    refine x_iload C 0 rfl dL_law_2936 ?_
    refine x_i2l C dL_law_2938 ?_
    refine x_lcmp C dL_law_2939 ?_
    refine x_if_eq C 2945 (by decide) dL_law_2940 (fun _ => ?_) (fun hz => absurd (lgz (congrArg Int32.toInt64 e2)) hz)
    refine x_goto C 3131 (by decide) dL_law_2945 ?_
    refine x_lv [(4, .int (nI i)), (3, .ref ao), (2, .ref (am 0)), (1, .ref (ap 0)), (0, .ref b)] [2, 3, 4, 5, 6] rfl ?_
    refine x_wid (k := cells + 40) (n := slots + 300) (by omega) (by omega) ?_
    exact K (ruR r pl tx rl rs rm) (sp_spo2 po pn) (sp_spn2 pn) 0 tx ((rdI tx (ferQ pl tx rl rs rm) (Int32.toNatClampNeg pl)).1) ((rdI tx (ferQ pl tx rl rs rm) (Int32.toNatClampNeg pl)).2.1) ((rdI tx (ferQ pl tx rl rs rm) (Int32.toNatClampNeg pl)).2.2.1) ((rdI tx (ferQ pl tx rl rs rm) (Int32.toNatClampNeg pl)).2.2.2.1) ((rdI tx (ferQ pl tx rl rs rm) (Int32.toNatClampNeg pl)).2.2.2.2.1) ((rdI tx (ferQ pl tx rl rs rm) (Int32.toNatClampNeg pl)).2.2.2.2.2) (svS sv adn r po pn) mm (sp_X7_run_s u t2 dm sa ln le sk nu) fi t2 (sp_X7_run_dm u t2 dm sa ln le sk nu) (sp_X7_run_th t2 ln le sk nu) (sp_X7_run_sa t2 sa ln le sk nu) (sp_X7_run_ln t2 ln le sk nu) (sp_X7_run_pa u t2 dm sa ln le sk nu) (sp_X7_run_le u t2 dm sa ln le sk nu) (sp_X7_run_sk u t2 dm sa ln le sk nu) (sp_X7_run_nu u t2 dm sa ln le sk nu) h (vp_updL fo 0 (Int32.toInt64 (ruV r pl tx rl rs rm))) (e3 adn)
  · obtain ⟨e1, e3⟩ := hP.2 E cd h1 hcd
    refine x_perm (ws' := ((wOu g ao fo) ++ ((wMo g am u fi t2 dm th sa ln pa le sk nu h) ++ (wCl g ap ad r po pn pl tx ((sp_fer pl tx 61 0 0 rl rs rm 0 0).2.2.1) ((sp_fer pl tx 61 0 0 rl rs rm 0 0).2.2.2.1) ((sp_fer pl tx 61 0 0 rl rs rm 0 0).2.2.2.2.1) ((sp_fer pl tx 61 0 0 rl rs rm 0 0).2.2.2.2.2.1) ((sp_fer pl tx 61 0 0 rl rs rm 0 0).2.2.2.2.2.2.1) ((sp_fer pl tx 61 0 0 rl rs rm 0 0).2.2.2.2.2.2.2) sv mm)))) (List.perm_append_comm_assoc (wMo g am u fi t2 dm th sa ln pa le sk nu h) (wOu g ao fo) (wCl g ap ad r po pn pl tx ((sp_fer pl tx 61 0 0 rl rs rm 0 0).2.2.1) ((sp_fer pl tx 61 0 0 rl rs rm 0 0).2.2.2.1) ((sp_fer pl tx 61 0 0 rl rs rm 0 0).2.2.2.2.1) ((sp_fer pl tx 61 0 0 rl rs rm 0 0).2.2.2.2.2.1) ((sp_fer pl tx 61 0 0 rl rs rm 0 0).2.2.2.2.2.2.1) ((sp_fer pl tx 61 0 0 rl rs rm 0 0).2.2.2.2.2.2.2) sv mm)) ?_
    refine x_st (st' := [.int cd]) rfl ?_
    refine x_istore C [(5, .int cd), (4, .int (nI i)), (3, .ref ao), (2, .ref (am 0)), (1, .ref (ap 0)), (0, .ref b)] rfl (by decide) dL_law_2909 ?_
    refine x_aload_n C 3 rfl rfl dL_law_2911 ?_
    refine x_FV (w1 := (wOu g ao fo)) (wc := (wMo g am u fi t2 dm th sa ln pa le sk nu h)) (w2 := (wCl g ap ad r po pn pl tx ((sp_fer pl tx 61 0 0 rl rs rm 0 0).2.2.1) ((sp_fer pl tx 61 0 0 rl rs rm 0 0).2.2.2.1) ((sp_fer pl tx 61 0 0 rl rs rm 0 0).2.2.2.2.1) ((sp_fer pl tx 61 0 0 rl rs rm 0 0).2.2.2.2.2.1) ((sp_fer pl tx 61 0 0 rl rs rm 0 0).2.2.2.2.2.2.1) ((sp_fer pl tx 61 0 0 rl rs rm 0 0).2.2.2.2.2.2.2) sv mm)) [] [] ((wOu g ao fo) ++ ((wMo g am (sp_X7_run_s u t2 dm sa ln le sk nu) fi t2 (sp_X7_run_dm u t2 dm sa ln le sk nu) (sp_X7_run_th t2 ln le sk nu) (sp_X7_run_sa t2 sa ln le sk nu) (sp_X7_run_ln t2 ln le sk nu) (sp_X7_run_pa u t2 dm sa ln le sk nu) (sp_X7_run_le u t2 dm sa ln le sk nu) (sp_X7_run_sk u t2 dm sa ln le sk nu) (sp_X7_run_nu u t2 dm sa ln le sk nu) h) ++ (wCl g ap ad r po pn pl tx ((sp_fer pl tx 61 0 0 rl rs rm 0 0).2.2.1) ((sp_fer pl tx 61 0 0 rl rs rm 0 0).2.2.2.1) ((sp_fer pl tx 61 0 0 rl rs rm 0 0).2.2.2.2.1) ((sp_fer pl tx 61 0 0 rl rs rm 0 0).2.2.2.2.2.1) ((sp_fer pl tx 61 0 0 rl rs rm 0 0).2.2.2.2.2.2.1) ((sp_fer pl tx 61 0 0 rl rs rm 0 0).2.2.2.2.2.2.2) sv mm))) C (k_X7_run l g am u fi t2 dm th sa ln pa le sk nu h H.hs H.hs6 H.hm H.hln) rfl yV_X7_run wML_L_346 rfl 1 rfl rfl rfl rfl (nle rfl) (nle rfl) (nle rfl) (rmc hcC (by omega)) (rmc hsC (by omega)) dL_law_2912 ?_
    refine x_istore C [(6, .int (sp_X7_run u t2 dm sa ln le sk nu)), (5, .int cd), (4, .int (nI i)), (3, .ref ao), (2, .ref (am 0)), (1, .ref (ap 0)), (0, .ref b)] rfl (by decide) dL_law_2915 ?_
    refine x_aload_n C 4 rfl rfl dL_law_2917 ?_
    refine x_FV (w1 := (wOu g ao fo)) (wc := (wMo g am (sp_X7_run_s u t2 dm sa ln le sk nu) fi t2 (sp_X7_run_dm u t2 dm sa ln le sk nu) (sp_X7_run_th t2 ln le sk nu) (sp_X7_run_sa t2 sa ln le sk nu) (sp_X7_run_ln t2 ln le sk nu) (sp_X7_run_pa u t2 dm sa ln le sk nu) (sp_X7_run_le u t2 dm sa ln le sk nu) (sp_X7_run_sk u t2 dm sa ln le sk nu) (sp_X7_run_nu u t2 dm sa ln le sk nu) h)) (w2 := (wCl g ap ad r po pn pl tx ((sp_fer pl tx 61 0 0 rl rs rm 0 0).2.2.1) ((sp_fer pl tx 61 0 0 rl rs rm 0 0).2.2.2.1) ((sp_fer pl tx 61 0 0 rl rs rm 0 0).2.2.2.2.1) ((sp_fer pl tx 61 0 0 rl rs rm 0 0).2.2.2.2.2.1) ((sp_fer pl tx 61 0 0 rl rs rm 0 0).2.2.2.2.2.2.1) ((sp_fer pl tx 61 0 0 rl rs rm 0 0).2.2.2.2.2.2.2) sv mm)) [] [] ((wOu g ao fo) ++ ((wMo g am (sp_X7_run_s u t2 dm sa ln le sk nu) fi t2 (sp_X7_run_dm u t2 dm sa ln le sk nu) (sp_X7_run_th t2 ln le sk nu) (sp_X7_run_sa t2 sa ln le sk nu) (sp_X7_run_ln t2 ln le sk nu) (sp_X7_run_pa u t2 dm sa ln le sk nu) (sp_X7_run_le u t2 dm sa ln le sk nu) (sp_X7_run_sk u t2 dm sa ln le sk nu) (sp_X7_run_nu u t2 dm sa ln le sk nu) h) ++ (wCl g ap ad r po pn pl tx ((sp_fer pl tx 61 0 0 rl rs rm 0 0).2.2.1) ((sp_fer pl tx 61 0 0 rl rs rm 0 0).2.2.2.1) ((sp_fer pl tx 61 0 0 rl rs rm 0 0).2.2.2.2.1) ((sp_fer pl tx 61 0 0 rl rs rm 0 0).2.2.2.2.2.1) ((sp_fer pl tx 61 0 0 rl rs rm 0 0).2.2.2.2.2.2.1) ((sp_fer pl tx 61 0 0 rl rs rm 0 0).2.2.2.2.2.2.2) sv mm))) C (k_X7_thrown l g am (sp_X7_run_s u t2 dm sa ln le sk nu) fi t2 (sp_X7_run_dm u t2 dm sa ln le sk nu) (sp_X7_run_th t2 ln le sk nu) (sp_X7_run_sa t2 sa ln le sk nu) (sp_X7_run_ln t2 ln le sk nu) (sp_X7_run_pa u t2 dm sa ln le sk nu) (sp_X7_run_le u t2 dm sa ln le sk nu) (sp_X7_run_sk u t2 dm sa ln le sk nu) (sp_X7_run_nu u t2 dm sa ln le sk nu) h) rfl yV_X7_thrown wML_L_154 rfl 1 rfl rfl rfl rfl (nle rfl) (nle rfl) (nle rfl) (rmc hcC (by omega)) (rmc hsC (by omega)) dL_law_2918 ?_
    refine x_iload C 1 rfl dL_law_2921 ?_
    refine x_icmp_eq C 2928 (by decide) dL_law_2923 (fun _ => ?_) (fun hz => absurd e1 hz)
    refine x_iload C 1 rfl dL_law_2928 ?_
    refine x_if_ne C 2945 (by decide) dL_law_2930 (fun _ => ?_) (fun hz => absurd hz (cd0 hcd))
    refine x_goto C 3131 (by decide) dL_law_2945 ?_
    refine x_lv [(4, .int (nI i)), (3, .ref ao), (2, .ref (am 0)), (1, .ref (ap 0)), (0, .ref b)] [2, 3, 4, 5, 6] rfl ?_
    refine x_wid (k := cells + 40) (n := slots + 300) (by omega) (by omega) ?_
    exact K r po pn pl tx ((sp_fer pl tx 61 0 0 rl rs rm 0 0).2.2.1) ((sp_fer pl tx 61 0 0 rl rs rm 0 0).2.2.2.1) ((sp_fer pl tx 61 0 0 rl rs rm 0 0).2.2.2.2.1) ((sp_fer pl tx 61 0 0 rl rs rm 0 0).2.2.2.2.2.1) ((sp_fer pl tx 61 0 0 rl rs rm 0 0).2.2.2.2.2.2.1) ((sp_fer pl tx 61 0 0 rl rs rm 0 0).2.2.2.2.2.2.2) sv mm (sp_X7_run_s u t2 dm sa ln le sk nu) fi t2 (sp_X7_run_dm u t2 dm sa ln le sk nu) (sp_X7_run_th t2 ln le sk nu) (sp_X7_run_sa t2 sa ln le sk nu) (sp_X7_run_ln t2 ln le sk nu) (sp_X7_run_pa u t2 dm sa ln le sk nu) (sp_X7_run_le u t2 dm sa ln le sk nu) (sp_X7_run_sk u t2 dm sa ln le sk nu) (sp_X7_run_nu u t2 dm sa ln le sk nu) h fo e3
set_option maxRecDepth 100000 in
set_option maxHeartbeats 2000000 in
theorem c_56 {p : Program} {l : Launch} {e : Env} {s : State} {m : MethodId} {args : Array Value} {below : List Frame} {meth : Method} {c : Code} {cells slots : Nat} {Q : State → Prop} {nm : String} {g : xGt} {A : Nat → Prop} {b L i : Nat} {xs : Nat → Int32} {ap ad am : Nat → Nat} {ao : Nat} {r : xR} {po : Int32} {pn : Int32} {pl : Int32} {tx : Nat → Int32} {rp : Int32} {rl : Int32} {rs : Int32} {rm : Int32} {rn : Int32} {rz : Int32} {sv : xPl} {mm : xPl} {u : Nat → Int32} {fi : Nat → Int32} {t2 : Nat → Int32} {dm : Nat → Int32} {th : Int32} {sa : Int32} {ln : Int32} {pa : Int32} {le : Int32} {sk : Int32} {nu : Int32} {h : Int64} {fo : Nat → Int64} (C : xC p l s m args meth c cL_law 9 RL nm g.1 (xT g) A) (hX : va_X b L xs s s.heap) (hbl : b < s.heap.size) (hbA : ¬ A b) (hi : i + 6 ≤ L) (hL : L ≤ 3072) (hcC : cells + 40 ≤ room_1.cells) (hsC : slots + 300 ≤ room_1.slots) (H : RI r po pn pl tx sv mm u fi t2 sa ln) (K : LK p l e s m args below meth c g A ap ad am ao b i (cells + 40) (slots + 300) Q) : xW p l e room_1 s m args below meth c g.1 A 9 cells slots Q (wLaw g ap ad am ao r po pn pl tx rp rl rs rm rn rz sv mm u fi t2 dm th sa ln pa le sk nu h fo) [(4, .int (nI i)), (3, .ref ao), (2, .ref (am 0)), (1, .ref (ap 0)), (0, .ref b)] 2948 [] := by
  refine x_ws (ws' := ((wOu g ao fo) ++ ((wMo g am u fi t2 dm th sa ln pa le sk nu h) ++ (wCl g ap ad r po pn pl tx rp rl rs rm rn rz sv mm)))) rfl ?_
  refine x_aload_n C 3 rfl rfl dL_law_2948 ?_
  refine x_aload_n C 1 rfl rfl dL_law_2949 ?_
  refine x_callL (X := (wOu g ao fo)) (Y := (wMo g am u fi t2 dm th sa ln pa le sk nu h)) (Z := (wCl g ap ad r po pn pl tx rp rl rs rm rn rz sv mm)) [.ref (ap 0), .ref ao] [] C (k_L_undo l g ao fo ap ad r po pn pl tx rp rl rs rm rn rz sv mm  H.clo H.hsvk) yH_L_undo wML_L_347 rfl rfl rfl (nle rfl) (nle rfl) (nle rfl) (rmc hcC (by omega)) (rmc hsC (by omega)) dL_law_2950 (fun r0 w0 h0 => ?_)
  have hP := P_undo r po pn pl tx rp rl rs rm rn rz sv mm u fi t2 dm th sa ln pa le sk nu h  H
  rcases h0 with ⟨h1, rfl, w8, hw, rfl⟩ | ⟨E, cd, h1, hcd, rfl, rfl⟩
  · obtain rfl := hw
    obtain ⟨e1, e2, e3⟩ := hP.1 h1
    refine x_perm (ws' := ((wOu g ao (vp_updL fo 0 (Int32.toInt64 (pn - 1)))) ++ ((wMo g am u fi t2 dm th sa ln pa le sk nu h) ++ (wCl g ap ad (cpR (svR sv (unK po pn) r) r) po (pn - 1) pl tx rp rl rs rm rn rz sv mm)))) (List.perm_append_comm_assoc (wMo g am u fi t2 dm th sa ln pa le sk nu h) (wOu g ao (vp_updL fo 0 (Int32.toInt64 (pn - 1)))) (wCl g ap ad (cpR (svR sv (unK po pn) r) r) po (pn - 1) pl tx rp rl rs rm rn rz sv mm)) ?_
    refine x_st (st' := [.int 0]) rfl ?_
    refine x_istore C [(5, .int 0), (4, .int (nI i)), (3, .ref ao), (2, .ref (am 0)), (1, .ref (ap 0)), (0, .ref b)] rfl (by decide) dL_law_2953 ?_
    refine x_aload_n C 3 rfl rfl dL_law_2955 ?_
    refine x_FV (w1 := (wOu g ao (vp_updL fo 0 (Int32.toInt64 (pn - 1))))) (wc := (wMo g am u fi t2 dm th sa ln pa le sk nu h)) (w2 := (wCl g ap ad (cpR (svR sv (unK po pn) r) r) po (pn - 1) pl tx rp rl rs rm rn rz sv mm)) [] [] ((wOu g ao (vp_updL fo 0 (Int32.toInt64 (pn - 1)))) ++ ((wMo g am (sp_X7_undo_s u sa) fi t2 dm (sp_X7_undo_th sa) (sp_X7_undo_sa sa) ln pa le sk nu h) ++ (wCl g ap ad (cpR (svR sv (unK po pn) r) r) po (pn - 1) pl tx rp rl rs rm rn rz sv mm))) C (k_X7_undo l g am u fi t2 dm th sa ln pa le sk nu h H.hs H.hs6 H.hm) rfl yV_X7_undo wML_L_349 rfl 1 rfl rfl rfl rfl (nle rfl) (nle rfl) (nle rfl) (rmc hcC (by omega)) (rmc hsC (by omega)) dL_law_2956 ?_
    refine x_istore C [(6, .int (sp_X7_undo sa)), (5, .int 0), (4, .int (nI i)), (3, .ref ao), (2, .ref (am 0)), (1, .ref (ap 0)), (0, .ref b)] rfl (by decide) dL_law_2959 ?_
    refine x_aload_n C 4 rfl rfl dL_law_2961 ?_
    refine x_FV (w1 := (wOu g ao (vp_updL fo 0 (Int32.toInt64 (pn - 1))))) (wc := (wMo g am (sp_X7_undo_s u sa) fi t2 dm (sp_X7_undo_th sa) (sp_X7_undo_sa sa) ln pa le sk nu h)) (w2 := (wCl g ap ad (cpR (svR sv (unK po pn) r) r) po (pn - 1) pl tx rp rl rs rm rn rz sv mm)) [] [] ((wOu g ao (vp_updL fo 0 (Int32.toInt64 (pn - 1)))) ++ ((wMo g am (sp_X7_undo_s u sa) fi t2 dm (sp_X7_undo_th sa) (sp_X7_undo_sa sa) ln pa le sk nu h) ++ (wCl g ap ad (cpR (svR sv (unK po pn) r) r) po (pn - 1) pl tx rp rl rs rm rn rz sv mm))) C (k_X7_thrown l g am (sp_X7_undo_s u sa) fi t2 dm (sp_X7_undo_th sa) (sp_X7_undo_sa sa) ln pa le sk nu h) rfl yV_X7_thrown wML_L_154 rfl 1 rfl rfl rfl rfl (nle rfl) (nle rfl) (nle rfl) (rmc hcC (by omega)) (rmc hsC (by omega)) dL_law_2962 ?_
    refine x_iload C 1 rfl dL_law_2965 ?_
    refine x_icmp_eq C 2972 (by decide) dL_law_2967 (fun _ => ?_) (fun hz => absurd e1 hz)
    refine x_iload C 1 rfl dL_law_2972 ?_
    refine x_if_ne C 2989 (by decide) dL_law_2974 (fun hz => absurd (by decide) hz) (fun _ => ?_)
    refine x_aload_n C 3 rfl rfl dL_law_2977 ?_
    refine x_iconst C 0 (by decide) dL_law_2978 ?_
    refine x_lald (f := (vp_updL fo 0 (Int32.toInt64 (pn - 1)))) C 0 3 rfl rfl in1 dL_law_2979 ?_
    refine x_st (st' := [.long (Int32.toInt64 (pn - 1))]) rfl ?_
    refine x_iload C 0 rfl dL_law_2980 ?_
    refine x_i2l C dL_law_2982 ?_
    refine x_lcmp C dL_law_2983 ?_
    refine x_if_eq C 2989 (by decide) dL_law_2984 (fun _ => ?_) (fun hz => absurd (lgz (congrArg Int32.toInt64 e2)) hz)
    refine x_goto C 3131 (by decide) dL_law_2989 ?_
    refine x_lv [(4, .int (nI i)), (3, .ref ao), (2, .ref (am 0)), (1, .ref (ap 0)), (0, .ref b)] [2, 3, 4, 5, 6] rfl ?_
    refine x_wid (k := cells + 40) (n := slots + 300) (by omega) (by omega) ?_
    exact K (cpR (svR sv (unK po pn) r) r) po (pn - 1) pl tx rp rl rs rm rn rz sv mm (sp_X7_undo_s u sa) fi t2 dm (sp_X7_undo_th sa) (sp_X7_undo_sa sa) ln pa le sk nu h (vp_updL fo 0 (Int32.toInt64 (pn - 1))) e3
  · obtain ⟨e1, e3⟩ := hP.2 E cd h1 hcd
    refine x_perm (ws' := ((wOu g ao fo) ++ ((wMo g am u fi t2 dm th sa ln pa le sk nu h) ++ (wCl g ap ad r po pn pl tx rp rl rs rm rn rz sv mm)))) (List.perm_append_comm_assoc (wMo g am u fi t2 dm th sa ln pa le sk nu h) (wOu g ao fo) (wCl g ap ad r po pn pl tx rp rl rs rm rn rz sv mm)) ?_
    refine x_st (st' := [.int cd]) rfl ?_
    refine x_istore C [(5, .int cd), (4, .int (nI i)), (3, .ref ao), (2, .ref (am 0)), (1, .ref (ap 0)), (0, .ref b)] rfl (by decide) dL_law_2953 ?_
    refine x_aload_n C 3 rfl rfl dL_law_2955 ?_
    refine x_FV (w1 := (wOu g ao fo)) (wc := (wMo g am u fi t2 dm th sa ln pa le sk nu h)) (w2 := (wCl g ap ad r po pn pl tx rp rl rs rm rn rz sv mm)) [] [] ((wOu g ao fo) ++ ((wMo g am (sp_X7_undo_s u sa) fi t2 dm (sp_X7_undo_th sa) (sp_X7_undo_sa sa) ln pa le sk nu h) ++ (wCl g ap ad r po pn pl tx rp rl rs rm rn rz sv mm))) C (k_X7_undo l g am u fi t2 dm th sa ln pa le sk nu h H.hs H.hs6 H.hm) rfl yV_X7_undo wML_L_349 rfl 1 rfl rfl rfl rfl (nle rfl) (nle rfl) (nle rfl) (rmc hcC (by omega)) (rmc hsC (by omega)) dL_law_2956 ?_
    refine x_istore C [(6, .int (sp_X7_undo sa)), (5, .int cd), (4, .int (nI i)), (3, .ref ao), (2, .ref (am 0)), (1, .ref (ap 0)), (0, .ref b)] rfl (by decide) dL_law_2959 ?_
    refine x_aload_n C 4 rfl rfl dL_law_2961 ?_
    refine x_FV (w1 := (wOu g ao fo)) (wc := (wMo g am (sp_X7_undo_s u sa) fi t2 dm (sp_X7_undo_th sa) (sp_X7_undo_sa sa) ln pa le sk nu h)) (w2 := (wCl g ap ad r po pn pl tx rp rl rs rm rn rz sv mm)) [] [] ((wOu g ao fo) ++ ((wMo g am (sp_X7_undo_s u sa) fi t2 dm (sp_X7_undo_th sa) (sp_X7_undo_sa sa) ln pa le sk nu h) ++ (wCl g ap ad r po pn pl tx rp rl rs rm rn rz sv mm))) C (k_X7_thrown l g am (sp_X7_undo_s u sa) fi t2 dm (sp_X7_undo_th sa) (sp_X7_undo_sa sa) ln pa le sk nu h) rfl yV_X7_thrown wML_L_154 rfl 1 rfl rfl rfl rfl (nle rfl) (nle rfl) (nle rfl) (rmc hcC (by omega)) (rmc hsC (by omega)) dL_law_2962 ?_
    refine x_iload C 1 rfl dL_law_2965 ?_
    refine x_icmp_eq C 2972 (by decide) dL_law_2967 (fun _ => ?_) (fun hz => absurd e1 hz)
    refine x_iload C 1 rfl dL_law_2972 ?_
    refine x_if_ne C 2989 (by decide) dL_law_2974 (fun _ => ?_) (fun hz => absurd hz (cd0 hcd))
    refine x_goto C 3131 (by decide) dL_law_2989 ?_
    refine x_lv [(4, .int (nI i)), (3, .ref ao), (2, .ref (am 0)), (1, .ref (ap 0)), (0, .ref b)] [2, 3, 4, 5, 6] rfl ?_
    refine x_wid (k := cells + 40) (n := slots + 300) (by omega) (by omega) ?_
    exact K r po pn pl tx rp rl rs rm rn rz sv mm (sp_X7_undo_s u sa) fi t2 dm (sp_X7_undo_th sa) (sp_X7_undo_sa sa) ln pa le sk nu h fo e3
set_option maxRecDepth 100000 in
set_option maxHeartbeats 2000000 in
theorem c_57 {p : Program} {l : Launch} {e : Env} {s : State} {m : MethodId} {args : Array Value} {below : List Frame} {meth : Method} {c : Code} {cells slots : Nat} {Q : State → Prop} {nm : String} {g : xGt} {A : Nat → Prop} {b L i : Nat} {xs : Nat → Int32} {ap ad am : Nat → Nat} {ao : Nat} {r : xR} {po : Int32} {pn : Int32} {pl : Int32} {tx : Nat → Int32} {rp : Int32} {rl : Int32} {rs : Int32} {rm : Int32} {rn : Int32} {rz : Int32} {sv : xPl} {mm : xPl} {u : Nat → Int32} {fi : Nat → Int32} {t2 : Nat → Int32} {dm : Nat → Int32} {th : Int32} {sa : Int32} {ln : Int32} {pa : Int32} {le : Int32} {sk : Int32} {nu : Int32} {h : Int64} {fo : Nat → Int64} (C : xC p l s m args meth c cL_law 9 RL nm g.1 (xT g) A) (hX : va_X b L xs s s.heap) (hbl : b < s.heap.size) (hbA : ¬ A b) (hi : i + 6 ≤ L) (hL : L ≤ 3072) (hcC : cells + 40 ≤ room_1.cells) (hsC : slots + 300 ≤ room_1.slots) (H : RI r po pn pl tx sv mm u fi t2 sa ln) (K : LK p l e s m args below meth c g A ap ad am ao b i (cells + 40) (slots + 300) Q) : xW p l e room_1 s m args below meth c g.1 A 9 cells slots Q (wLaw g ap ad am ao r po pn pl tx rp rl rs rm rn rz sv mm u fi t2 dm th sa ln pa le sk nu h fo) [(4, .int (nI i)), (3, .ref ao), (2, .ref (am 0)), (1, .ref (ap 0)), (0, .ref b)] 2992 [] := by
  refine x_ws (ws' := ((wOu g ao fo) ++ ((wMo g am u fi t2 dm th sa ln pa le sk nu h) ++ (wCl g ap ad r po pn pl tx rp rl rs rm rn rz sv mm)))) rfl ?_
  refine x_aload_n C 3 rfl rfl dL_law_2992 ?_
  refine x_EV1 (w1 := (wOu g ao fo) ++ (wMo g am u fi t2 dm th sa ln pa le sk nu h)) (wc := (wCl g ap ad r po pn pl tx rp rl rs rm rn rz sv mm)) [] [] C (k_X6_savedStates l g ap ad r po pn pl tx rp rl rs rm rn rz sv mm H.clo) (List.append_assoc _ _ _).symm yV_X6_savedStates wML_L_350 6 rfl rfl rfl rfl (nle rfl) (nle rfl) (nle rfl) (rmc hcC (by omega)) (rmc hsC (by omega)) dL_law_2993 (fun E w h => h.elim) (fun r0 w0 h0 => ?_)
  have hP := P_savedStates r po pn pl tx rp rl rs rm rn rz sv mm u fi t2 dm th sa ln pa le sk nu h  H
  obtain ⟨rfl, rfl⟩ := h0
  refine x_ws (ws' := ((wOu g ao fo) ++ ((wMo g am u fi t2 dm th sa ln pa le sk nu h) ++ (wCl g ap ad r po pn pl tx rp rl rs rm rn rz sv mm)))) (List.append_assoc _ _ _) ?_
  refine x_st (st' := [.int pn]) rfl ?_
  refine x_aload_n C 2 rfl rfl dL_law_2996 ?_
  refine x_FV (w1 := (wOu g ao fo)) (wc := (wMo g am u fi t2 dm th sa ln pa le sk nu h)) (w2 := (wCl g ap ad r po pn pl tx rp rl rs rm rn rz sv mm)) [] [.int pn] ((wOu g ao fo) ++ ((wMo g am u fi t2 dm 0 sa ln pa le sk nu h) ++ (wCl g ap ad r po pn pl tx rp rl rs rm rn rz sv mm))) C (k_X7_savedStates l g am u fi t2 dm th sa ln pa le sk nu h H.hs H.hs6 H.hm) rfl yV_X7_savedStates wML_L_353 rfl 1 rfl rfl rfl rfl (nle rfl) (nle rfl) (nle rfl) (rmc hcC (by omega)) (rmc hsC (by omega)) dL_law_2997 ?_
  refine x_icmp_eq C 3131 (by decide) dL_law_3000 (fun _ => ?_) (fun hz => absurd hP.1 hz)
  refine x_wid (k := cells + 40) (n := slots + 300) (by omega) (by omega) ?_
  exact K r po pn pl tx rp rl rs rm rn rz sv mm u fi t2 dm 0 sa ln pa le sk nu h fo hP.2
set_option maxRecDepth 100000 in
set_option maxHeartbeats 2000000 in
theorem c_58 {p : Program} {l : Launch} {e : Env} {s : State} {m : MethodId} {args : Array Value} {below : List Frame} {meth : Method} {c : Code} {cells slots : Nat} {Q : State → Prop} {nm : String} {g : xGt} {A : Nat → Prop} {b L i : Nat} {xs : Nat → Int32} {ap ad am : Nat → Nat} {ao : Nat} {r : xR} {po : Int32} {pn : Int32} {pl : Int32} {tx : Nat → Int32} {rp : Int32} {rl : Int32} {rs : Int32} {rm : Int32} {rn : Int32} {rz : Int32} {sv : xPl} {mm : xPl} {u : Nat → Int32} {fi : Nat → Int32} {t2 : Nat → Int32} {dm : Nat → Int32} {th : Int32} {sa : Int32} {ln : Int32} {pa : Int32} {le : Int32} {sk : Int32} {nu : Int32} {h : Int64} {fo : Nat → Int64} (C : xC p l s m args meth c cL_law 9 RL nm g.1 (xT g) A) (hX : va_X b L xs s s.heap) (hbl : b < s.heap.size) (hbA : ¬ A b) (hi : i + 6 ≤ L) (hL : L ≤ 3072) (hcC : cells + 40 ≤ room_1.cells) (hsC : slots + 300 ≤ room_1.slots) (H : RI r po pn pl tx sv mm u fi t2 sa ln) (K : LK p l e s m args below meth c g A ap ad am ao b i (cells + 40) (slots + 300) Q) : xW p l e room_1 s m args below meth c g.1 A 9 cells slots Q (wLaw g ap ad am ao r po pn pl tx rp rl rs rm rn rz sv mm u fi t2 dm th sa ln pa le sk nu h fo) [(4, .int (nI i)), (3, .ref ao), (2, .ref (am 0)), (1, .ref (ap 0)), (0, .ref b)] 3005 [] := by
  refine x_ws (ws' := ((wOu g ao fo) ++ ((wMo g am u fi t2 dm th sa ln pa le sk nu h) ++ (wCl g ap ad r po pn pl tx rp rl rs rm rn rz sv mm)))) rfl ?_
  refine x_aload_n C 3 rfl rfl dL_law_3005 ?_
  refine x_aload_n C 4 rfl rfl dL_law_3006 ?_
  refine x_iload C 0 rfl dL_law_3007 ?_
  refine x_iconst C 1 (by decide) dL_law_3009 ?_
  refine x_iaddN C i 1 rfl rfl dL_law_3010 ?_
  refine x_sld C (i + 1) hX hbl hbA rfl (by omega) (by omega) dL_law_3011 ?_
  refine x_aload_n C 1 rfl rfl dL_law_3012 ?_
  refine x_callL (X := (wOu g ao fo)) (Y := (wMo g am u fi t2 dm th sa ln pa le sk nu h)) (Z := (wCl g ap ad r po pn pl tx rp rl rs rm rn rz sv mm)) [.ref (ap 0), .int (xs (i + 1)), .ref ao] [] C (k_L_store l g ao fo ap ad r po pn pl tx rp rl rs rm rn rz sv mm (xs (i + 1)) H.clo) yH_L_store wML_L_354 rfl rfl rfl (nle rfl) (nle rfl) (nle rfl) (rmc hcC (by omega)) (rmc hsC (by omega)) dL_law_3013 (fun r0 w0 h0 => ?_)
  have hP := P_store r po pn pl tx rp rl rs rm rn rz sv mm u fi t2 dm th sa ln pa le sk nu h (xs (i + 1)) H
  rcases h0 with ⟨h1, rfl, w8, hw, rfl⟩ | ⟨E, cd, h1, hcd, rfl, rfl⟩
  · obtain ⟨adn, rfl⟩ := hw
    obtain ⟨e1, e2, e3⟩ := hP.1 h1
    refine x_perm (ws' := ((wOu g ao (vp_updL fo 0 (Int32.toInt64 r.xn))) ++ ((wMo g am u fi t2 dm th sa ln pa le sk nu h) ++ (wCl g ap ad r po pn pl tx rp rl rs rm rn rz sv (stS mm adn r (Int32.toNatClampNeg (xs (i + 1)))))))) (List.perm_append_comm_assoc (wMo g am u fi t2 dm th sa ln pa le sk nu h) (wOu g ao (vp_updL fo 0 (Int32.toInt64 r.xn))) (wCl g ap ad r po pn pl tx rp rl rs rm rn rz sv (stS mm adn r (Int32.toNatClampNeg (xs (i + 1)))))) ?_
    refine x_st (st' := [.int 0]) rfl ?_
    refine x_istore C [(5, .int 0), (4, .int (nI i)), (3, .ref ao), (2, .ref (am 0)), (1, .ref (ap 0)), (0, .ref b)] rfl (by decide) dL_law_3016 ?_
    refine x_aload_n C 3 rfl rfl dL_law_3018 ?_
    refine x_aload_n C 5 rfl rfl dL_law_3019 ?_
    refine x_iload C 1 rfl dL_law_3020 ?_
    refine x_iconst C 1 (by decide) dL_law_3022 ?_
    refine x_iaddN C i 1 rfl rfl dL_law_3023 ?_
    refine x_sld C (i + 1) hX hbl hbA rfl (by omega) (by omega) dL_law_3024 ?_
    refine x_FV (w1 := (wOu g ao (vp_updL fo 0 (Int32.toInt64 r.xn)))) (wc := (wMo g am u fi t2 dm th sa ln pa le sk nu h)) (w2 := (wCl g ap ad r po pn pl tx rp rl rs rm rn rz sv (stS mm adn r (Int32.toNatClampNeg (xs (i + 1)))))) [.int (xs (i + 1))] [] ((wOu g ao (vp_updL fo 0 (Int32.toInt64 r.xn))) ++ ((wMo g am (sp_X7_store_s u (xs (i + 1))) (sp_X7_store_fi fi (xs (i + 1))) t2 dm (sp_X7_store_th (xs (i + 1))) sa ln pa le sk nu h) ++ (wCl g ap ad r po pn pl tx rp rl rs rm rn rz sv (stS mm adn r (Int32.toNatClampNeg (xs (i + 1))))))) C (k_X7_store l g am u fi t2 dm th sa ln pa le sk nu h (xs (i + 1)) H.hs H.hs6 H.hm) rfl yV_X7_store wML_L_356 rfl 1 rfl rfl rfl rfl (nle rfl) (nle rfl) (nle rfl) (rmc hcC (by omega)) (rmc hsC (by omega)) dL_law_3025 ?_
    refine x_istore C [(6, .int (sp_X7_store u (xs (i + 1)))), (5, .int 0), (4, .int (nI i)), (3, .ref ao), (2, .ref (am 0)), (1, .ref (ap 0)), (0, .ref b)] rfl (by decide) dL_law_3028 ?_
    refine x_aload_n C 4 rfl rfl dL_law_3030 ?_
    refine x_FV (w1 := (wOu g ao (vp_updL fo 0 (Int32.toInt64 r.xn)))) (wc := (wMo g am (sp_X7_store_s u (xs (i + 1))) (sp_X7_store_fi fi (xs (i + 1))) t2 dm (sp_X7_store_th (xs (i + 1))) sa ln pa le sk nu h)) (w2 := (wCl g ap ad r po pn pl tx rp rl rs rm rn rz sv (stS mm adn r (Int32.toNatClampNeg (xs (i + 1)))))) [] [] ((wOu g ao (vp_updL fo 0 (Int32.toInt64 r.xn))) ++ ((wMo g am (sp_X7_store_s u (xs (i + 1))) (sp_X7_store_fi fi (xs (i + 1))) t2 dm (sp_X7_store_th (xs (i + 1))) sa ln pa le sk nu h) ++ (wCl g ap ad r po pn pl tx rp rl rs rm rn rz sv (stS mm adn r (Int32.toNatClampNeg (xs (i + 1))))))) C (k_X7_thrown l g am (sp_X7_store_s u (xs (i + 1))) (sp_X7_store_fi fi (xs (i + 1))) t2 dm (sp_X7_store_th (xs (i + 1))) sa ln pa le sk nu h) rfl yV_X7_thrown wML_L_154 rfl 1 rfl rfl rfl rfl (nle rfl) (nle rfl) (nle rfl) (rmc hcC (by omega)) (rmc hsC (by omega)) dL_law_3031 ?_
    refine x_iload C 1 rfl dL_law_3034 ?_
    refine x_icmp_eq C 3041 (by decide) dL_law_3036 (fun _ => ?_) (fun hz => absurd e1 hz)
    refine x_iload C 1 rfl dL_law_3041 ?_
    refine x_if_ne C 3058 (by decide) dL_law_3043 (fun hz => absurd (by decide) hz) (fun _ => ?_)
    refine x_aload_n C 3 rfl rfl dL_law_3046 ?_
    refine x_iconst C 0 (by decide) dL_law_3047 ?_
    refine x_lald (f := (vp_updL fo 0 (Int32.toInt64 r.xn))) C 0 3 rfl rfl in1 dL_law_3048 ?_
    refine x_st (st' := [.long (Int32.toInt64 r.xn)]) rfl ?_
    refine x_iload C 0 rfl dL_law_3049 ?_
    refine x_i2l C dL_law_3051 ?_
    refine x_lcmp C dL_law_3052 ?_
    refine x_if_eq C 3058 (by decide) dL_law_3053 (fun _ => ?_) (fun hz => absurd (lgz (congrArg Int32.toInt64 e2)) hz)
    refine x_goto C 3131 (by decide) dL_law_3058 ?_
    refine x_lv [(4, .int (nI i)), (3, .ref ao), (2, .ref (am 0)), (1, .ref (ap 0)), (0, .ref b)] [2, 3, 4, 5, 6] rfl ?_
    refine x_wid (k := cells + 40) (n := slots + 300) (by omega) (by omega) ?_
    exact K r po pn pl tx rp rl rs rm rn rz sv (stS mm adn r (Int32.toNatClampNeg (xs (i + 1)))) (sp_X7_store_s u (xs (i + 1))) (sp_X7_store_fi fi (xs (i + 1))) t2 dm (sp_X7_store_th (xs (i + 1))) sa ln pa le sk nu h (vp_updL fo 0 (Int32.toInt64 r.xn)) (e3 adn)
  · obtain ⟨e1, e3⟩ := hP.2 E cd h1 hcd
    refine x_perm (ws' := ((wOu g ao fo) ++ ((wMo g am u fi t2 dm th sa ln pa le sk nu h) ++ (wCl g ap ad r po pn pl tx rp rl rs rm rn rz sv mm)))) (List.perm_append_comm_assoc (wMo g am u fi t2 dm th sa ln pa le sk nu h) (wOu g ao fo) (wCl g ap ad r po pn pl tx rp rl rs rm rn rz sv mm)) ?_
    refine x_st (st' := [.int cd]) rfl ?_
    refine x_istore C [(5, .int cd), (4, .int (nI i)), (3, .ref ao), (2, .ref (am 0)), (1, .ref (ap 0)), (0, .ref b)] rfl (by decide) dL_law_3016 ?_
    refine x_aload_n C 3 rfl rfl dL_law_3018 ?_
    refine x_aload_n C 5 rfl rfl dL_law_3019 ?_
    refine x_iload C 1 rfl dL_law_3020 ?_
    refine x_iconst C 1 (by decide) dL_law_3022 ?_
    refine x_iaddN C i 1 rfl rfl dL_law_3023 ?_
    refine x_sld C (i + 1) hX hbl hbA rfl (by omega) (by omega) dL_law_3024 ?_
    refine x_FV (w1 := (wOu g ao fo)) (wc := (wMo g am u fi t2 dm th sa ln pa le sk nu h)) (w2 := (wCl g ap ad r po pn pl tx rp rl rs rm rn rz sv mm)) [.int (xs (i + 1))] [] ((wOu g ao fo) ++ ((wMo g am (sp_X7_store_s u (xs (i + 1))) (sp_X7_store_fi fi (xs (i + 1))) t2 dm (sp_X7_store_th (xs (i + 1))) sa ln pa le sk nu h) ++ (wCl g ap ad r po pn pl tx rp rl rs rm rn rz sv mm))) C (k_X7_store l g am u fi t2 dm th sa ln pa le sk nu h (xs (i + 1)) H.hs H.hs6 H.hm) rfl yV_X7_store wML_L_356 rfl 1 rfl rfl rfl rfl (nle rfl) (nle rfl) (nle rfl) (rmc hcC (by omega)) (rmc hsC (by omega)) dL_law_3025 ?_
    refine x_istore C [(6, .int (sp_X7_store u (xs (i + 1)))), (5, .int cd), (4, .int (nI i)), (3, .ref ao), (2, .ref (am 0)), (1, .ref (ap 0)), (0, .ref b)] rfl (by decide) dL_law_3028 ?_
    refine x_aload_n C 4 rfl rfl dL_law_3030 ?_
    refine x_FV (w1 := (wOu g ao fo)) (wc := (wMo g am (sp_X7_store_s u (xs (i + 1))) (sp_X7_store_fi fi (xs (i + 1))) t2 dm (sp_X7_store_th (xs (i + 1))) sa ln pa le sk nu h)) (w2 := (wCl g ap ad r po pn pl tx rp rl rs rm rn rz sv mm)) [] [] ((wOu g ao fo) ++ ((wMo g am (sp_X7_store_s u (xs (i + 1))) (sp_X7_store_fi fi (xs (i + 1))) t2 dm (sp_X7_store_th (xs (i + 1))) sa ln pa le sk nu h) ++ (wCl g ap ad r po pn pl tx rp rl rs rm rn rz sv mm))) C (k_X7_thrown l g am (sp_X7_store_s u (xs (i + 1))) (sp_X7_store_fi fi (xs (i + 1))) t2 dm (sp_X7_store_th (xs (i + 1))) sa ln pa le sk nu h) rfl yV_X7_thrown wML_L_154 rfl 1 rfl rfl rfl rfl (nle rfl) (nle rfl) (nle rfl) (rmc hcC (by omega)) (rmc hsC (by omega)) dL_law_3031 ?_
    refine x_iload C 1 rfl dL_law_3034 ?_
    refine x_icmp_eq C 3041 (by decide) dL_law_3036 (fun _ => ?_) (fun hz => absurd e1 hz)
    refine x_iload C 1 rfl dL_law_3041 ?_
    refine x_if_ne C 3058 (by decide) dL_law_3043 (fun _ => ?_) (fun hz => absurd hz (cd0 hcd))
    refine x_goto C 3131 (by decide) dL_law_3058 ?_
    refine x_lv [(4, .int (nI i)), (3, .ref ao), (2, .ref (am 0)), (1, .ref (ap 0)), (0, .ref b)] [2, 3, 4, 5, 6] rfl ?_
    refine x_wid (k := cells + 40) (n := slots + 300) (by omega) (by omega) ?_
    exact K r po pn pl tx rp rl rs rm rn rz sv mm (sp_X7_store_s u (xs (i + 1))) (sp_X7_store_fi fi (xs (i + 1))) t2 dm (sp_X7_store_th (xs (i + 1))) sa ln pa le sk nu h fo e3
set_option maxRecDepth 100000 in
set_option maxHeartbeats 2000000 in
theorem c_59 {p : Program} {l : Launch} {e : Env} {s : State} {m : MethodId} {args : Array Value} {below : List Frame} {meth : Method} {c : Code} {cells slots : Nat} {Q : State → Prop} {nm : String} {g : xGt} {A : Nat → Prop} {b L i : Nat} {xs : Nat → Int32} {ap ad am : Nat → Nat} {ao : Nat} {r : xR} {po : Int32} {pn : Int32} {pl : Int32} {tx : Nat → Int32} {rp : Int32} {rl : Int32} {rs : Int32} {rm : Int32} {rn : Int32} {rz : Int32} {sv : xPl} {mm : xPl} {u : Nat → Int32} {fi : Nat → Int32} {t2 : Nat → Int32} {dm : Nat → Int32} {th : Int32} {sa : Int32} {ln : Int32} {pa : Int32} {le : Int32} {sk : Int32} {nu : Int32} {h : Int64} {fo : Nat → Int64} (C : xC p l s m args meth c cL_law 9 RL nm g.1 (xT g) A) (hX : va_X b L xs s s.heap) (hbl : b < s.heap.size) (hbA : ¬ A b) (hi : i + 6 ≤ L) (hL : L ≤ 3072) (hcC : cells + 40 ≤ room_1.cells) (hsC : slots + 300 ≤ room_1.slots) (H : RI r po pn pl tx sv mm u fi t2 sa ln) (K : LK p l e s m args below meth c g A ap ad am ao b i (cells + 40) (slots + 300) Q) : xW p l e room_1 s m args below meth c g.1 A 9 cells slots Q (wLaw g ap ad am ao r po pn pl tx rp rl rs rm rn rz sv mm u fi t2 dm th sa ln pa le sk nu h fo) [(4, .int (nI i)), (3, .ref ao), (2, .ref (am 0)), (1, .ref (ap 0)), (0, .ref b)] 3061 [] := by
  refine x_ws (ws' := ((wOu g ao fo) ++ ((wMo g am u fi t2 dm th sa ln pa le sk nu h) ++ (wCl g ap ad r po pn pl tx rp rl rs rm rn rz sv mm)))) rfl ?_
  refine x_aload_n C 3 rfl rfl dL_law_3061 ?_
  refine x_aload_n C 4 rfl rfl dL_law_3062 ?_
  refine x_iload C 0 rfl dL_law_3063 ?_
  refine x_iconst C 1 (by decide) dL_law_3065 ?_
  refine x_iaddN C i 1 rfl rfl dL_law_3066 ?_
  refine x_sld C (i + 1) hX hbl hbA rfl (by omega) (by omega) dL_law_3067 ?_
  refine x_aload_n C 1 rfl rfl dL_law_3068 ?_
  refine x_callL (X := (wOu g ao fo)) (Y := (wMo g am u fi t2 dm th sa ln pa le sk nu h)) (Z := (wCl g ap ad r po pn pl tx rp rl rs rm rn rz sv mm)) [.ref (ap 0), .int (xs (i + 1)), .ref ao] [] C (k_L_recall l g ao fo ap ad r po pn pl tx rp rl rs rm rn rz sv mm (xs (i + 1)) H.clo H.hmk) yH_L_recall wML_L_357 rfl rfl rfl (nle rfl) (nle rfl) (nle rfl) (rmc hcC (by omega)) (rmc hsC (by omega)) dL_law_3069 (fun r0 w0 h0 => ?_)
  have hP := P_recall r po pn pl tx rp rl rs rm rn rz sv mm u fi t2 dm th sa ln pa le sk nu h (xs (i + 1)) H
  rcases h0 with ⟨h1, rfl, w8, hw, rfl⟩ | ⟨E, cd, h1, hcd, rfl, rfl⟩
  · obtain ⟨adn, rfl⟩ := hw
    obtain ⟨e1, e2, e3⟩ := hP.1 h1
    refine x_perm (ws' := ((wOu g ao (vp_updL fo 0 (Int32.toInt64 ((cpR (svR mm (Int32.toNatClampNeg (xs (i + 1))) r) r).xn)))) ++ ((wMo g am u fi t2 dm th sa ln pa le sk nu h) ++ (wCl g ap ad (cpR (svR mm (Int32.toNatClampNeg (xs (i + 1))) r) r) (sp_spo2 po pn) (sp_spn2 pn) pl tx rp rl rs rm rn rz (svS sv adn r po pn) mm)))) (List.perm_append_comm_assoc (wMo g am u fi t2 dm th sa ln pa le sk nu h) (wOu g ao (vp_updL fo 0 (Int32.toInt64 ((cpR (svR mm (Int32.toNatClampNeg (xs (i + 1))) r) r).xn)))) (wCl g ap ad (cpR (svR mm (Int32.toNatClampNeg (xs (i + 1))) r) r) (sp_spo2 po pn) (sp_spn2 pn) pl tx rp rl rs rm rn rz (svS sv adn r po pn) mm)) ?_
    refine x_st (st' := [.int 0]) rfl ?_
    refine x_istore C [(5, .int 0), (4, .int (nI i)), (3, .ref ao), (2, .ref (am 0)), (1, .ref (ap 0)), (0, .ref b)] rfl (by decide) dL_law_3072 ?_
    refine x_aload_n C 3 rfl rfl dL_law_3074 ?_
    refine x_aload_n C 5 rfl rfl dL_law_3075 ?_
    refine x_iload C 1 rfl dL_law_3076 ?_
    refine x_iconst C 1 (by decide) dL_law_3078 ?_
    refine x_iaddN C i 1 rfl rfl dL_law_3079 ?_
    refine x_sld C (i + 1) hX hbl hbA rfl (by omega) (by omega) dL_law_3080 ?_
    refine x_FV (w1 := (wOu g ao (vp_updL fo 0 (Int32.toInt64 ((cpR (svR mm (Int32.toNatClampNeg (xs (i + 1))) r) r).xn))))) (wc := (wMo g am u fi t2 dm th sa ln pa le sk nu h)) (w2 := (wCl g ap ad (cpR (svR mm (Int32.toNatClampNeg (xs (i + 1))) r) r) (sp_spo2 po pn) (sp_spn2 pn) pl tx rp rl rs rm rn rz (svS sv adn r po pn) mm)) [.int (xs (i + 1))] [] ((wOu g ao (vp_updL fo 0 (Int32.toInt64 ((cpR (svR mm (Int32.toNatClampNeg (xs (i + 1))) r) r).xn)))) ++ ((wMo g am (sp_X7_recall_s u fi sa (xs (i + 1))) fi t2 dm (sp_X7_recall_th fi (xs (i + 1))) (sp_X7_recall_sa fi sa (xs (i + 1))) ln pa le sk nu h) ++ (wCl g ap ad (cpR (svR mm (Int32.toNatClampNeg (xs (i + 1))) r) r) (sp_spo2 po pn) (sp_spn2 pn) pl tx rp rl rs rm rn rz (svS sv adn r po pn) mm))) C (k_X7_recall l g am u fi t2 dm th sa ln pa le sk nu h (xs (i + 1)) H.hs H.hs6 H.hm) rfl yV_X7_recall wML_L_359 rfl 1 rfl rfl rfl rfl (nle rfl) (nle rfl) (nle rfl) (rmc hcC (by omega)) (rmc hsC (by omega)) dL_law_3081 ?_
    refine x_istore C [(6, .int (sp_X7_recall u fi sa (xs (i + 1)))), (5, .int 0), (4, .int (nI i)), (3, .ref ao), (2, .ref (am 0)), (1, .ref (ap 0)), (0, .ref b)] rfl (by decide) dL_law_3084 ?_
    refine x_aload_n C 4 rfl rfl dL_law_3086 ?_
    refine x_FV (w1 := (wOu g ao (vp_updL fo 0 (Int32.toInt64 ((cpR (svR mm (Int32.toNatClampNeg (xs (i + 1))) r) r).xn))))) (wc := (wMo g am (sp_X7_recall_s u fi sa (xs (i + 1))) fi t2 dm (sp_X7_recall_th fi (xs (i + 1))) (sp_X7_recall_sa fi sa (xs (i + 1))) ln pa le sk nu h)) (w2 := (wCl g ap ad (cpR (svR mm (Int32.toNatClampNeg (xs (i + 1))) r) r) (sp_spo2 po pn) (sp_spn2 pn) pl tx rp rl rs rm rn rz (svS sv adn r po pn) mm)) [] [] ((wOu g ao (vp_updL fo 0 (Int32.toInt64 ((cpR (svR mm (Int32.toNatClampNeg (xs (i + 1))) r) r).xn)))) ++ ((wMo g am (sp_X7_recall_s u fi sa (xs (i + 1))) fi t2 dm (sp_X7_recall_th fi (xs (i + 1))) (sp_X7_recall_sa fi sa (xs (i + 1))) ln pa le sk nu h) ++ (wCl g ap ad (cpR (svR mm (Int32.toNatClampNeg (xs (i + 1))) r) r) (sp_spo2 po pn) (sp_spn2 pn) pl tx rp rl rs rm rn rz (svS sv adn r po pn) mm))) C (k_X7_thrown l g am (sp_X7_recall_s u fi sa (xs (i + 1))) fi t2 dm (sp_X7_recall_th fi (xs (i + 1))) (sp_X7_recall_sa fi sa (xs (i + 1))) ln pa le sk nu h) rfl yV_X7_thrown wML_L_154 rfl 1 rfl rfl rfl rfl (nle rfl) (nle rfl) (nle rfl) (rmc hcC (by omega)) (rmc hsC (by omega)) dL_law_3087 ?_
    refine x_iload C 1 rfl dL_law_3090 ?_
    refine x_icmp_eq C 3097 (by decide) dL_law_3092 (fun _ => ?_) (fun hz => absurd e1 hz)
    refine x_iload C 1 rfl dL_law_3097 ?_
    refine x_if_ne C 3114 (by decide) dL_law_3099 (fun hz => absurd (by decide) hz) (fun _ => ?_)
    refine x_aload_n C 3 rfl rfl dL_law_3102 ?_
    refine x_iconst C 0 (by decide) dL_law_3103 ?_
    refine x_lald (f := (vp_updL fo 0 (Int32.toInt64 ((cpR (svR mm (Int32.toNatClampNeg (xs (i + 1))) r) r).xn)))) C 0 3 rfl rfl in1 dL_law_3104 ?_
    refine x_st (st' := [.long (Int32.toInt64 ((cpR (svR mm (Int32.toNatClampNeg (xs (i + 1))) r) r).xn))]) rfl ?_
    refine x_iload C 0 rfl dL_law_3105 ?_
    refine x_i2l C dL_law_3107 ?_
    refine x_lcmp C dL_law_3108 ?_
    refine x_if_eq C 3114 (by decide) dL_law_3109 (fun _ => ?_) (fun hz => absurd (lgz (congrArg Int32.toInt64 e2)) hz)
    refine x_goto C 3131 (by decide) dL_law_3114 ?_
    refine x_lv [(4, .int (nI i)), (3, .ref ao), (2, .ref (am 0)), (1, .ref (ap 0)), (0, .ref b)] [2, 3, 4, 5, 6] rfl ?_
    refine x_wid (k := cells + 40) (n := slots + 300) (by omega) (by omega) ?_
    exact K (cpR (svR mm (Int32.toNatClampNeg (xs (i + 1))) r) r) (sp_spo2 po pn) (sp_spn2 pn) pl tx rp rl rs rm rn rz (svS sv adn r po pn) mm (sp_X7_recall_s u fi sa (xs (i + 1))) fi t2 dm (sp_X7_recall_th fi (xs (i + 1))) (sp_X7_recall_sa fi sa (xs (i + 1))) ln pa le sk nu h (vp_updL fo 0 (Int32.toInt64 ((cpR (svR mm (Int32.toNatClampNeg (xs (i + 1))) r) r).xn))) (e3 adn)
  · obtain ⟨e1, e3⟩ := hP.2 E cd h1 hcd
    refine x_perm (ws' := ((wOu g ao fo) ++ ((wMo g am u fi t2 dm th sa ln pa le sk nu h) ++ (wCl g ap ad r po pn pl tx rp rl rs rm rn rz sv mm)))) (List.perm_append_comm_assoc (wMo g am u fi t2 dm th sa ln pa le sk nu h) (wOu g ao fo) (wCl g ap ad r po pn pl tx rp rl rs rm rn rz sv mm)) ?_
    refine x_st (st' := [.int cd]) rfl ?_
    refine x_istore C [(5, .int cd), (4, .int (nI i)), (3, .ref ao), (2, .ref (am 0)), (1, .ref (ap 0)), (0, .ref b)] rfl (by decide) dL_law_3072 ?_
    refine x_aload_n C 3 rfl rfl dL_law_3074 ?_
    refine x_aload_n C 5 rfl rfl dL_law_3075 ?_
    refine x_iload C 1 rfl dL_law_3076 ?_
    refine x_iconst C 1 (by decide) dL_law_3078 ?_
    refine x_iaddN C i 1 rfl rfl dL_law_3079 ?_
    refine x_sld C (i + 1) hX hbl hbA rfl (by omega) (by omega) dL_law_3080 ?_
    refine x_FV (w1 := (wOu g ao fo)) (wc := (wMo g am u fi t2 dm th sa ln pa le sk nu h)) (w2 := (wCl g ap ad r po pn pl tx rp rl rs rm rn rz sv mm)) [.int (xs (i + 1))] [] ((wOu g ao fo) ++ ((wMo g am (sp_X7_recall_s u fi sa (xs (i + 1))) fi t2 dm (sp_X7_recall_th fi (xs (i + 1))) (sp_X7_recall_sa fi sa (xs (i + 1))) ln pa le sk nu h) ++ (wCl g ap ad r po pn pl tx rp rl rs rm rn rz sv mm))) C (k_X7_recall l g am u fi t2 dm th sa ln pa le sk nu h (xs (i + 1)) H.hs H.hs6 H.hm) rfl yV_X7_recall wML_L_359 rfl 1 rfl rfl rfl rfl (nle rfl) (nle rfl) (nle rfl) (rmc hcC (by omega)) (rmc hsC (by omega)) dL_law_3081 ?_
    refine x_istore C [(6, .int (sp_X7_recall u fi sa (xs (i + 1)))), (5, .int cd), (4, .int (nI i)), (3, .ref ao), (2, .ref (am 0)), (1, .ref (ap 0)), (0, .ref b)] rfl (by decide) dL_law_3084 ?_
    refine x_aload_n C 4 rfl rfl dL_law_3086 ?_
    refine x_FV (w1 := (wOu g ao fo)) (wc := (wMo g am (sp_X7_recall_s u fi sa (xs (i + 1))) fi t2 dm (sp_X7_recall_th fi (xs (i + 1))) (sp_X7_recall_sa fi sa (xs (i + 1))) ln pa le sk nu h)) (w2 := (wCl g ap ad r po pn pl tx rp rl rs rm rn rz sv mm)) [] [] ((wOu g ao fo) ++ ((wMo g am (sp_X7_recall_s u fi sa (xs (i + 1))) fi t2 dm (sp_X7_recall_th fi (xs (i + 1))) (sp_X7_recall_sa fi sa (xs (i + 1))) ln pa le sk nu h) ++ (wCl g ap ad r po pn pl tx rp rl rs rm rn rz sv mm))) C (k_X7_thrown l g am (sp_X7_recall_s u fi sa (xs (i + 1))) fi t2 dm (sp_X7_recall_th fi (xs (i + 1))) (sp_X7_recall_sa fi sa (xs (i + 1))) ln pa le sk nu h) rfl yV_X7_thrown wML_L_154 rfl 1 rfl rfl rfl rfl (nle rfl) (nle rfl) (nle rfl) (rmc hcC (by omega)) (rmc hsC (by omega)) dL_law_3087 ?_
    refine x_iload C 1 rfl dL_law_3090 ?_
    refine x_icmp_eq C 3097 (by decide) dL_law_3092 (fun _ => ?_) (fun hz => absurd e1 hz)
    refine x_iload C 1 rfl dL_law_3097 ?_
    refine x_if_ne C 3114 (by decide) dL_law_3099 (fun _ => ?_) (fun hz => absurd hz (cd00 hcd))
    refine x_goto C 3131 (by decide) dL_law_3114 ?_
    refine x_lv [(4, .int (nI i)), (3, .ref ao), (2, .ref (am 0)), (1, .ref (ap 0)), (0, .ref b)] [2, 3, 4, 5, 6] rfl ?_
    refine x_wid (k := cells + 40) (n := slots + 300) (by omega) (by omega) ?_
    exact K r po pn pl tx rp rl rs rm rn rz sv mm (sp_X7_recall_s u fi sa (xs (i + 1))) fi t2 dm (sp_X7_recall_th fi (xs (i + 1))) (sp_X7_recall_sa fi sa (xs (i + 1))) ln pa le sk nu h fo e3
set_option maxRecDepth 100000 in
set_option maxHeartbeats 2000000 in
theorem c_60 {p : Program} {l : Launch} {e : Env} {s : State} {m : MethodId} {args : Array Value} {below : List Frame} {meth : Method} {c : Code} {cells slots : Nat} {Q : State → Prop} {nm : String} {g : xGt} {A : Nat → Prop} {b L i : Nat} {xs : Nat → Int32} {ap ad am : Nat → Nat} {ao : Nat} {r : xR} {po : Int32} {pn : Int32} {pl : Int32} {tx : Nat → Int32} {rp : Int32} {rl : Int32} {rs : Int32} {rm : Int32} {rn : Int32} {rz : Int32} {sv : xPl} {mm : xPl} {u : Nat → Int32} {fi : Nat → Int32} {t2 : Nat → Int32} {dm : Nat → Int32} {th : Int32} {sa : Int32} {ln : Int32} {pa : Int32} {le : Int32} {sk : Int32} {nu : Int32} {h : Int64} {fo : Nat → Int64} (C : xC p l s m args meth c cL_law 9 RL nm g.1 (xT g) A) (hX : va_X b L xs s s.heap) (hbl : b < s.heap.size) (hbA : ¬ A b) (hi : i + 6 ≤ L) (hL : L ≤ 3072) (hcC : cells + 40 ≤ room_1.cells) (hsC : slots + 300 ≤ room_1.slots) (H : RI r po pn pl tx sv mm u fi t2 sa ln) (K : LK p l e s m args below meth c g A ap ad am ao b i (cells + 40) (slots + 300) Q) : xW p l e room_1 s m args below meth c g.1 A 9 cells slots Q (wLaw g ap ad am ao r po pn pl tx rp rl rs rm rn rz sv mm u fi t2 dm th sa ln pa le sk nu h fo) [(4, .int (nI i)), (3, .ref ao), (2, .ref (am 0)), (1, .ref (ap 0)), (0, .ref b)] 3117 [] := by
  refine x_ws (ws' := ((wOu g ao fo) ++ ((wMo g am u fi t2 dm th sa ln pa le sk nu h) ++ (wCl g ap ad r po pn pl tx rp rl rs rm rn rz sv mm)))) rfl ?_
  refine x_aload_n C 3 rfl rfl dL_law_3117 ?_
  refine x_EV1 (w1 := (wOu g ao fo) ++ (wMo g am u fi t2 dm th sa ln pa le sk nu h)) (wc := (wCl g ap ad r po pn pl tx rp rl rs rm rn rz sv mm)) [] [] C (k_X6_digest l g ap ad r po pn pl tx rp rl rs rm rn rz sv mm H.clo) (List.append_assoc _ _ _).symm yV_X6_digest wML_L_360 6 rfl rfl rfl rfl (nle rfl) (nle rfl) (nle rfl) (rmc hcC (by omega)) (rmc hsC (by omega)) dL_law_3118 (fun E w h => h.elim) (fun r0 w0 h0 => ?_)
  have hP := P_digest r po pn pl tx rp rl rs rm rn rz sv mm u fi t2 dm th sa ln pa le sk nu h  H
  obtain ⟨rfl, rfl⟩ := h0
  refine x_ws (ws' := ((wOu g ao fo) ++ ((wMo g am u fi t2 dm th sa ln pa le sk nu h) ++ (wCl g ap ad (r.set_dq (sp_cdm r.kp r.ke r.kr r.kt r.kh r.kc r.xn r.xs r.xv r.xh r.xo r.xc r.dq 6)) po pn pl tx rp rl rs rm rn rz sv mm)))) (List.append_assoc _ _ _) ?_
  refine x_st (st' := [.long (sp_X6_digest r)]) rfl ?_
  refine x_aload_n C 2 rfl rfl dL_law_3121 ?_
  refine x_FV (w1 := (wOu g ao fo)) (wc := (wMo g am u fi t2 dm th sa ln pa le sk nu h)) (w2 := (wCl g ap ad (r.set_dq (sp_cdm r.kp r.ke r.kr r.kt r.kh r.kc r.xn r.xs r.xv r.xh r.xo r.xc r.dq 6)) po pn pl tx rp rl rs rm rn rz sv mm)) [] [.long (sp_X6_digest r)] ((wOu g ao fo) ++ ((wMo g am u fi t2 (sp_dems u 0 dm 6) 0 sa ln pa le sk nu (sp_X7_digest_h u dm)) ++ (wCl g ap ad (r.set_dq (sp_cdm r.kp r.ke r.kr r.kt r.kh r.kc r.xn r.xs r.xv r.xh r.xo r.xc r.dq 6)) po pn pl tx rp rl rs rm rn rz sv mm))) C (k_X7_digest l g am u fi t2 dm th sa ln pa le sk nu h H.hs H.hs6 H.hm) rfl yV_X7_digest wML_L_364 rfl 1 rfl rfl rfl rfl (nle rfl) (nle rfl) (nle rfl) (rmc hcC (by omega)) (rmc hsC (by omega)) dL_law_3122 ?_
  refine x_lcmp C dL_law_3125 ?_
  refine x_if_eq C 3131 (by decide) dL_law_3126 (fun _ => ?_) (fun hz => absurd (lgz hP.1) hz)
  refine x_wid (k := cells + 40) (n := slots + 300) (by omega) (by omega) ?_
  exact K (r.set_dq (sp_cdm r.kp r.ke r.kr r.kt r.kh r.kc r.xn r.xs r.xv r.xh r.xo r.xc r.dq 6)) po pn pl tx rp rl rs rm rn rz sv mm u fi t2 (sp_dems u 0 dm 6) 0 sa ln pa le sk nu (sp_X7_digest_h u dm) fo hP.2
