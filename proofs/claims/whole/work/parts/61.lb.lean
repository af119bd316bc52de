set_option maxRecDepth 100000 in
set_option maxHeartbeats 2000000 in
theorem c_21 {p : Program} {l : Launch} {e : Env} {s : State} {m : MethodId} {args : Array Value} {below : List Frame} {meth : Method} {c : Code} {cells slots : Nat} {Q : State → Prop} {nm : String} {g : xGt} {A : Nat → Prop} {b L i : Nat} {xs : Nat → Int32} {ap ad am : Nat → Nat} {ao : Nat} {r : xR} {po : Int32} {pn : Int32} {pl : Int32} {tx : Nat → Int32} {rp : Int32} {rl : Int32} {rs : Int32} {rm : Int32} {rn : Int32} {rz : Int32} {sv : xPl} {mm : xPl} {u : Nat → Int32} {fi : Nat → Int32} {t2 : Nat → Int32} {dm : Nat → Int32} {th : Int32} {sa : Int32} {ln : Int32} {pa : Int32} {le : Int32} {sk : Int32} {nu : Int32} {h : Int64} {fo : Nat → Int64} (C : xC p l s m args meth c cL_law 9 RL nm g.1 (xT g) A) (hX : va_X b L xs s s.heap) (hbl : b < s.heap.size) (hbA : ¬ A b) (hi : i + 6 ≤ L) (hL : L ≤ 3072) (hcC : cells + 40 ≤ room_1.cells) (hsC : slots + 300 ≤ room_1.slots) (H : RI r po pn pl tx sv mm u fi t2 sa ln) (K : LK p l e s m args below meth c g A ap ad am ao b i (cells + 40) (slots + 300) Q) : xW p l e room_1 s m args below meth c g.1 A 9 cells slots Q (wLaw g ap ad am ao r po pn pl tx rp rl rs rm rn rz sv mm u fi t2 dm th sa ln pa le sk nu h fo) [(4, .int (nI i)), (3, .ref ao), (2, .ref (am 0)), (1, .ref (ap 0)), (0, .ref b)] 1409 [] := by
  refine x_ws (ws' := ((wOu g ao fo) ++ ((wMo g am u fi t2 dm th sa ln pa le sk nu h) ++ (wCl g ap ad r po pn pl tx rp rl rs rm rn rz sv mm)))) rfl ?_
  refine x_aload_n C 3 rfl rfl dL_law_1409 ?_
  refine x_aload_n C 4 rfl rfl dL_law_1410 ?_
  refine x_iload C 0 rfl dL_law_1411 ?_
  refine x_iconst C 1 (by decide) dL_law_1413 ?_
  refine x_iaddN C i 1 rfl rfl dL_law_1414 ?_
  refine x_sld C (i + 1) hX hbl hbA rfl (by omega) (by omega) dL_law_1415 ?_
  refine x_aload_n C 1 rfl rfl dL_law_1416 ?_
  refine x_callL (X := (wOu g ao fo)) (Y := (wMo g am u fi t2 dm th sa ln pa le sk nu h)) (Z := (wCl g ap ad r po pn pl tx rp rl rs rm rn rz sv mm)) [.ref (ap 0), .int (xs (i + 1)), .ref ao] [] C (k_L_isActive l g ao fo ap ad r po pn pl tx rp rl rs rm rn rz sv mm (xs (i + 1)) H.clo) yH_L_isActive wML_L_227 rfl rfl rfl (nle rfl) (nle rfl) (nle rfl) (rmc hcC (by omega)) (rmc hsC (by omega)) dL_law_1417 (fun r0 w0 h0 => ?_)
  have hP := P_isActive r po pn pl tx rp rl rs rm rn rz sv mm u fi t2 dm th sa ln pa le sk nu h (xs (i + 1)) H
  rcases h0 with ⟨h1, rfl, w8, hw, rfl⟩ | ⟨E, cd, h1, hcd, rfl, rfl⟩
  · obtain rfl := hw
    obtain ⟨e1, e2, e3⟩ := hP.1 h1
    refine x_perm (ws' := ((wOu g ao (vp_updL fo 0 (if (sp_X2_holds r.xc (Int32.toNatClampNeg (xs (i + 1))) r.kh) = 0 then (0 : Int64) else 1))) ++ ((wMo g am u fi t2 dm th sa ln pa le sk nu h) ++ (wCl g ap ad r po pn pl tx rp rl rs rm rn rz sv mm)))) (List.perm_append_comm_assoc (wMo g am u fi t2 dm th sa ln pa le sk nu h) (wOu g ao (vp_updL fo 0 (if (sp_X2_holds r.xc (Int32.toNatClampNeg (xs (i + 1))) r.kh) = 0 then (0 : Int64) else 1))) (wCl g ap ad r po pn pl tx rp rl rs rm rn rz sv mm)) ?_
    refine x_st (st' := [.int 0]) rfl ?_
    refine x_istore C [(5, .int 0), (4, .int (nI i)), (3, .ref ao), (2, .ref (am 0)), (1, .ref (ap 0)), (0, .ref b)] rfl (by decide) dL_law_1420 ?_
    refine x_aload_n C 3 rfl rfl dL_law_1422 ?_
    refine x_aload_n C 5 rfl rfl dL_law_1423 ?_
    refine x_iload C 1 rfl dL_law_1424 ?_
    refine x_iconst C 1 (by decide) dL_law_1426 ?_
    refine x_iaddN C i 1 rfl rfl dL_law_1427 ?_
    refine x_sld C (i + 1) hX hbl hbA rfl (by omega) (by omega) dL_law_1428 ?_
    refine x_FV (w1 := (wOu g ao (vp_updL fo 0 (if (sp_X2_holds r.xc (Int32.toNatClampNeg (xs (i + 1))) r.kh) = 0 then (0 : Int64) else 1)))) (wc := (wMo g am u fi t2 dm th sa ln pa le sk nu h)) (w2 := (wCl g ap ad r po pn pl tx rp rl rs rm rn rz sv mm)) [.int (xs (i + 1))] [] ((wOu g ao (vp_updL fo 0 (if (sp_X2_holds r.xc (Int32.toNatClampNeg (xs (i + 1))) r.kh) = 0 then (0 : Int64) else 1))) ++ ((wMo g am u fi t2 dm (sp_X7_isActive_th u (xs (i + 1))) sa ln pa le sk nu h) ++ (wCl g ap ad r po pn pl tx rp rl rs rm rn rz sv mm))) C (k_X7_isActive l g am u fi t2 dm th sa ln pa le sk nu h (xs (i + 1)) H.hs H.hs6 H.hm) rfl yV_X7_isActive wML_L_229 rfl 1 rfl rfl rfl rfl (nle rfl) (nle rfl) (nle rfl) (rmc hcC (by omega)) (rmc hsC (by omega)) dL_law_1429 ?_
    refine x_istore C [(6, .int (sp_X7_isActive u (xs (i + 1)))), (5, .int 0), (4, .int (nI i)), (3, .ref ao), (2, .ref (am 0)), (1, .ref (ap 0)), (0, .ref b)] rfl (by decide) dL_law_1432 ?_
    refine x_aload_n C 4 rfl rfl dL_law_1434 ?_
    refine x_FV (w1 := (wOu g ao (vp_updL fo 0 (if (sp_X2_holds r.xc (Int32.toNatClampNeg (xs (i + 1))) r.kh) = 0 then (0 : Int64) else 1)))) (wc := (wMo g am u fi t2 dm (sp_X7_isActive_th u (xs (i + 1))) sa ln pa le sk nu h)) (w2 := (wCl g ap ad r po pn pl tx rp rl rs rm rn rz sv mm)) [] [] ((wOu g ao (vp_updL fo 0 (if (sp_X2_holds r.xc (Int32.toNatClampNeg (xs (i + 1))) r.kh) = 0 then (0 : Int64) else 1))) ++ ((wMo g am u fi t2 dm (sp_X7_isActive_th u (xs (i + 1))) sa ln pa le sk nu h) ++ (wCl g ap ad r po pn pl tx rp rl rs rm rn rz sv mm))) C (k_X7_thrown l g am u fi t2 dm (sp_X7_isActive_th u (xs (i + 1))) sa ln pa le sk nu h) rfl yV_X7_thrown wML_L_154 rfl 1 rfl rfl rfl rfl (nle rfl) (nle rfl) (nle rfl) (rmc hcC (by omega)) (rmc hsC (by omega)) dL_law_1435 ?_
    refine x_iload C 1 rfl dL_law_1438 ?_
    refine x_icmp_eq C 1445 (by decide) dL_law_1440 (fun _ => ?_) (fun hz => absurd e1 hz)
    refine x_iload C 1 rfl dL_law_1445 ?_
    refine x_if_ne C 1469 (by decide) dL_law_1447 (fun hz => absurd (by decide) hz) (fun _ => ?_)
    refine x_aload_n C 3 rfl rfl dL_law_1450 ?_
    refine x_iconst C 0 (by decide) dL_law_1451 ?_
    refine x_lald (f := (vp_updL fo 0 (if (sp_X2_holds r.xc (Int32.toNatClampNeg (xs (i + 1))) r.kh) = 0 then (0 : Int64) else 1))) C 0 3 rfl rfl in1 dL_law_1452 ?_
    refine x_st (st' := [.long (if (sp_X2_holds r.xc (Int32.toNatClampNeg (xs (i + 1))) r.kh) = 0 then (0 : Int64) else 1)]) rfl ?_
    refine x_iload C 0 rfl dL_law_1453 ?_
    refine x_if_eq C 1462 (by decide) dL_law_1455 (fun hq1 => ?_) (fun hq1 => ?_)
    · refine x_lconst C 0 (by decide) dL_law_1462 ?_
      refine x_lcmp C dL_law_1463 ?_
      refine x_if_eq C 1469 (by decide) dL_law_1464 (fun _ => ?_) (fun hz => absurd (lgz (if_pos (e2.trans hq1))) hz)
      refine x_goto C 3131 (by decide) dL_law_1469 ?_
      refine x_lv [(4, .int (nI i)), (3, .ref ao), (2, .ref (am 0)), (1, .ref (ap 0)), (0, .ref b)] [2, 3, 4, 5, 6] rfl ?_
      refine x_wid (k := cells + 40) (n := slots + 300) (by omega) (by omega) ?_
      exact K r po pn pl tx rp rl rs rm rn rz sv mm u fi t2 dm (sp_X7_isActive_th u (xs (i + 1))) sa ln pa le sk nu h (vp_updL fo 0 (if (sp_X2_holds r.xc (Int32.toNatClampNeg (xs (i + 1))) r.kh) = 0 then (0 : Int64) else 1)) e3
    · refine x_lconst C 1 (by decide) dL_law_1458 ?_
      refine x_goto C 1463 (by decide) dL_law_1459 ?_
      refine x_lcmp C dL_law_1463 ?_
      refine x_if_eq C 1469 (by decide) dL_law_1464 (fun _ => ?_) (fun hz => absurd (lgz (if_neg (fun q => hq1 (e2.symm.trans q)))) hz)
      refine x_goto C 3131 (by decide) dL_law_1469 ?_
      refine x_lv [(4, .int (nI i)), (3, .ref ao), (2, .ref (am 0)), (1, .ref (ap 0)), (0, .ref b)] [2, 3, 4, 5, 6] rfl ?_
      refine x_wid (k := cells + 40) (n := slots + 300) (by omega) (by omega) ?_
      exact K r po pn pl tx rp rl rs rm rn rz sv mm u fi t2 dm (sp_X7_isActive_th u (xs (i + 1))) sa ln pa le sk nu h (vp_updL fo 0 (if (sp_X2_holds r.xc (Int32.toNatClampNeg (xs (i + 1))) r.kh) = 0 then (0 : Int64) else 1)) e3
  · obtain ⟨e1, e3⟩ := hP.2 E cd h1 hcd
    refine x_perm (ws' := ((wOu g ao fo) ++ ((wMo g am u fi t2 dm th sa ln pa le sk nu h) ++ (wCl g ap ad r po pn pl tx rp rl rs rm rn rz sv mm)))) (List.perm_append_comm_assoc (wMo g am u fi t2 dm th sa ln pa le sk nu h) (wOu g ao fo) (wCl g ap ad r po pn pl tx rp rl rs rm rn rz sv mm)) ?_
    refine x_st (st' := [.int cd]) rfl ?_
    refine x_istore C [(5, .int cd), (4, .int (nI i)), (3, .ref ao), (2, .ref (am 0)), (1, .ref (ap 0)), (0, .ref b)] rfl (by decide) dL_law_1420 ?_
    refine x_aload_n C 3 rfl rfl dL_law_1422 ?_
    refine x_aload_n C 5 rfl rfl dL_law_1423 ?_
    refine x_iload C 1 rfl dL_law_1424 ?_
    refine x_iconst C 1 (by decide) dL_law_1426 ?_
    refine x_iaddN C i 1 rfl rfl dL_law_1427 ?_
    refine x_sld C (i + 1) hX hbl hbA rfl (by omega) (by omega) dL_law_1428 ?_
    refine x_FV (w1 := (wOu g ao fo)) (wc := (wMo g am u fi t2 dm th sa ln pa le sk nu h)) (w2 := (wCl g ap ad r po pn pl tx rp rl rs rm rn rz sv mm)) [.int (xs (i + 1))] [] ((wOu g ao fo) ++ ((wMo g am u fi t2 dm (sp_X7_isActive_th u (xs (i + 1))) sa ln pa le sk nu h) ++ (wCl g ap ad r po pn pl tx rp rl rs rm rn rz sv mm))) C (k_X7_isActive l g am u fi t2 dm th sa ln pa le sk nu h (xs (i + 1)) H.hs H.hs6 H.hm) rfl yV_X7_isActive wML_L_229 rfl 1 rfl rfl rfl rfl (nle rfl) (nle rfl) (nle rfl) (rmc hcC (by omega)) (rmc hsC (by omega)) dL_law_1429 ?_
    refine x_istore C [(6, .int (sp_X7_isActive u (xs (i + 1)))), (5, .int cd), (4, .int (nI i)), (3, .ref ao), (2, .ref (am 0)), (1, .ref (ap 0)), (0, .ref b)] rfl (by decide) dL_law_1432 ?_
    refine x_aload_n C 4 rfl rfl dL_law_1434 ?_
    refine x_FV (w1 := (wOu g ao fo)) (wc := (wMo g am u fi t2 dm (sp_X7_isActive_th u (xs (i + 1))) sa ln pa le sk nu h)) (w2 := (wCl g ap ad r po pn pl tx rp rl rs rm rn rz sv mm)) [] [] ((wOu g ao fo) ++ ((wMo g am u fi t2 dm (sp_X7_isActive_th u (xs (i + 1))) sa ln pa le sk nu h) ++ (wCl g ap ad r po pn pl tx rp rl rs rm rn rz sv mm))) C (k_X7_thrown l g am u fi t2 dm (sp_X7_isActive_th u (xs (i + 1))) sa ln pa le sk nu h) rfl yV_X7_thrown wML_L_154 rfl 1 rfl rfl rfl rfl (nle rfl) (nle rfl) (nle rfl) (rmc hcC (by omega)) (rmc hsC (by omega)) dL_law_1435 ?_
    refine x_iload C 1 rfl dL_law_1438 ?_
    refine x_icmp_eq C 1445 (by decide) dL_law_1440 (fun _ => ?_) (fun hz => absurd e1 hz)
    refine x_iload C 1 rfl dL_law_1445 ?_
    refine x_if_ne C 1469 (by decide) dL_law_1447 (fun _ => ?_) (fun hz => absurd hz (cd0 hcd))
    refine x_goto C 3131 (by decide) dL_law_1469 ?_
    refine x_lv [(4, .int (nI i)), (3, .ref ao), (2, .ref (am 0)), (1, .ref (ap 0)), (0, .ref b)] [2, 3, 4, 5, 6] rfl ?_
    refine x_wid (k := cells + 40) (n := slots + 300) (by omega) (by omega) ?_
    exact K r po pn pl tx rp rl rs rm rn rz sv mm u fi t2 dm (sp_X7_isActive_th u (xs (i + 1))) sa ln pa le sk nu h fo e3
set_option maxRecDepth 100000 in
set_option maxHeartbeats 2000000 in
theorem c_22 {p : Program} {l : Launch} {e : Env} {s : State} {m : MethodId} {args : Array Value} {below : List Frame} {meth : Method} {c : Code} {cells slots : Nat} {Q : State → Prop} {nm : String} {g : xGt} {A : Nat → Prop} {b L i : Nat} {xs : Nat → Int32} {ap ad am : Nat → Nat} {ao : Nat} {r : xR} {po : Int32} {pn : Int32} {pl : Int32} {tx : Nat → Int32} {rp : Int32} {rl : Int32} {rs : Int32} {rm : Int32} {rn : Int32} {rz : Int32} {sv : xPl} {mm : xPl} {u : Nat → Int32} {fi : Nat → Int32} {t2 : Nat → Int32} {dm : Nat → Int32} {th : Int32} {sa : Int32} {ln : Int32} {pa : Int32} {le : Int32} {sk : Int32} {nu : Int32} {h : Int64} {fo : Nat → Int64} (C : xC p l s m args meth c cL_law 9 RL nm g.1 (xT g) A) (hX : va_X b L xs s s.heap) (hbl : b < s.heap.size) (hbA : ¬ A b) (hi : i + 6 ≤ L) (hL : L ≤ 3072) (hcC : cells + 40 ≤ room_1.cells) (hsC : slots + 300 ≤ room_1.slots) (H : RI r po pn pl tx sv mm u fi t2 sa ln) (K : LK p l e s m args below meth c g A ap ad am ao b i (cells + 40) (slots + 300) Q) : xW p l e room_1 s m args below meth c g.1 A 9 cells slots Q (wLaw g ap ad am ao r po pn pl tx rp rl rs rm rn rz sv mm u fi t2 dm th sa ln pa le sk nu h fo) [(4, .int (nI i)), (3, .ref ao), (2, .ref (am 0)), (1, .ref (ap 0)), (0, .ref b)] 1472 [] := by
  refine x_ws (ws' := ((wOu g ao fo) ++ ((wMo g am u fi t2 dm th sa ln pa le sk nu h) ++ (wCl g ap ad r po pn pl tx rp rl rs rm rn rz sv mm)))) rfl ?_
  refine x_aload_n C 3 rfl rfl dL_law_1472 ?_
  refine x_aload_n C 4 rfl rfl dL_law_1473 ?_
  refine x_iload C 0 rfl dL_law_1474 ?_
  refine x_iconst C 1 (by decide) dL_law_1476 ?_
  refine x_iaddN C i 1 rfl rfl dL_law_1477 ?_
  refine x_sld C (i + 1) hX hbl hbA rfl (by omega) (by omega) dL_law_1478 ?_
  refine x_aload_n C 1 rfl rfl dL_law_1479 ?_
  refine x_callL (X := (wOu g ao fo)) (Y := (wMo g am u fi t2 dm th sa ln pa le sk nu h)) (Z := (wCl g ap ad r po pn pl tx rp rl rs rm rn rz sv mm)) [.ref (ap 0), .int (xs (i + 1)), .ref ao] [] C (k_L_reverse l g ao fo ap ad r po pn pl tx rp rl rs rm rn rz sv mm (xs (i + 1)) H.clo) yH_L_reverse wML_L_230 rfl rfl rfl (nle rfl) (nle rfl) (nle rfl) (rmc hcC (by omega)) (rmc hsC (by omega)) dL_law_1480 (fun r0 w0 h0 => ?_)
  have hP := P_reverse r po pn pl tx rp rl rs rm rn rz sv mm u fi t2 dm th sa ln pa le sk nu h (xs (i + 1)) H
  rcases h0 with ⟨h1, rfl, w8, hw, rfl⟩ | ⟨E, cd, h1, hcd, rfl, rfl⟩
  · obtain ⟨adn, rfl⟩ := hw
    obtain ⟨e1, e2, e3⟩ := hP.1 h1
    refine x_perm (ws' := ((wOu g ao (vp_updL fo 0 (if (sp_X6_reverse r (xs (i + 1))) = 0 then (0 : Int64) else 1))) ++ ((wMo g am u fi t2 dm th sa ln pa le sk nu h) ++ (wCl g ap ad (r.set_vd (upd r.vd (Int32.toNatClampNeg (xs (i + 1))) (-(r.vd (Int32.toNatClampNeg (xs (i + 1))))))) (sp_spo2 po pn) (sp_spn2 pn) pl tx rp rl rs rm rn rz (svS sv adn r po pn) mm)))) (List.perm_append_comm_assoc (wMo g am u fi t2 dm th sa ln pa le sk nu h) (wOu g ao (vp_updL fo 0 (if (sp_X6_reverse r (xs (i + 1))) = 0 then (0 : Int64) else 1))) (wCl g ap ad (r.set_vd (upd r.vd (Int32.toNatClampNeg (xs (i + 1))) (-(r.vd (Int32.toNatClampNeg (xs (i + 1))))))) (sp_spo2 po pn) (sp_spn2 pn) pl tx rp rl rs rm rn rz (svS sv adn r po pn) mm)) ?_
    refine x_st (st' := [.int 0]) rfl ?_
    refine x_istore C [(5, .int 0), (4, .int (nI i)), (3, .ref ao), (2, .ref (am 0)), (1, .ref (ap 0)), (0, .ref b)] rfl (by decide) dL_law_1483 ?_
    refine x_aload_n C 3 rfl rfl dL_law_1485 ?_
    refine x_aload_n C 5 rfl rfl dL_law_1486 ?_
    refine x_iload C 1 rfl dL_law_1487 ?_
    refine x_iconst C 1 (by decide) dL_law_1489 ?_
    refine x_iaddN C i 1 rfl rfl dL_law_1490 ?_
    refine x_sld C (i + 1) hX hbl hbA rfl (by omega) (by omega) dL_law_1491 ?_
    refine x_FV (w1 := (wOu g ao (vp_updL fo 0 (if (sp_X6_reverse r (xs (i + 1))) = 0 then (0 : Int64) else 1)))) (wc := (wMo g am u fi t2 dm th sa ln pa le sk nu h)) (w2 := (wCl g ap ad (r.set_vd (upd r.vd (Int32.toNatClampNeg (xs (i + 1))) (-(r.vd (Int32.toNatClampNeg (xs (i + 1))))))) (sp_spo2 po pn) (sp_spn2 pn) pl tx rp rl rs rm rn rz (svS sv adn r po pn) mm)) [.int (xs (i + 1))] [] ((wOu g ao (vp_updL fo 0 (if (sp_X6_reverse r (xs (i + 1))) = 0 then (0 : Int64) else 1))) ++ ((wMo g am (sp_X7_reverse_s u sa (xs (i + 1))) fi t2 dm (sp_X7_reverse_th (xs (i + 1))) (sp_X7_reverse_sa sa (xs (i + 1))) ln pa le sk nu h) ++ (wCl g ap ad (r.set_vd (upd r.vd (Int32.toNatClampNeg (xs (i + 1))) (-(r.vd (Int32.toNatClampNeg (xs (i + 1))))))) (sp_spo2 po pn) (sp_spn2 pn) pl tx rp rl rs rm rn rz (svS sv adn r po pn) mm))) C (k_X7_reverse l g am u fi t2 dm th sa ln pa le sk nu h (xs (i + 1)) H.hs H.hs6 H.hm) rfl yV_X7_reverse wML_L_232 rfl 1 rfl rfl rfl rfl (nle rfl) (nle rfl) (nle rfl) (rmc hcC (by omega)) (rmc hsC (by omega)) dL_law_1492 ?_
    refine x_istore C [(6, .int (sp_X7_reverse u sa (xs (i + 1)))), (5, .int 0), (4, .int (nI i)), (3, .ref ao), (2, .ref (am 0)), (1, .ref (ap 0)), (0, .ref b)] rfl (by decide) dL_law_1495 ?_
    refine x_aload_n C 4 rfl rfl dL_law_1497 ?_
    refine x_FV (w1 := (wOu g ao (vp_updL fo 0 (if (sp_X6_reverse r (xs (i + 1))) = 0 then (0 : Int64) else 1)))) (wc := (wMo g am (sp_X7_reverse_s u sa (xs (i + 1))) fi t2 dm (sp_X7_reverse_th (xs (i + 1))) (sp_X7_reverse_sa sa (xs (i + 1))) ln pa le sk nu h)) (w2 := (wCl g ap ad (r.set_vd (upd r.vd (Int32.toNatClampNeg (xs (i + 1))) (-(r.vd (Int32.toNatClampNeg (xs (i + 1))))))) (sp_spo2 po pn) (sp_spn2 pn) pl tx rp rl rs rm rn rz (svS sv adn r po pn) mm)) [] [] ((wOu g ao (vp_updL fo 0 (if (sp_X6_reverse r (xs (i + 1))) = 0 then (0 : Int64) else 1))) ++ ((wMo g am (sp_X7_reverse_s u sa (xs (i + 1))) fi t2 dm (sp_X7_reverse_th (xs (i + 1))) (sp_X7_reverse_sa sa (xs (i + 1))) ln pa le sk nu h) ++ (wCl g ap ad (r.set_vd (upd r.vd (Int32.toNatClampNeg (xs (i + 1))) (-(r.vd (Int32.toNatClampNeg (xs (i + 1))))))) (sp_spo2 po pn) (sp_spn2 pn) pl tx rp rl rs rm rn rz (svS sv adn r po pn) mm))) C (k_X7_thrown l g am (sp_X7_reverse_s u sa (xs (i + 1))) fi t2 dm (sp_X7_reverse_th (xs (i + 1))) (sp_X7_reverse_sa sa (xs (i + 1))) ln pa le sk nu h) rfl yV_X7_thrown wML_L_154 rfl 1 rfl rfl rfl rfl (nle rfl) (nle rfl) (nle rfl) (rmc hcC (by omega)) (rmc hsC (by omega)) dL_law_1498 ?_
    refine x_iload C 1 rfl dL_law_1501 ?_
    refine x_icmp_eq C 1508 (by decide) dL_law_1503 (fun _ => ?_) (fun hz => absurd e1 hz)
    refine x_iload C 1 rfl dL_law_1508 ?_
    refine x_if_ne C 1532 (by decide) dL_law_1510 (fun hz => absurd (by decide) hz) (fun _ => ?_)
    refine x_aload_n C 3 rfl rfl dL_law_1513 ?_
    refine x_iconst C 0 (by decide) dL_law_1514 ?_
    refine x_lald (f := (vp_updL fo 0 (if (sp_X6_reverse r (xs (i + 1))) = 0 then (0 : Int64) else 1))) C 0 3 rfl rfl in1 dL_law_1515 ?_
    refine x_st (st' := [.long (if (sp_X6_reverse r (xs (i + 1))) = 0 then (0 : Int64) else 1)]) rfl ?_
    refine x_iload C 0 rfl dL_law_1516 ?_
    refine x_if_eq C 1525 (by decide) dL_law_1518 (fun hq1 => ?_) (fun hq1 => ?_)
    · refine x_lconst C 0 (by decide) dL_law_1525 ?_
      refine x_lcmp C dL_law_1526 ?_
      refine x_if_eq C 1532 (by decide) dL_law_1527 (fun _ => ?_) (fun hz => absurd (lgz (if_pos (e2.trans hq1))) hz)
      refine x_goto C 3131 (by decide) dL_law_1532 ?_
      refine x_lv [(4, .int (nI i)), (3, .ref ao), (2, .ref (am 0)), (1, .ref (ap 0)), (0, .ref b)] [2, 3, 4, 5, 6] rfl ?_
      refine x_wid (k := cells + 40) (n := slots + 300) (by omega) (by omega) ?_
      exact K (r.set_vd (upd r.vd (Int32.toNatClampNeg (xs (i + 1))) (-(r.vd (Int32.toNatClampNeg (xs (i + 1))))))) (sp_spo2 po pn) (sp_spn2 pn) pl tx rp rl rs rm rn rz (svS sv adn r po pn) mm (sp_X7_reverse_s u sa (xs (i + 1))) fi t2 dm (sp_X7_reverse_th (xs (i + 1))) (sp_X7_reverse_sa sa (xs (i + 1))) ln pa le sk nu h (vp_updL fo 0 (if (sp_X6_reverse r (xs (i + 1))) = 0 then (0 : Int64) else 1)) (e3 adn)
    · refine x_lconst C 1 (by decide) dL_law_1521 ?_
      refine x_goto C 1526 (by decide) dL_law_1522 ?_
      refine x_lcmp C dL_law_1526 ?_
      refine x_if_eq C 1532 (by decide) dL_law_1527 (fun _ => ?_) (fun hz => absurd (lgz (if_neg (fun q => hq1 (e2.symm.trans q)))) hz)
      refine x_goto C 3131 (by decide) dL_law_1532 ?_
      refine x_lv [(4, .int (nI i)), (3, .ref ao), (2, .ref (am 0)), (1, .ref (ap 0)), (0, .ref b)] [2, 3, 4, 5, 6] rfl ?_
      refine x_wid (k := cells + 40) (n := slots + 300) (by omega) (by omega) ?_
      exact K (r.set_vd (upd r.vd (Int32.toNatClampNeg (xs (i + 1))) (-(r.vd (Int32.toNatClampNeg (xs (i + 1))))))) (sp_spo2 po pn) (sp_spn2 pn) pl tx rp rl rs rm rn rz (svS sv adn r po pn) mm (sp_X7_reverse_s u sa (xs (i + 1))) fi t2 dm (sp_X7_reverse_th (xs (i + 1))) (sp_X7_reverse_sa sa (xs (i + 1))) ln pa le sk nu h (vp_updL fo 0 (if (sp_X6_reverse r (xs (i + 1))) = 0 then (0 : Int64) else 1)) (e3 adn)
  · obtain ⟨e1, e3⟩ := hP.2 E cd h1 hcd
    refine x_perm (ws' := ((wOu g ao fo) ++ ((wMo g am u fi t2 dm th sa ln pa le sk nu h) ++ (wCl g ap ad r po pn pl tx rp rl rs rm rn rz sv mm)))) (List.perm_append_comm_assoc (wMo g am u fi t2 dm th sa ln pa le sk nu h) (wOu g ao fo) (wCl g ap ad r po pn pl tx rp rl rs rm rn rz sv mm)) ?_
    refine x_st (st' := [.int cd]) rfl ?_
    refine x_istore C [(5, .int cd), (4, .int (nI i)), (3, .ref ao), (2, .ref (am 0)), (1, .ref (ap 0)), (0, .ref b)] rfl (by decide) dL_law_1483 ?_
    refine x_aload_n C 3 rfl rfl dL_law_1485 ?_
    refine x_aload_n C 5 rfl rfl dL_law_1486 ?_
    refine x_iload C 1 rfl dL_law_1487 ?_
    refine x_iconst C 1 (by decide) dL_law_1489 ?_
    refine x_iaddN C i 1 rfl rfl dL_law_1490 ?_
    refine x_sld C (i + 1) hX hbl hbA rfl (by omega) (by omega) dL_law_1491 ?_
    refine x_FV (w1 := (wOu g ao fo)) (wc := (wMo g am u fi t2 dm th sa ln pa le sk nu h)) (w2 := (wCl g ap ad r po pn pl tx rp rl rs rm rn rz sv mm)) [.int (xs (i + 1))] [] ((wOu g ao fo) ++ ((wMo g am (sp_X7_reverse_s u sa (xs (i + 1))) fi t2 dm (sp_X7_reverse_th (xs (i + 1))) (sp_X7_reverse_sa sa (xs (i + 1))) ln pa le sk nu h) ++ (wCl g ap ad r po pn pl tx rp rl rs rm rn rz sv mm))) C (k_X7_reverse l g am u fi t2 dm th sa ln pa le sk nu h (xs (i + 1)) H.hs H.hs6 H.hm) rfl yV_X7_reverse wML_L_232 rfl 1 rfl rfl rfl rfl (nle rfl) (nle rfl) (nle rfl) (rmc hcC (by omega)) (rmc hsC (by omega)) dL_law_1492 ?_
    refine x_istore C [(6, .int (sp_X7_reverse u sa (xs (i + 1)))), (5, .int cd), (4, .int (nI i)), (3, .ref ao), (2, .ref (am 0)), (1, .ref (ap 0)), (0, .ref b)] rfl (by decide) dL_law_1495 ?_
    refine x_aload_n C 4 rfl rfl dL_law_1497 ?_
    refine x_FV (w1 := (wOu g ao fo)) (wc := (wMo g am (sp_X7_reverse_s u sa (xs (i + 1))) fi t2 dm (sp_X7_reverse_th (xs (i + 1))) (sp_X7_reverse_sa sa (xs (i + 1))) ln pa le sk nu h)) (w2 := (wCl g ap ad r po pn pl tx rp rl rs rm rn rz sv mm)) [] [] ((wOu g ao fo) ++ ((wMo g am (sp_X7_reverse_s u sa (xs (i + 1))) fi t2 dm (sp_X7_reverse_th (xs (i + 1))) (sp_X7_reverse_sa sa (xs (i + 1))) ln pa le sk nu h) ++ (wCl g ap ad r po pn pl tx rp rl rs rm rn rz sv mm))) C (k_X7_thrown l g am (sp_X7_reverse_s u sa (xs (i + 1))) fi t2 dm (sp_X7_reverse_th (xs (i + 1))) (sp_X7_reverse_sa sa (xs (i + 1))) ln pa le sk nu h) rfl yV_X7_thrown wML_L_154 rfl 1 rfl rfl rfl rfl (nle rfl) (nle rfl) (nle rfl) (rmc hcC (by omega)) (rmc hsC (by omega)) dL_law_1498 ?_
    refine x_iload C 1 rfl dL_law_1501 ?_
    refine x_icmp_eq C 1508 (by decide) dL_law_1503 (fun _ => ?_) (fun hz => absurd e1 hz)
    refine x_iload C 1 rfl dL_law_1508 ?_
    refine x_if_ne C 1532 (by decide) dL_law_1510 (fun _ => ?_) (fun hz => absurd hz (cd0 hcd))
    refine x_goto C 3131 (by decide) dL_law_1532 ?_
    refine x_lv [(4, .int (nI i)), (3, .ref ao), (2, .ref (am 0)), (1, .ref (ap 0)), (0, .ref b)] [2, 3, 4, 5, 6] rfl ?_
    refine x_wid (k := cells + 40) (n := slots + 300) (by omega) (by omega) ?_
    exact K r po pn pl tx rp rl rs rm rn rz sv mm (sp_X7_reverse_s u sa (xs (i + 1))) fi t2 dm (sp_X7_reverse_th (xs (i + 1))) (sp_X7_reverse_sa sa (xs (i + 1))) ln pa le sk nu h fo e3
set_option maxRecDepth 100000 in
set_option maxHeartbeats 2000000 in
theorem c_23 {p : Program} {l : Launch} {e : Env} {s : State} {m : MethodId} {args : Array Value} {below : List Frame} {meth : Method} {c : Code} {cells slots : Nat} {Q : State → Prop} {nm : String} {g : xGt} {A : Nat → Prop} {b L i : Nat} {xs : Nat → Int32} {ap ad am : Nat → Nat} {ao : Nat} {r : xR} {po : Int32} {pn : Int32} {pl : Int32} {tx : Nat → Int32} {rp : Int32} {rl : Int32} {rs : Int32} {rm : Int32} {rn : Int32} {rz : Int32} {sv : xPl} {mm : xPl} {u : Nat → Int32} {fi : Nat → Int32} {t2 : Nat → Int32} {dm : Nat → Int32} {th : Int32} {sa : Int32} {ln : Int32} {pa : Int32} {le : Int32} {sk : Int32} {nu : Int32} {h : Int64} {fo : Nat → Int64} (C : xC p l s m args meth c cL_law 9 RL nm g.1 (xT g) A) (hX : va_X b L xs s s.heap) (hbl : b < s.heap.size) (hbA : ¬ A b) (hi : i + 6 ≤ L) (hL : L ≤ 3072) (hcC : cells + 40 ≤ room_1.cells) (hsC : slots + 300 ≤ room_1.slots) (H : RI r po pn pl tx sv mm u fi t2 sa ln) (K : LK p l e s m args below meth c g A ap ad am ao b i (cells + 40) (slots + 300) Q) : xW p l e room_1 s m args below meth c g.1 A 9 cells slots Q (wLaw g ap ad am ao r po pn pl tx rp rl rs rm rn rz sv mm u fi t2 dm th sa ln pa le sk nu h fo) [(4, .int (nI i)), (3, .ref ao), (2, .ref (am 0)), (1, .ref (ap 0)), (0, .ref b)] 1535 [] := by
  refine x_ws (ws' := ((wOu g ao fo) ++ ((wMo g am u fi t2 dm th sa ln pa le sk nu h) ++ (wCl g ap ad r po pn pl tx rp rl rs rm rn rz sv mm)))) rfl ?_
  refine x_aload_n C 3 rfl rfl dL_law_1535 ?_
  refine x_aload_n C 4 rfl rfl dL_law_1536 ?_
  refine x_iload C 0 rfl dL_law_1537 ?_
  refine x_iconst C 1 (by decide) dL_law_1539 ?_
  refine x_iaddN C i 1 rfl rfl dL_law_1540 ?_
  refine x_sld C (i + 1) hX hbl hbA rfl (by omega) (by omega) dL_law_1541 ?_
  refine x_aload_n C 4 rfl rfl dL_law_1542 ?_
  refine x_iload C 0 rfl dL_law_1543 ?_
  refine x_iconst C 2 (by decide) dL_law_1545 ?_
  refine x_iaddN C i 2 rfl rfl dL_law_1546 ?_
  refine x_sld C (i + 2) hX hbl hbA rfl (by omega) (by omega) dL_law_1547 ?_
  refine x_aload_n C 1 rfl rfl dL_law_1548 ?_
  refine x_callL (X := (wOu g ao fo)) (Y := (wMo g am u fi t2 dm th sa ln pa le sk nu h)) (Z := (wCl g ap ad r po pn pl tx rp rl rs rm rn rz sv mm)) [.ref (ap 0), .int (xs (i + 1)), .int (xs (i + 2)), .ref ao] [] C (k_L_setNeutral l g ao fo ap ad r po pn pl tx rp rl rs rm rn rz sv mm (xs (i + 1)) (xs (i + 2)) H.clo) yH_L_setNeutral wML_L_233 rfl rfl rfl (nle rfl) (nle rfl) (nle rfl) (rmc hcC (by omega)) (rmc hsC (by omega)) dL_law_1549 (fun r0 w0 h0 => ?_)
  have hP := P_setNeutral r po pn pl tx rp rl rs rm rn rz sv mm u fi t2 dm th sa ln pa le sk nu h (xs (i + 1)) (xs (i + 2)) H
  rcases h0 with ⟨h1, rfl, w8, hw, rfl⟩ | ⟨E, cd, h1, hcd, rfl, rfl⟩
  · obtain ⟨adn, rfl⟩ := hw
    obtain ⟨e1, e2, e3⟩ := hP.1 h1
    refine x_perm (ws' := ((wOu g ao (vp_updL fo 0 (Int32.toInt64 (r.vn (Int32.toNatClampNeg (xs (i + 1))))))) ++ ((wMo g am u fi t2 dm th sa ln pa le sk nu h) ++ (wCl g ap ad (r.set_vn (upd r.vn (Int32.toNatClampNeg (xs (i + 1))) (xs (i + 2)))) (sp_spo2 po pn) (sp_spn2 pn) pl tx rp rl rs rm rn rz (svS sv adn r po pn) mm)))) (List.perm_append_comm_assoc (wMo g am u fi t2 dm th sa ln pa le sk nu h) (wOu g ao (vp_updL fo 0 (Int32.toInt64 (r.vn (Int32.toNatClampNeg (xs (i + 1))))))) (wCl g ap ad (r.set_vn (upd r.vn (Int32.toNatClampNeg (xs (i + 1))) (xs (i + 2)))) (sp_spo2 po pn) (sp_spn2 pn) pl tx rp rl rs rm rn rz (svS sv adn r po pn) mm)) ?_
    refine x_st (st' := [.int 0]) rfl ?_
    refine x_istore C [(5, .int 0), (4, .int (nI i)), (3, .ref ao), (2, .ref (am 0)), (1, .ref (ap 0)), (0, .ref b)] rfl (by decide) dL_law_1552 ?_
    refine x_aload_n C 3 rfl rfl dL_law_1554 ?_
    refine x_aload_n C 5 rfl rfl dL_law_1555 ?_
    refine x_iload C 1 rfl dL_law_1556 ?_
    refine x_iconst C 1 (by decide) dL_law_1558 ?_
    refine x_iaddN C i 1 rfl rfl dL_law_1559 ?_
    refine x_sld C (i + 1) hX hbl hbA rfl (by omega) (by omega) dL_law_1560 ?_
    refine x_aload_n C 5 rfl rfl dL_law_1561 ?_
    refine x_iload C 1 rfl dL_law_1562 ?_
    refine x_iconst C 2 (by decide) dL_law_1564 ?_
    refine x_iaddN C i 2 rfl rfl dL_law_1565 ?_
    refine x_sld C (i + 2) hX hbl hbA rfl (by omega) (by omega) dL_law_1566 ?_
    refine x_FV (w1 := (wOu g ao (vp_updL fo 0 (Int32.toInt64 (r.vn (Int32.toNatClampNeg (xs (i + 1)))))))) (wc := (wMo g am u fi t2 dm th sa ln pa le sk nu h)) (w2 := (wCl g ap ad (r.set_vn (upd r.vn (Int32.toNatClampNeg (xs (i + 1))) (xs (i + 2)))) (sp_spo2 po pn) (sp_spn2 pn) pl tx rp rl rs rm rn rz (svS sv adn r po pn) mm)) [.int (xs (i + 1)), .int (xs (i + 2))] [] ((wOu g ao (vp_updL fo 0 (Int32.toInt64 (r.vn (Int32.toNatClampNeg (xs (i + 1))))))) ++ ((wMo g am (sp_X7_setNeutral_s u sa (xs (i + 1)) (xs (i + 2))) fi t2 dm (sp_X7_setNeutral_th (xs (i + 1)) (xs (i + 2))) (sp_X7_setNeutral_sa sa (xs (i + 1)) (xs (i + 2))) ln pa le sk nu h) ++ (wCl g ap ad (r.set_vn (upd r.vn (Int32.toNatClampNeg (xs (i + 1))) (xs (i + 2)))) (sp_spo2 po pn) (sp_spn2 pn) pl tx rp rl rs rm rn rz (svS sv adn r po pn) mm))) C (k_X7_setNeutral l g am u fi t2 dm th sa ln pa le sk nu h (xs (i + 1)) (xs (i + 2)) H.hs H.hs6 H.hm) rfl yV_X7_setNeutral wML_L_235 rfl 1 rfl rfl rfl rfl (nle rfl) (nle rfl) (nle rfl) (rmc hcC (by omega)) (rmc hsC (by omega)) dL_law_1567 ?_
    refine x_istore C [(6, .int (sp_X7_setNeutral u sa (xs (i + 1)) (xs (i + 2)))), (5, .int 0), (4, .int (nI i)), (3, .ref ao), (2, .ref (am 0)), (1, .ref (ap 0)), (0, .ref b)] rfl (by decide) dL_law_1570 ?_
    refine x_aload_n C 4 rfl rfl dL_law_1572 ?_
    refine x_FV (w1 := (wOu g ao (vp_updL fo 0 (Int32.toInt64 (r.vn (Int32.toNatClampNeg (xs (i + 1)))))))) (wc := (wMo g am (sp_X7_setNeutral_s u sa (xs (i + 1)) (xs (i + 2))) fi t2 dm (sp_X7_setNeutral_th (xs (i + 1)) (xs (i + 2))) (sp_X7_setNeutral_sa sa (xs (i + 1)) (xs (i + 2))) ln pa le sk nu h)) (w2 := (wCl g ap ad (r.set_vn (upd r.vn (Int32.toNatClampNeg (xs (i + 1))) (xs (i + 2)))) (sp_spo2 po pn) (sp_spn2 pn) pl tx rp rl rs rm rn rz (svS sv adn r po pn) mm)) [] [] ((wOu g ao (vp_updL fo 0 (Int32.toInt64 (r.vn (Int32.toNatClampNeg (xs (i + 1))))))) ++ ((wMo g am (sp_X7_setNeutral_s u sa (xs (i + 1)) (xs (i + 2))) fi t2 dm (sp_X7_setNeutral_th (xs (i + 1)) (xs (i + 2))) (sp_X7_setNeutral_sa sa (xs (i + 1)) (xs (i + 2))) ln pa le sk nu h) ++ (wCl g ap ad (r.set_vn (upd r.vn (Int32.toNatClampNeg (xs (i + 1))) (xs (i + 2)))) (sp_spo2 po pn) (sp_spn2 pn) pl tx rp rl rs rm rn rz (svS sv adn r po pn) mm))) C (k_X7_thrown l g am (sp_X7_setNeutral_s u sa (xs (i + 1)) (xs (i + 2))) fi t2 dm (sp_X7_setNeutral_th (xs (i + 1)) (xs (i + 2))) (sp_X7_setNeutral_sa sa (xs (i + 1)) (xs (i + 2))) ln pa le sk nu h) rfl yV_X7_thrown wML_L_154 rfl 1 rfl rfl rfl rfl (nle rfl) (nle rfl) (nle rfl) (rmc hcC (by omega)) (rmc hsC (by omega)) dL_law_1573 ?_
    refine x_iload C 1 rfl dL_law_1576 ?_
    refine x_icmp_eq C 1583 (by decide) dL_law_1578 (fun _ => ?_) (fun hz => absurd e1 hz)
    refine x_iload C 1 rfl dL_law_1583 ?_
    refine x_if_ne C 1600 (by decide) dL_law_1585 (fun hz => absurd (by decide) hz) (fun _ => ?_)
    refine x_aload_n C 3 rfl rfl dL_law_1588 ?_
    refine x_iconst C 0 (by decide) dL_law_1589 ?_
    refine x_lald (f := (vp_updL fo 0 (Int32.toInt64 (r.vn (Int32.toNatClampNeg (xs (i + 1))))))) C 0 3 rfl rfl in1 dL_law_1590 ?_
    refine x_st (st' := [.long (Int32.toInt64 (r.vn (Int32.toNatClampNeg (xs (i + 1)))))]) rfl ?_
    refine x_iload C 0 rfl dL_law_1591 ?_
    refine x_i2l C dL_law_1593 ?_
    refine x_lcmp C dL_law_1594 ?_
    refine x_if_eq C 1600 (by decide) dL_law_1595 (fun _ => ?_) (fun hz => absurd (lgz (congrArg Int32.toInt64 e2)) hz)
    refine x_goto C 3131 (by decide) dL_law_1600 ?_
    refine x_lv [(4, .int (nI i)), (3, .ref ao), (2, .ref (am 0)), (1, .ref (ap 0)), (0, .ref b)] [2, 3, 4, 5, 6] rfl ?_
    refine x_wid (k := cells + 40) (n := slots + 300) (by omega) (by omega) ?_
    exact K (r.set_vn (upd r.vn (Int32.toNatClampNeg (xs (i + 1))) (xs (i + 2)))) (sp_spo2 po pn) (sp_spn2 pn) pl tx rp rl rs rm rn rz (svS sv adn r po pn) mm (sp_X7_setNeutral_s u sa (xs (i + 1)) (xs (i + 2))) fi t2 dm (sp_X7_setNeutral_th (xs (i + 1)) (xs (i + 2))) (sp_X7_setNeutral_sa sa (xs (i + 1)) (xs (i + 2))) ln pa le sk nu h (vp_updL fo 0 (Int32.toInt64 (r.vn (Int32.toNatClampNeg (xs (i + 1)))))) (e3 adn)
  · obtain ⟨e1, e3⟩ := hP.2 E cd h1 hcd
    refine x_perm (ws' := ((wOu g ao fo) ++ ((wMo g am u fi t2 dm th sa ln pa le sk nu h) ++ (wCl g ap ad r po pn pl tx rp rl rs rm rn rz sv mm)))) (List.perm_append_comm_assoc (wMo g am u fi t2 dm th sa ln pa le sk nu h) (wOu g ao fo) (wCl g ap ad r po pn pl tx rp rl rs rm rn rz sv mm)) ?_
    refine x_st (st' := [.int cd]) rfl ?_
    refine x_istore C [(5, .int cd), (4, .int (nI i)), (3, .ref ao), (2, .ref (am 0)), (1, .ref (ap 0)), (0, .ref b)] rfl (by decide) dL_law_1552 ?_
    refine x_aload_n C 3 rfl rfl dL_law_1554 ?_
    refine x_aload_n C 5 rfl rfl dL_law_1555 ?_
    refine x_iload C 1 rfl dL_law_1556 ?_
    refine x_iconst C 1 (by decide) dL_law_1558 ?_
    refine x_iaddN C i 1 rfl rfl dL_law_1559 ?_
    refine x_sld C (i + 1) hX hbl hbA rfl (by omega) (by omega) dL_law_1560 ?_
    refine x_aload_n C 5 rfl rfl dL_law_1561 ?_
    refine x_iload C 1 rfl dL_law_1562 ?_
    refine x_iconst C 2 (by decide) dL_law_1564 ?_
    refine x_iaddN C i 2 rfl rfl dL_law_1565 ?_
    refine x_sld C (i + 2) hX hbl hbA rfl (by omega) (by omega) dL_law_1566 ?_
    refine x_FV (w1 := (wOu g ao fo)) (wc := (wMo g am u fi t2 dm th sa ln pa le sk nu h)) (w2 := (wCl g ap ad r po pn pl tx rp rl rs rm rn rz sv mm)) [.int (xs (i + 1)), .int (xs (i + 2))] [] ((wOu g ao fo) ++ ((wMo g am (sp_X7_setNeutral_s u sa (xs (i + 1)) (xs (i + 2))) fi t2 dm (sp_X7_setNeutral_th (xs (i + 1)) (xs (i + 2))) (sp_X7_setNeutral_sa sa (xs (i + 1)) (xs (i + 2))) ln pa le sk nu h) ++ (wCl g ap ad r po pn pl tx rp rl rs rm rn rz sv mm))) C (k_X7_setNeutral l g am u fi t2 dm th sa ln pa le sk nu h (xs (i + 1)) (xs (i + 2)) H.hs H.hs6 H.hm) rfl yV_X7_setNeutral wML_L_235 rfl 1 rfl rfl rfl rfl (nle rfl) (nle rfl) (nle rfl) (rmc hcC (by omega)) (rmc hsC (by omega)) dL_law_1567 ?_
    refine x_istore C [(6, .int (sp_X7_setNeutral u sa (xs (i + 1)) (xs (i + 2)))), (5, .int cd), (4, .int (nI i)), (3, .ref ao), (2, .ref (am 0)), (1, .ref (ap 0)), (0, .ref b)] rfl (by decide) dL_law_1570 ?_
    refine x_aload_n C 4 rfl rfl dL_law_1572 ?_
    refine x_FV (w1 := (wOu g ao fo)) (wc := (wMo g am (sp_X7_setNeutral_s u sa (xs (i + 1)) (xs (i + 2))) fi t2 dm (sp_X7_setNeutral_th (xs (i + 1)) (xs (i + 2))) (sp_X7_setNeutral_sa sa (xs (i + 1)) (xs (i + 2))) ln pa le sk nu h)) (w2 := (wCl g ap ad r po pn pl tx rp rl rs rm rn rz sv mm)) [] [] ((wOu g ao fo) ++ ((wMo g am (sp_X7_setNeutral_s u sa (xs (i + 1)) (xs (i + 2))) fi t2 dm (sp_X7_setNeutral_th (xs (i + 1)) (xs (i + 2))) (sp_X7_setNeutral_sa sa (xs (i + 1)) (xs (i + 2))) ln pa le sk nu h) ++ (wCl g ap ad r po pn pl tx rp rl rs rm rn rz sv mm))) C (k_X7_thrown l g am (sp_X7_setNeutral_s u sa (xs (i + 1)) (xs (i + 2))) fi t2 dm (sp_X7_setNeutral_th (xs (i + 1)) (xs (i + 2))) (sp_X7_setNeutral_sa sa (xs (i + 1)) (xs (i + 2))) ln pa le sk nu h) rfl yV_X7_thrown wML_L_154 rfl 1 rfl rfl rfl rfl (nle rfl) (nle rfl) (nle rfl) (rmc hcC (by omega)) (rmc hsC (by omega)) dL_law_1573 ?_
    refine x_iload C 1 rfl dL_law_1576 ?_
    refine x_icmp_eq C 1583 (by decide) dL_law_1578 (fun _ => ?_) (fun hz => absurd e1 hz)
    refine x_iload C 1 rfl dL_law_1583 ?_
    refine x_if_ne C 1600 (by decide) dL_law_1585 (fun _ => ?_) (fun hz => absurd hz (by rcases hcd with ⟨-, rfl⟩ | ⟨-, rfl⟩ <;> decide))
    refine x_goto C 3131 (by decide) dL_law_1600 ?_
    refine x_lv [(4, .int (nI i)), (3, .ref ao), (2, .ref (am 0)), (1, .ref (ap 0)), (0, .ref b)] [2, 3, 4, 5, 6] rfl ?_
    refine x_wid (k := cells + 40) (n := slots + 300) (by omega) (by omega) ?_
    exact K r po pn pl tx rp rl rs rm rn rz sv mm (sp_X7_setNeutral_s u sa (xs (i + 1)) (xs (i + 2))) fi t2 dm (sp_X7_setNeutral_th (xs (i + 1)) (xs (i + 2))) (sp_X7_setNeutral_sa sa (xs (i + 1)) (xs (i + 2))) ln pa le sk nu h fo e3
set_option maxRecDepth 100000 in
set_option maxHeartbeats 2000000 in
theorem c_24 {p : Program} {l : Launch} {e : Env} {s : State} {m : MethodId} {args : Array Value} {below : List Frame} {meth : Method} {c : Code} {cells slots : Nat} {Q : State → Prop} {nm : String} {g : xGt} {A : Nat → Prop} {b L i : Nat} {xs : Nat → Int32} {ap ad am : Nat → Nat} {ao : Nat} {r : xR} {po : Int32} {pn : Int32} {pl : Int32} {tx : Nat → Int32} {rp : Int32} {rl : Int32} {rs : Int32} {rm : Int32} {rn : Int32} {rz : Int32} {sv : xPl} {mm : xPl} {u : Nat → Int32} {fi : Nat → Int32} {t2 : Nat → Int32} {dm : Nat → Int32} {th : Int32} {sa : Int32} {ln : Int32} {pa : Int32} {le : Int32} {sk : Int32} {nu : Int32} {h : Int64} {fo : Nat → Int64} (C : xC p l s m args meth c cL_law 9 RL nm g.1 (xT g) A) (hX : va_X b L xs s s.heap) (hbl : b < s.heap.size) (hbA : ¬ A b) (hi : i + 6 ≤ L) (hL : L ≤ 3072) (hcC : cells + 40 ≤ room_1.cells) (hsC : slots + 300 ≤ room_1.slots) (H : RI r po pn pl tx sv mm u fi t2 sa ln) (K : LK p l e s m args below meth c g A ap ad am ao b i (cells + 40) (slots + 300) Q) : xW p l e room_1 s m args below meth c g.1 A 9 cells slots Q (wLaw g ap ad am ao r po pn pl tx rp rl rs rm rn rz sv mm u fi t2 dm th sa ln pa le sk nu h fo) [(4, .int (nI i)), (3, .ref ao), (2, .ref (am 0)), (1, .ref (ap 0)), (0, .ref b)] 1603 [] := by
  refine x_ws (ws' := ((wOu g ao fo) ++ ((wMo g am u fi t2 dm th sa ln pa le sk nu h) ++ (wCl g ap ad r po pn pl tx rp rl rs rm rn rz sv mm)))) rfl ?_
  refine x_aload_n C 3 rfl rfl dL_law_1603 ?_
  refine x_aload_n C 4 rfl rfl dL_law_1604 ?_
  refine x_iload C 0 rfl dL_law_1605 ?_
  refine x_iconst C 1 (by decide) dL_law_1607 ?_
  refine x_iaddN C i 1 rfl rfl dL_law_1608 ?_
  refine x_sld C (i + 1) hX hbl hbA rfl (by omega) (by omega) dL_law_1609 ?_
  refine x_aload_n C 4 rfl rfl dL_law_1610 ?_
  refine x_iload C 0 rfl dL_law_1611 ?_
  refine x_iconst C 2 (by decide) dL_law_1613 ?_
  refine x_iaddN C i 2 rfl rfl dL_law_1614 ?_
  refine x_sld C (i + 2) hX hbl hbA rfl (by omega) (by omega) dL_law_1615 ?_
  refine x_aload_n C 4 rfl rfl dL_law_1616 ?_
  refine x_iload C 0 rfl dL_law_1617 ?_
  refine x_iconst C 3 (by decide) dL_law_1619 ?_
  refine x_iaddN C i 3 rfl rfl dL_law_1620 ?_
  refine x_sld C (i + 3) hX hbl hbA rfl (by omega) (by omega) dL_law_1621 ?_
  refine x_aload_n C 1 rfl rfl dL_law_1622 ?_
  refine x_callL (X := (wOu g ao fo)) (Y := (wMo g am u fi t2 dm th sa ln pa le sk nu h)) (Z := (wCl g ap ad r po pn pl tx rp rl rs rm rn rz sv mm)) [.ref (ap 0), .int (xs (i + 1)), .int (xs (i + 2)), .int (xs (i + 3)), .ref ao] [] C (k_L_setLimits l g ao fo ap ad r po pn pl tx rp rl rs rm rn rz sv mm (xs (i + 1)) (xs (i + 2)) (xs (i + 3)) H.clo) yH_L_setLimits wML_L_236 rfl rfl rfl (nle rfl) (nle rfl) (nle rfl) (rmc hcC (by omega)) (rmc hsC (by omega)) dL_law_1623 (fun r0 w0 h0 => ?_)
  have hP := P_setLimits r po pn pl tx rp rl rs rm rn rz sv mm u fi t2 dm th sa ln pa le sk nu h (xs (i + 1)) (xs (i + 2)) (xs (i + 3)) H
  rcases h0 with ⟨h1, rfl, w8, hw, rfl⟩ | ⟨E, cd, h1, hcd, rfl, rfl⟩
  · obtain ⟨adn, rfl⟩ := hw
    obtain ⟨e1, e2, e3⟩ := hP.1 h1
    refine x_perm (ws' := ((wOu g ao (vp_updL fo 0 (Int32.toInt64 ((r.vu (Int32.toNatClampNeg (xs (i + 1)))) - (r.vl (Int32.toNatClampNeg (xs (i + 1)))))))) ++ ((wMo g am u fi t2 dm th sa ln pa le sk nu h) ++ (wCl g ap ad (xRk r.kp r.ke r.kr r.kt r.kh r.kc r.xn r.xs r.xv r.xh r.xo r.xc r.vd r.vn (upd r.vl (Int32.toNatClampNeg (xs (i + 1))) (xs (i + 2))) (upd r.vu (Int32.toNatClampNeg (xs (i + 1))) (xs (i + 3))) r.vs r.vm r.vp r.vt r.va r.vw r.jd r.jb r.jc r.js r.jl r.jx r.ji r.jf r.jn r.dq) (sp_spo2 po pn) (sp_spn2 pn) pl tx rp rl rs rm rn rz (svS sv adn r po pn) mm)))) (List.perm_append_comm_assoc (wMo g am u fi t2 dm th sa ln pa le sk nu h) (wOu g ao (vp_updL fo 0 (Int32.toInt64 ((r.vu (Int32.toNatClampNeg (xs (i + 1)))) - (r.vl (Int32.toNatClampNeg (xs (i + 1)))))))) (wCl g ap ad (xRk r.kp r.ke r.kr r.kt r.kh r.kc r.xn r.xs r.xv r.xh r.xo r.xc r.vd r.vn (upd r.vl (Int32.toNatClampNeg (xs (i + 1))) (xs (i + 2))) (upd r.vu (Int32.toNatClampNeg (xs (i + 1))) (xs (i + 3))) r.vs r.vm r.vp r.vt r.va r.vw r.jd r.jb r.jc r.js r.jl r.jx r.ji r.jf r.jn r.dq) (sp_spo2 po pn) (sp_spn2 pn) pl tx rp rl rs rm rn rz (svS sv adn r po pn) mm)) ?_
    refine x_st (st' := [.int 0]) rfl ?_
    refine x_istore C [(5, .int 0), (4, .int (nI i)), (3, .ref ao), (2, .ref (am 0)), (1, .ref (ap 0)), (0, .ref b)] rfl (by decide) dL_law_1626 ?_
    refine x_aload_n C 3 rfl rfl dL_law_1628 ?_
    refine x_aload_n C 5 rfl rfl dL_law_1629 ?_
    refine x_iload C 1 rfl dL_law_1630 ?_
    refine x_iconst C 1 (by decide) dL_law_1632 ?_
    refine x_iaddN C i 1 rfl rfl dL_law_1633 ?_
    refine x_sld C (i + 1) hX hbl hbA rfl (by omega) (by omega) dL_law_1634 ?_
    refine x_aload_n C 5 rfl rfl dL_law_1635 ?_
    refine x_iload C 1 rfl dL_law_1636 ?_
    refine x_iconst C 2 (by decide) dL_law_1638 ?_
    refine x_iaddN C i 2 rfl rfl dL_law_1639 ?_
    refine x_sld C (i + 2) hX hbl hbA rfl (by omega) (by omega) dL_law_1640 ?_
    refine x_aload_n C 5 rfl rfl dL_law_1641 ?_
    refine x_iload C 1 rfl dL_law_1642 ?_
    refine x_iconst C 3 (by decide) dL_law_1644 ?_
    refine x_iaddN C i 3 rfl rfl dL_law_1645 ?_
    refine x_sld C (i + 3) hX hbl hbA rfl (by omega) (by omega) dL_law_1646 ?_
    refine x_FV (w1 := (wOu g ao (vp_updL fo 0 (Int32.toInt64 ((r.vu (Int32.toNatClampNeg (xs (i + 1)))) - (r.vl (Int32.toNatClampNeg (xs (i + 1))))))))) (wc := (wMo g am u fi t2 dm th sa ln pa le sk nu h)) (w2 := (wCl g ap ad (xRk r.kp r.ke r.kr r.kt r.kh r.kc r.xn r.xs r.xv r.xh r.xo r.xc r.vd r.vn (upd r.vl (Int32.toNatClampNeg (xs (i + 1))) (xs (i + 2))) (upd r.vu (Int32.toNatClampNeg (xs (i + 1))) (xs (i + 3))) r.vs r.vm r.vp r.vt r.va r.vw r.jd r.jb r.jc r.js r.jl r.jx r.ji r.jf r.jn r.dq) (sp_spo2 po pn) (sp_spn2 pn) pl tx rp rl rs rm rn rz (svS sv adn r po pn) mm)) [.int (xs (i + 1)), .int (xs (i + 2)), .int (xs (i + 3))] [] ((wOu g ao (vp_updL fo 0 (Int32.toInt64 ((r.vu (Int32.toNatClampNeg (xs (i + 1)))) - (r.vl (Int32.toNatClampNeg (xs (i + 1)))))))) ++ ((wMo g am (sp_X7_setLimits_s u sa (xs (i + 1)) (xs (i + 2)) (xs (i + 3))) fi t2 dm (sp_X7_setLimits_th (xs (i + 1)) (xs (i + 2)) (xs (i + 3))) (sp_X7_setLimits_sa sa (xs (i + 1)) (xs (i + 2)) (xs (i + 3))) ln pa le sk nu h) ++ (wCl g ap ad (xRk r.kp r.ke r.kr r.kt r.kh r.kc r.xn r.xs r.xv r.xh r.xo r.xc r.vd r.vn (upd r.vl (Int32.toNatClampNeg (xs (i + 1))) (xs (i + 2))) (upd r.vu (Int32.toNatClampNeg (xs (i + 1))) (xs (i + 3))) r.vs r.vm r.vp r.vt r.va r.vw r.jd r.jb r.jc r.js r.jl r.jx r.ji r.jf r.jn r.dq) (sp_spo2 po pn) (sp_spn2 pn) pl tx rp rl rs rm rn rz (svS sv adn r po pn) mm))) C (k_X7_setLimits l g am u fi t2 dm th sa ln pa le sk nu h (xs (i + 1)) (xs (i + 2)) (xs (i + 3)) H.hs H.hs6 H.hm) rfl yV_X7_setLimits wML_L_238 rfl 1 rfl rfl rfl rfl (nle rfl) (nle rfl) (nle rfl) (rmc hcC (by omega)) (rmc hsC (by omega)) dL_law_1647 ?_
    refine x_istore C [(6, .int (sp_X7_setLimits u sa (xs (i + 1)) (xs (i + 2)) (xs (i + 3)))), (5, .int 0), (4, .int (nI i)), (3, .ref ao), (2, .ref (am 0)), (1, .ref (ap 0)), (0, .ref b)] rfl (by decide) dL_law_1650 ?_
    refine x_aload_n C 4 rfl rfl dL_law_1652 ?_
    refine x_FV (w1 := (wOu g ao (vp_updL fo 0 (Int32.toInt64 ((r.vu (Int32.toNatClampNeg (xs (i + 1)))) - (r.vl (Int32.toNatClampNeg (xs (i + 1))))))))) (wc := (wMo g am (sp_X7_setLimits_s u sa (xs (i + 1)) (xs (i + 2)) (xs (i + 3))) fi t2 dm (sp_X7_setLimits_th (xs (i + 1)) (xs (i + 2)) (xs (i + 3))) (sp_X7_setLimits_sa sa (xs (i + 1)) (xs (i + 2)) (xs (i + 3))) ln pa le sk nu h)) (w2 := (wCl g ap ad (xRk r.kp r.ke r.kr r.kt r.kh r.kc r.xn r.xs r.xv r.xh r.xo r.xc r.vd r.vn (upd r.vl (Int32.toNatClampNeg (xs (i + 1))) (xs (i + 2))) (upd r.vu (Int32.toNatClampNeg (xs (i + 1))) (xs (i + 3))) r.vs r.vm r.vp r.vt r.va r.vw r.jd r.jb r.jc r.js r.jl r.jx r.ji r.jf r.jn r.dq) (sp_spo2 po pn) (sp_spn2 pn) pl tx rp rl rs rm rn rz (svS sv adn r po pn) mm)) [] [] ((wOu g ao (vp_updL fo 0 (Int32.toInt64 ((r.vu (Int32.toNatClampNeg (xs (i + 1)))) - (r.vl (Int32.toNatClampNeg (xs (i + 1)))))))) ++ ((wMo g am (sp_X7_setLimits_s u sa (xs (i + 1)) (xs (i + 2)) (xs (i + 3))) fi t2 dm (sp_X7_setLimits_th (xs (i + 1)) (xs (i + 2)) (xs (i + 3))) (sp_X7_setLimits_sa sa (xs (i + 1)) (xs (i + 2)) (xs (i + 3))) ln pa le sk nu h) ++ (wCl g ap ad (xRk r.kp r.ke r.kr r.kt r.kh r.kc r.xn r.xs r.xv r.xh r.xo r.xc r.vd r.vn (upd r.vl (Int32.toNatClampNeg (xs (i + 1))) (xs (i + 2))) (upd r.vu (Int32.toNatClampNeg (xs (i + 1))) (xs (i + 3))) r.vs r.vm r.vp r.vt r.va r.vw r.jd r.jb r.jc r.js r.jl r.jx r.ji r.jf r.jn r.dq) (sp_spo2 po pn) (sp_spn2 pn) pl tx rp rl rs rm rn rz (svS sv adn r po pn) mm))) C (k_X7_thrown l g am (sp_X7_setLimits_s u sa (xs (i + 1)) (xs (i + 2)) (xs (i + 3))) fi t2 dm (sp_X7_setLimits_th (xs (i + 1)) (xs (i + 2)) (xs (i + 3))) (sp_X7_setLimits_sa sa (xs (i + 1)) (xs (i + 2)) (xs (i + 3))) ln pa le sk nu h) rfl yV_X7_thrown wML_L_154 rfl 1 rfl rfl rfl rfl (nle rfl) (nle rfl) (nle rfl) (rmc hcC (by omega)) (rmc hsC (by omega)) dL_law_1653 ?_
    refine x_iload C 1 rfl dL_law_1656 ?_
    refine x_icmp_eq C 1663 (by decide) dL_law_1658 (fun _ => ?_) (fun hz => absurd e1 hz)
    refine x_iload C 1 rfl dL_law_1663 ?_
    refine x_if_ne C 1680 (by decide) dL_law_1665 (fun hz => absurd (by decide) hz) (fun _ => ?_)
    refine x_aload_n C 3 rfl rfl dL_law_1668 ?_
    refine x_iconst C 0 (by decide) dL_law_1669 ?_
    refine x_lald (f := (vp_updL fo 0 (Int32.toInt64 ((r.vu (Int32.toNatClampNeg (xs (i + 1)))) - (r.vl (Int32.toNatClampNeg (xs (i + 1)))))))) C 0 3 rfl rfl in1 dL_law_1670 ?_
    refine x_st (st' := [.long (Int32.toInt64 ((r.vu (Int32.toNatClampNeg (xs (i + 1)))) - (r.vl (Int32.toNatClampNeg (xs (i + 1))))))]) rfl ?_
    refine x_iload C 0 rfl dL_law_1671 ?_
    refine x_i2l C dL_law_1673 ?_
    refine x_lcmp C dL_law_1674 ?_
    refine x_if_eq C 1680 (by decide) dL_law_1675 (fun _ => ?_) (fun hz => absurd (lgz (congrArg Int32.toInt64 e2)) hz)
    refine x_goto C 3131 (by decide) dL_law_1680 ?_
    refine x_lv [(4, .int (nI i)), (3, .ref ao), (2, .ref (am 0)), (1, .ref (ap 0)), (0, .ref b)] [2, 3, 4, 5, 6] rfl ?_
    refine x_wid (k := cells + 40) (n := slots + 300) (by omega) (by omega) ?_
    exact K (xRk r.kp r.ke r.kr r.kt r.kh r.kc r.xn r.xs r.xv r.xh r.xo r.xc r.vd r.vn (upd r.vl (Int32.toNatClampNeg (xs (i + 1))) (xs (i + 2))) (upd r.vu (Int32.toNatClampNeg (xs (i + 1))) (xs (i + 3))) r.vs r.vm r.vp r.vt r.va r.vw r.jd r.jb r.jc r.js r.jl r.jx r.ji r.jf r.jn r.dq) (sp_spo2 po pn) (sp_spn2 pn) pl tx rp rl rs rm rn rz (svS sv adn r po pn) mm (sp_X7_setLimits_s u sa (xs (i + 1)) (xs (i + 2)) (xs (i + 3))) fi t2 dm (sp_X7_setLimits_th (xs (i + 1)) (xs (i + 2)) (xs (i + 3))) (sp_X7_setLimits_sa sa (xs (i + 1)) (xs (i + 2)) (xs (i + 3))) ln pa le sk nu h (vp_updL fo 0 (Int32.toInt64 ((r.vu (Int32.toNatClampNeg (xs (i + 1)))) - (r.vl (Int32.toNatClampNeg (xs (i + 1))))))) (e3 adn)
  · obtain ⟨e1, e3⟩ := hP.2 E cd h1 hcd
    refine x_perm (ws' := ((wOu g ao fo) ++ ((wMo g am u fi t2 dm th sa ln pa le sk nu h) ++ (wCl g ap ad r po pn pl tx rp rl rs rm rn rz sv mm)))) (List.perm_append_comm_assoc (wMo g am u fi t2 dm th sa ln pa le sk nu h) (wOu g ao fo) (wCl g ap ad r po pn pl tx rp rl rs rm rn rz sv mm)) ?_
    refine x_st (st' := [.int cd]) rfl ?_
    refine x_istore C [(5, .int cd), (4, .int (nI i)), (3, .ref ao), (2, .ref (am 0)), (1, .ref (ap 0)), (0, .ref b)] rfl (by decide) dL_law_1626 ?_
    refine x_aload_n C 3 rfl rfl dL_law_1628 ?_
    refine x_aload_n C 5 rfl rfl dL_law_1629 ?_
    refine x_iload C 1 rfl dL_law_1630 ?_
    refine x_iconst C 1 (by decide) dL_law_1632 ?_
    refine x_iaddN C i 1 rfl rfl dL_law_1633 ?_
    refine x_sld C (i + 1) hX hbl hbA rfl (by omega) (by omega) dL_law_1634 ?_
    refine x_aload_n C 5 rfl rfl dL_law_1635 ?_
    refine x_iload C 1 rfl dL_law_1636 ?_
    refine x_iconst C 2 (by decide) dL_law_1638 ?_
    refine x_iaddN C i 2 rfl rfl dL_law_1639 ?_
    refine x_sld C (i + 2) hX hbl hbA rfl (by omega) (by omega) dL_law_1640 ?_
    refine x_aload_n C 5 rfl rfl dL_law_1641 ?_
    refine x_iload C 1 rfl dL_law_1642 ?_
    refine x_iconst C 3 (by decide) dL_law_1644 ?_
    refine x_iaddN C i 3 rfl rfl dL_law_1645 ?_
    refine x_sld C (i + 3) hX hbl hbA rfl (by omega) (by omega) dL_law_1646 ?_
    refine x_FV (w1 := (wOu g ao fo)) (wc := (wMo g am u fi t2 dm th sa ln pa le sk nu h)) (w2 := (wCl g ap ad r po pn pl tx rp rl rs rm rn rz sv mm)) [.int (xs (i + 1)), .int (xs (i + 2)), .int (xs (i + 3))] [] ((wOu g ao fo) ++ ((wMo g am (sp_X7_setLimits_s u sa (xs (i + 1)) (xs (i + 2)) (xs (i + 3))) fi t2 dm (sp_X7_setLimits_th (xs (i + 1)) (xs (i + 2)) (xs (i + 3))) (sp_X7_setLimits_sa sa (xs (i + 1)) (xs (i + 2)) (xs (i + 3))) ln pa le sk nu h) ++ (wCl g ap ad r po pn pl tx rp rl rs rm rn rz sv mm))) C (k_X7_setLimits l g am u fi t2 dm th sa ln pa le sk nu h (xs (i + 1)) (xs (i + 2)) (xs (i + 3)) H.hs H.hs6 H.hm) rfl yV_X7_setLimits wML_L_238 rfl 1 rfl rfl rfl rfl (nle rfl) (nle rfl) (nle rfl) (rmc hcC (by omega)) (rmc hsC (by omega)) dL_law_1647 ?_
    refine x_istore C [(6, .int (sp_X7_setLimits u sa (xs (i + 1)) (xs (i + 2)) (xs (i + 3)))), (5, .int cd), (4, .int (nI i)), (3, .ref ao), (2, .ref (am 0)), (1, .ref (ap 0)), (0, .ref b)] rfl (by decide) dL_law_1650 ?_
    refine x_aload_n C 4 rfl rfl dL_law_1652 ?_
    refine x_FV (w1 := (wOu g ao fo)) (wc := (wMo g am (sp_X7_setLimits_s u sa (xs (i + 1)) (xs (i + 2)) (xs (i + 3))) fi t2 dm (sp_X7_setLimits_th (xs (i + 1)) (xs (i + 2)) (xs (i + 3))) (sp_X7_setLimits_sa sa (xs (i + 1)) (xs (i + 2)) (xs (i + 3))) ln pa le sk nu h)) (w2 := (wCl g ap ad r po pn pl tx rp rl rs rm rn rz sv mm)) [] [] ((wOu g ao fo) ++ ((wMo g am (sp_X7_setLimits_s u sa (xs (i + 1)) (xs (i + 2)) (xs (i + 3))) fi t2 dm (sp_X7_setLimits_th (xs (i + 1)) (xs (i + 2)) (xs (i + 3))) (sp_X7_setLimits_sa sa (xs (i + 1)) (xs (i + 2)) (xs (i + 3))) ln pa le sk nu h) ++ (wCl g ap ad r po pn pl tx rp rl rs rm rn rz sv mm))) C (k_X7_thrown l g am (sp_X7_setLimits_s u sa (xs (i + 1)) (xs (i + 2)) (xs (i + 3))) fi t2 dm (sp_X7_setLimits_th (xs (i + 1)) (xs (i + 2)) (xs (i + 3))) (sp_X7_setLimits_sa sa (xs (i + 1)) (xs (i + 2)) (xs (i + 3))) ln pa le sk nu h) rfl yV_X7_thrown wML_L_154 rfl 1 rfl rfl rfl rfl (nle rfl) (nle rfl) (nle rfl) (rmc hcC (by omega)) (rmc hsC (by omega)) dL_law_1653 ?_
    refine x_iload C 1 rfl dL_law_1656 ?_
    refine x_icmp_eq C 1663 (by decide) dL_law_1658 (fun _ => ?_) (fun hz => absurd e1 hz)
    refine x_iload C 1 rfl dL_law_1663 ?_
    refine x_if_ne C 1680 (by decide) dL_law_1665 (fun _ => ?_) (fun hz => absurd hz (by rcases hcd with ⟨-, rfl⟩ | ⟨-, rfl⟩ <;> decide))
    refine x_goto C 3131 (by decide) dL_law_1680 ?_
    refine x_lv [(4, .int (nI i)), (3, .ref ao), (2, .ref (am 0)), (1, .ref (ap 0)), (0, .ref b)] [2, 3, 4, 5, 6] rfl ?_
    refine x_wid (k := cells + 40) (n := slots + 300) (by omega) (by omega) ?_
    exact K r po pn pl tx rp rl rs rm rn rz sv mm (sp_X7_setLimits_s u sa (xs (i + 1)) (xs (i + 2)) (xs (i + 3))) fi t2 dm (sp_X7_setLimits_th (xs (i + 1)) (xs (i + 2)) (xs (i + 3))) (sp_X7_setLimits_sa sa (xs (i + 1)) (xs (i + 2)) (xs (i + 3))) ln pa le sk nu h fo e3
set_option maxRecDepth 100000 in
set_option maxHeartbeats 2000000 in
theorem c_25 {p : Program} {l : Launch} {e : Env} {s : State} {m : MethodId} {args : Array Value} {below : List Frame} {meth : Method} {c : Code} {cells slots : Nat} {Q : State → Prop} {nm : String} {g : xGt} {A : Nat → Prop} {b L i : Nat} {xs : Nat → Int32} {ap ad am : Nat → Nat} {ao : Nat} {r : xR} {po : Int32} {pn : Int32} {pl : Int32} {tx : Nat → Int32} {rp : Int32} {rl : Int32} {rs : Int32} {rm : Int32} {rn : Int32} {rz : Int32} {sv : xPl} {mm : xPl} {u : Nat → Int32} {fi : Nat → Int32} {t2 : Nat → Int32} {dm : Nat → Int32} {th : Int32} {sa : Int32} {ln : Int32} {pa : Int32} {le : Int32} {sk : Int32} {nu : Int32} {h : Int64} {fo : Nat → Int64} (C : xC p l s m args meth c cL_law 9 RL nm g.1 (xT g) A) (hX : va_X b L xs s s.heap) (hbl : b < s.heap.size) (hbA : ¬ A b) (hi : i + 6 ≤ L) (hL : L ≤ 3072) (hcC : cells + 40 ≤ room_1.cells) (hsC : slots + 300 ≤ room_1.slots) (H : RI r po pn pl tx sv mm u fi t2 sa ln) (K : LK p l e s m args below meth c g A ap ad am ao b i (cells + 40) (slots + 300) Q) : xW p l e room_1 s m args below meth c g.1 A 9 cells slots Q (wLaw g ap ad am ao r po pn pl tx rp rl rs rm rn rz sv mm u fi t2 dm th sa ln pa le sk nu h fo) [(4, .int (nI i)), (3, .ref ao), (2, .ref (am 0)), (1, .ref (ap 0)), (0, .ref b)] 1683 [] := by
  refine x_ws (ws' := ((wOu g ao fo) ++ ((wMo g am u fi t2 dm th sa ln pa le sk nu h) ++ (wCl g ap ad r po pn pl tx rp rl rs rm rn rz sv mm)))) rfl ?_
  refine x_aload_n C 3 rfl rfl dL_law_1683 ?_
  refine x_aload_n C 4 rfl rfl dL_law_1684 ?_
  refine x_iload C 0 rfl dL_law_1685 ?_
  refine x_iconst C 1 (by decide) dL_law_1687 ?_
  refine x_iaddN C i 1 rfl rfl dL_law_1688 ?_
  refine x_sld C (i + 1) hX hbl hbA rfl (by omega) (by omega) dL_law_1689 ?_
  refine x_aload_n C 4 rfl rfl dL_law_1690 ?_
  refine x_iload C 0 rfl dL_law_1691 ?_
  refine x_iconst C 2 (by decide) dL_law_1693 ?_
  refine x_iaddN C i 2 rfl rfl dL_law_1694 ?_
  refine x_sld C (i + 2) hX hbl hbA rfl (by omega) (by omega) dL_law_1695 ?_
  refine x_aload_n C 1 rfl rfl dL_law_1696 ?_
  refine x_callL (X := (wOu g ao fo)) (Y := (wMo g am u fi t2 dm th sa ln pa le sk nu h)) (Z := (wCl g ap ad r po pn pl tx rp rl rs rm rn rz sv mm)) [.ref (ap 0), .int (xs (i + 1)), .int (xs (i + 2)), .ref ao] [] C (k_L_setSpeed l g ao fo ap ad r po pn pl tx rp rl rs rm rn rz sv mm (xs (i + 1)) (xs (i + 2)) H.clo) yH_L_setSpeed wML_L_239 rfl rfl rfl (nle rfl) (nle rfl) (nle rfl) (rmc hcC (by omega)) (rmc hsC (by omega)) dL_law_1697 (fun r0 w0 h0 => ?_)
  have hP := P_setSpeed r po pn pl tx rp rl rs rm rn rz sv mm u fi t2 dm th sa ln pa le sk nu h (xs (i + 1)) (xs (i + 2)) H
  rcases h0 with ⟨h1, rfl, w8, hw, rfl⟩ | ⟨E, cd, h1, hcd, rfl, rfl⟩
  · obtain ⟨adn, rfl⟩ := hw
    obtain ⟨e1, e2, e3⟩ := hP.1 h1
    refine x_perm (ws' := ((wOu g ao (vp_updL fo 0 (Int32.toInt64 (r.vs (Int32.toNatClampNeg (xs (i + 1))))))) ++ ((wMo g am u fi t2 dm th sa ln pa le sk nu h) ++ (wCl g ap ad (r.set_vs (upd r.vs (Int32.toNatClampNeg (xs (i + 1))) (xs (i + 2)))) (sp_spo2 po pn) (sp_spn2 pn) pl tx rp rl rs rm rn rz (svS sv adn r po pn) mm)))) (List.perm_append_comm_assoc (wMo g am u fi t2 dm th sa ln pa le sk nu h) (wOu g ao (vp_updL fo 0 (Int32.toInt64 (r.vs (Int32.toNatClampNeg (xs (i + 1))))))) (wCl g ap ad (r.set_vs (upd r.vs (Int32.toNatClampNeg (xs (i + 1))) (xs (i + 2)))) (sp_spo2 po pn) (sp_spn2 pn) pl tx rp rl rs rm rn rz (svS sv adn r po pn) mm)) ?_
    refine x_st (st' := [.int 0]) rfl ?_
    refine x_istore C [(5, .int 0), (4, .int (nI i)), (3, .ref ao), (2, .ref (am 0)), (1, .ref (ap 0)), (0, .ref b)] rfl (by decide) dL_law_1700 ?_
    refine x_aload_n C 3 rfl rfl dL_law_1702 ?_
    refine x_aload_n C 5 rfl rfl dL_law_1703 ?_
    refine x_iload C 1 rfl dL_law_1704 ?_
    refine x_iconst C 1 (by decide) dL_law_1706 ?_
    refine x_iaddN C i 1 rfl rfl dL_law_1707 ?_
    refine x_sld C (i + 1) hX hbl hbA rfl (by omega) (by omega) dL_law_1708 ?_
    refine x_aload_n C 5 rfl rfl dL_law_1709 ?_
    refine x_iload C 1 rfl dL_law_1710 ?_
    refine x_iconst C 2 (by decide) dL_law_1712 ?_
    refine x_iaddN C i 2 rfl rfl dL_law_1713 ?_
    refine x_sld C (i + 2) hX hbl hbA rfl (by omega) (by omega) dL_law_1714 ?_
    refine x_FV (w1 := (wOu g ao (vp_updL fo 0 (Int32.toInt64 (r.vs (Int32.toNatClampNeg (xs (i + 1)))))))) (wc := (wMo g am u fi t2 dm th sa ln pa le sk nu h)) (w2 := (wCl g ap ad (r.set_vs (upd r.vs (Int32.toNatClampNeg (xs (i + 1))) (xs (i + 2)))) (sp_spo2 po pn) (sp_spn2 pn) pl tx rp rl rs rm rn rz (svS sv adn r po pn) mm)) [.int (xs (i + 1)), .int (xs (i + 2))] [] ((wOu g ao (vp_updL fo 0 (Int32.toInt64 (r.vs (Int32.toNatClampNeg (xs (i + 1))))))) ++ ((wMo g am (sp_X7_setSpeed_s u sa (xs (i + 1)) (xs (i + 2))) fi t2 dm (sp_X7_setSpeed_th (xs (i + 1)) (xs (i + 2))) (sp_X7_setSpeed_sa sa (xs (i + 1)) (xs (i + 2))) ln pa le sk nu h) ++ (wCl g ap ad (r.set_vs (upd r.vs (Int32.toNatClampNeg (xs (i + 1))) (xs (i + 2)))) (sp_spo2 po pn) (sp_spn2 pn) pl tx rp rl rs rm rn rz (svS sv adn r po pn) mm))) C (k_X7_setSpeed l g am u fi t2 dm th sa ln pa le sk nu h (xs (i + 1)) (xs (i + 2)) H.hs H.hs6 H.hm) rfl yV_X7_setSpeed wML_L_241 rfl 1 rfl rfl rfl rfl (nle rfl) (nle rfl) (nle rfl) (rmc hcC (by omega)) (rmc hsC (by omega)) dL_law_1715 ?_
    refine x_istore C [(6, .int (sp_X7_setSpeed u sa (xs (i + 1)) (xs (i + 2)))), (5, .int 0), (4, .int (nI i)), (3, .ref ao), (2, .ref (am 0)), (1, .ref (ap 0)), (0, .ref b)] rfl (by decide) dL_law_1718 ?_
    refine x_aload_n C 4 rfl rfl dL_law_1720 ?_
    refine x_FV (w1 := (wOu g ao (vp_updL fo 0 (Int32.toInt64 (r.vs (Int32.toNatClampNeg (xs (i + 1)))))))) (wc := (wMo g am (sp_X7_setSpeed_s u sa (xs (i + 1)) (xs (i + 2))) fi t2 dm (sp_X7_setSpeed_th (xs (i + 1)) (xs (i + 2))) (sp_X7_setSpeed_sa sa (xs (i + 1)) (xs (i + 2))) ln pa le sk nu h)) (w2 := (wCl g ap ad (r.set_vs (upd r.vs (Int32.toNatClampNeg (xs (i + 1))) (xs (i + 2)))) (sp_spo2 po pn) (sp_spn2 pn) pl tx rp rl rs rm rn rz (svS sv adn r po pn) mm)) [] [] ((wOu g ao (vp_updL fo 0 (Int32.toInt64 (r.vs (Int32.toNatClampNeg (xs (i + 1))))))) ++ ((wMo g am (sp_X7_setSpeed_s u sa (xs (i + 1)) (xs (i + 2))) fi t2 dm (sp_X7_setSpeed_th (xs (i + 1)) (xs (i + 2))) (sp_X7_setSpeed_sa sa (xs (i + 1)) (xs (i + 2))) ln pa le sk nu h) ++ (wCl g ap ad (r.set_vs (upd r.vs (Int32.toNatClampNeg (xs (i + 1))) (xs (i + 2)))) (sp_spo2 po pn) (sp_spn2 pn) pl tx rp rl rs rm rn rz (svS sv adn r po pn) mm))) C (k_X7_thrown l g am (sp_X7_setSpeed_s u sa (xs (i + 1)) (xs (i + 2))) fi t2 dm (sp_X7_setSpeed_th (xs (i + 1)) (xs (i + 2))) (sp_X7_setSpeed_sa sa (xs (i + 1)) (xs (i + 2))) ln pa le sk nu h) rfl yV_X7_thrown wML_L_154 rfl 1 rfl rfl rfl rfl (nle rfl) (nle rfl) (nle rfl) (rmc hcC (by omega)) (rmc hsC (by omega)) dL_law_1721 ?_
    refine x_iload C 1 rfl dL_law_1724 ?_
    refine x_icmp_eq C 1731 (by decide) dL_law_1726 (fun _ => ?_) (fun hz => absurd e1 hz)
    refine x_iload C 1 rfl dL_law_1731 ?_
    refine x_if_ne C 1748 (by decide) dL_law_1733 (fun hz => absurd (by decide) hz) (fun _ => ?_)
    refine x_aload_n C 3 rfl rfl dL_law_1736 ?_
    refine x_iconst C 0 (by decide) dL_law_1737 ?_
    refine x_lald (f := (vp_updL fo 0 (Int32.toInt64 (r.vs (Int32.toNatClampNeg (xs (i + 1))))))) C 0 3 rfl rfl in1 dL_law_1738 ?_
    refine x_st (st' := [.long (Int32.toInt64 (r.vs (Int32.toNatClampNeg (xs (i + 1)))))]) rfl ?_
    refine x_iload C 0 rfl dL_law_1739 ?_
    refine x_i2l C dL_law_1741 ?_
    refine x_lcmp C dL_law_1742 ?_
    refine x_if_eq C 1748 (by decide) dL_law_1743 (fun _ => ?_) (fun hz => absurd (lgz (congrArg Int32.toInt64 e2)) hz)
    refine x_goto C 3131 (by decide) dL_law_1748 ?_
    refine x_lv [(4, .int (nI i)), (3, .ref ao), (2, .ref (am 0)), (1, .ref (ap 0)), (0, .ref b)] [2, 3, 4, 5, 6] rfl ?_
    refine x_wid (k := cells + 40) (n := slots + 300) (by omega) (by omega) ?_
    exact K (r.set_vs (upd r.vs (Int32.toNatClampNeg (xs (i + 1))) (xs (i + 2)))) (sp_spo2 po pn) (sp_spn2 pn) pl tx rp rl rs rm rn rz (svS sv adn r po pn) mm (sp_X7_setSpeed_s u sa (xs (i + 1)) (xs (i + 2))) fi t2 dm (sp_X7_setSpeed_th (xs (i + 1)) (xs (i + 2))) (sp_X7_setSpeed_sa sa (xs (i + 1)) (xs (i + 2))) ln pa le sk nu h (vp_updL fo 0 (Int32.toInt64 (r.vs (Int32.toNatClampNeg (xs (i + 1)))))) (e3 adn)
  · obtain ⟨e1, e3⟩ := hP.2 E cd h1 hcd
    refine x_perm (ws' := ((wOu g ao fo) ++ ((wMo g am u fi t2 dm th sa ln pa le sk nu h) ++ (wCl g ap ad r po pn pl tx rp rl rs rm rn rz sv mm)))) (List.perm_append_comm_assoc (wMo g am u fi t2 dm th sa ln pa le sk nu h) (wOu g ao fo) (wCl g ap ad r po pn pl tx rp rl rs rm rn rz sv mm)) ?_
    refine x_st (st' := [.int cd]) rfl ?_
    refine x_istore C [(5, .int cd), (4, .int (nI i)), (3, .ref ao), (2, .ref (am 0)), (1, .ref (ap 0)), (0, .ref b)] rfl (by decide) dL_law_1700 ?_
    refine x_aload_n C 3 rfl rfl dL_law_1702 ?_
    refine x_aload_n C 5 rfl rfl dL_law_1703 ?_
    refine x_iload C 1 rfl dL_law_1704 ?_
    refine x_iconst C 1 (by decide) dL_law_1706 ?_
    refine x_iaddN C i 1 rfl rfl dL_law_1707 ?_
    refine x_sld C (i + 1) hX hbl hbA rfl (by omega) (by omega) dL_law_1708 ?_
    refine x_aload_n C 5 rfl rfl dL_law_1709 ?_
    refine x_iload C 1 rfl dL_law_1710 ?_
    refine x_iconst C 2 (by decide) dL_law_1712 ?_
    refine x_iaddN C i 2 rfl rfl dL_law_1713 ?_
    refine x_sld C (i + 2) hX hbl hbA rfl (by omega) (by omega) dL_law_1714 ?_
    refine x_FV (w1 := (wOu g ao fo)) (wc := (wMo g am u fi t2 dm th sa ln pa le sk nu h)) (w2 := (wCl g ap ad r po pn pl tx rp rl rs rm rn rz sv mm)) [.int (xs (i + 1)), .int (xs (i + 2))] [] ((wOu g ao fo) ++ ((wMo g am (sp_X7_setSpeed_s u sa (xs (i + 1)) (xs (i + 2))) fi t2 dm (sp_X7_setSpeed_th (xs (i + 1)) (xs (i + 2))) (sp_X7_setSpeed_sa sa (xs (i + 1)) (xs (i + 2))) ln pa le sk nu h) ++ (wCl g ap ad r po pn pl tx rp rl rs rm rn rz sv mm))) C (k_X7_setSpeed l g am u fi t2 dm th sa ln pa le sk nu h (xs (i + 1)) (xs (i + 2)) H.hs H.hs6 H.hm) rfl yV_X7_setSpeed wML_L_241 rfl 1 rfl rfl rfl rfl (nle rfl) (nle rfl) (nle rfl) (rmc hcC (by omega)) (rmc hsC (by omega)) dL_law_1715 ?_
    refine x_istore C [(6, .int (sp_X7_setSpeed u sa (xs (i + 1)) (xs (i + 2)))), (5, .int cd), (4, .int (nI i)), (3, .ref ao), (2, .ref (am 0)), (1, .ref (ap 0)), (0, .ref b)] rfl (by decide) dL_law_1718 ?_
    refine x_aload_n C 4 rfl rfl dL_law_1720 ?_
    refine x_FV (w1 := (wOu g ao fo)) (wc := (wMo g am (sp_X7_setSpeed_s u sa (xs (i + 1)) (xs (i + 2))) fi t2 dm (sp_X7_setSpeed_th (xs (i + 1)) (xs (i + 2))) (sp_X7_setSpeed_sa sa (xs (i + 1)) (xs (i + 2))) ln pa le sk nu h)) (w2 := (wCl g ap ad r po pn pl tx rp rl rs rm rn rz sv mm)) [] [] ((wOu g ao fo) ++ ((wMo g am (sp_X7_setSpeed_s u sa (xs (i + 1)) (xs (i + 2))) fi t2 dm (sp_X7_setSpeed_th (xs (i + 1)) (xs (i + 2))) (sp_X7_setSpeed_sa sa (xs (i + 1)) (xs (i + 2))) ln pa le sk nu h) ++ (wCl g ap ad r po pn pl tx rp rl rs rm rn rz sv mm))) C (k_X7_thrown l g am (sp_X7_setSpeed_s u sa (xs (i + 1)) (xs (i + 2))) fi t2 dm (sp_X7_setSpeed_th (xs (i + 1)) (xs (i + 2))) (sp_X7_setSpeed_sa sa (xs (i + 1)) (xs (i + 2))) ln pa le sk nu h) rfl yV_X7_thrown wML_L_154 rfl 1 rfl rfl rfl rfl (nle rfl) (nle rfl) (nle rfl) (rmc hcC (by omega)) (rmc hsC (by omega)) dL_law_1721 ?_
    refine x_iload C 1 rfl dL_law_1724 ?_
    refine x_icmp_eq C 1731 (by decide) dL_law_1726 (fun _ => ?_) (fun hz => absurd e1 hz)
    refine x_iload C 1 rfl dL_law_1731 ?_
    refine x_if_ne C 1748 (by decide) dL_law_1733 (fun _ => ?_) (fun hz => absurd hz (by rcases hcd with ⟨-, rfl⟩ | ⟨-, rfl⟩ <;> decide))
    refine x_goto C 3131 (by decide) dL_law_1748 ?_
    refine x_lv [(4, .int (nI i)), (3, .ref ao), (2, .ref (am 0)), (1, .ref (ap 0)), (0, .ref b)] [2, 3, 4, 5, 6] rfl ?_
    refine x_wid (k := cells + 40) (n := slots + 300) (by omega) (by omega) ?_
    exact K r po pn pl tx rp rl rs rm rn rz sv mm (sp_X7_setSpeed_s u sa (xs (i + 1)) (xs (i + 2))) fi t2 dm (sp_X7_setSpeed_th (xs (i + 1)) (xs (i + 2))) (sp_X7_setSpeed_sa sa (xs (i + 1)) (xs (i + 2))) ln pa le sk nu h fo e3
set_option maxRecDepth 100000 in
set_option maxHeartbeats 2000000 in
theorem c_26 {p : Program} {l : Launch} {e : Env} {s : State} {m : MethodId} {args : Array Value} {below : List Frame} {meth : Method} {c : Code} {cells slots : Nat} {Q : State → Prop} {nm : String} {g : xGt} {A : Nat → Prop} {b L i : Nat} {xs : Nat → Int32} {ap ad am : Nat → Nat} {ao : Nat} {r : xR} {po : Int32} {pn : Int32} {pl : Int32} {tx : Nat → Int32} {rp : Int32} {rl : Int32} {rs : Int32} {rm : Int32} {rn : Int32} {rz : Int32} {sv : xPl} {mm : xPl} {u : Nat → Int32} {fi : Nat → Int32} {t2 : Nat → Int32} {dm : Nat → Int32} {th : Int32} {sa : Int32} {ln : Int32} {pa : Int32} {le : Int32} {sk : Int32} {nu : Int32} {h : Int64} {fo : Nat → Int64} (C : xC p l s m args meth c cL_law 9 RL nm g.1 (xT g) A) (hX : va_X b L xs s s.heap) (hbl : b < s.heap.size) (hbA : ¬ A b) (hi : i + 6 ≤ L) (hL : L ≤ 3072) (hcC : cells + 40 ≤ room_1.cells) (hsC : slots + 300 ≤ room_1.slots) (H : RI r po pn pl tx sv mm u fi t2 sa ln) (K : LK p l e s m args below meth c g A ap ad am ao b i (cells + 40) (slots + 300) Q) : xW p l e room_1 s m args below meth c g.1 A 9 cells slots Q (wLaw g ap ad am ao r po pn pl tx rp rl rs rm rn rz sv mm u fi t2 dm th sa ln pa le sk nu h fo) [(4, .int (nI i)), (3, .ref ao), (2, .ref (am 0)), (1, .ref (ap 0)), (0, .ref b)] 1751 [] := by
  refine x_ws (ws' := ((wOu g ao fo) ++ ((wMo g am u fi t2 dm th sa ln pa le sk nu h) ++ (wCl g ap ad r po pn pl tx rp rl rs rm rn rz sv mm)))) rfl ?_
  refine x_aload_n C 3 rfl rfl dL_law_1751 ?_
  refine x_aload_n C 4 rfl rfl dL_law_1752 ?_
  refine x_iload C 0 rfl dL_law_1753 ?_
  refine x_iconst C 1 (by decide) dL_law_1755 ?_
  refine x_iaddN C i 1 rfl rfl dL_law_1756 ?_
  refine x_sld C (i + 1) hX hbl hbA rfl (by omega) (by omega) dL_law_1757 ?_
  refine x_aload_n C 4 rfl rfl dL_law_1758 ?_
  refine x_iload C 0 rfl dL_law_1759 ?_
  refine x_iconst C 2 (by decide) dL_law_1761 ?_
  refine x_iaddN C i 2 rfl rfl dL_law_1762 ?_
  refine x_sld C (i + 2) hX hbl hbA rfl (by omega) (by omega) dL_law_1763 ?_
  refine x_aload_n C 4 rfl rfl dL_law_1764 ?_
  refine x_iload C 0 rfl dL_law_1765 ?_
  refine x_iconst C 3 (by decide) dL_law_1767 ?_
  refine x_iaddN C i 3 rfl rfl dL_law_1768 ?_
  refine x_sld C (i + 3) hX hbl hbA rfl (by omega) (by omega) dL_law_1769 ?_
  refine x_aload_n C 1 rfl rfl dL_law_1770 ?_
  refine x_callL (X := (wOu g ao fo)) (Y := (wMo g am u fi t2 dm th sa ln pa le sk nu h)) (Z := (wCl g ap ad r po pn pl tx rp rl rs rm rn rz sv mm)) [.ref (ap 0), .int (xs (i + 1)), .int (xs (i + 2)), .int (xs (i + 3)), .ref ao] [] C (k_L_setFailsafe l g ao fo ap ad r po pn pl tx rp rl rs rm rn rz sv mm (xs (i + 1)) (xs (i + 2)) (xs (i + 3)) H.clo) yH_L_setFailsafe wML_L_242 rfl rfl rfl (nle rfl) (nle rfl) (nle rfl) (rmc hcC (by omega)) (rmc hsC (by omega)) dL_law_1771 (fun r0 w0 h0 => ?_)
  have hP := P_setFailsafe r po pn pl tx rp rl rs rm rn rz sv mm u fi t2 dm th sa ln pa le sk nu h (xs (i + 1)) (xs (i + 2)) (xs (i + 3)) H
  rcases h0 with ⟨h1, rfl, w8, hw, rfl⟩ | ⟨E, cd, h1, hcd, rfl, rfl⟩
  · obtain ⟨adn, rfl⟩ := hw
    obtain ⟨e1, e2, e3⟩ := hP.1 h1
    refine x_perm (ws' := ((wOu g ao (vp_updL fo 0 (Int32.toInt64 (r.vm (Int32.toNatClampNeg (xs (i + 1))))))) ++ ((wMo g am u fi t2 dm th sa ln pa le sk nu h) ++ (wCl g ap ad (xRk r.kp r.ke r.kr r.kt r.kh r.kc r.xn r.xs r.xv r.xh r.xo r.xc r.vd r.vn r.vl r.vu r.vs (upd r.vm (Int32.toNatClampNeg (xs (i + 1))) (xs (i + 2))) (upd r.vp (Int32.toNatClampNeg (xs (i + 1))) (xs (i + 3))) r.vt r.va r.vw r.jd r.jb r.jc r.js r.jl r.jx r.ji r.jf r.jn r.dq) (sp_spo2 po pn) (sp_spn2 pn) pl tx rp rl rs rm rn rz (svS sv adn r po pn) mm)))) (List.perm_append_comm_assoc (wMo g am u fi t2 dm th sa ln pa le sk nu h) (wOu g ao (vp_updL fo 0 (Int32.toInt64 (r.vm (Int32.toNatClampNeg (xs (i + 1))))))) (wCl g ap ad (xRk r.kp r.ke r.kr r.kt r.kh r.kc r.xn r.xs r.xv r.xh r.xo r.xc r.vd r.vn r.vl r.vu r.vs (upd r.vm (Int32.toNatClampNeg (xs (i + 1))) (xs (i + 2))) (upd r.vp (Int32.toNatClampNeg (xs (i + 1))) (xs (i + 3))) r.vt r.va r.vw r.jd r.jb r.jc r.js r.jl r.jx r.ji r.jf r.jn r.dq) (sp_spo2 po pn) (sp_spn2 pn) pl tx rp rl rs rm rn rz (svS sv adn r po pn) mm)) ?_
    refine x_st (st' := [.int 0]) rfl ?_
    refine x_istore C [(5, .int 0), (4, .int (nI i)), (3, .ref ao), (2, .ref (am 0)), (1, .ref (ap 0)), (0, .ref b)] rfl (by decide) dL_law_1774 ?_
    refine x_aload_n C 3 rfl rfl dL_law_1776 ?_
    refine x_aload_n C 5 rfl rfl dL_law_1777 ?_
    refine x_iload C 1 rfl dL_law_1778 ?_
    refine x_iconst C 1 (by decide) dL_law_1780 ?_
    refine x_iaddN C i 1 rfl rfl dL_law_1781 ?_
    refine x_sld C (i + 1) hX hbl hbA rfl (by omega) (by omega) dL_law_1782 ?_
    refine x_aload_n C 5 rfl rfl dL_law_1783 ?_
    refine x_iload C 1 rfl dL_law_1784 ?_
    refine x_iconst C 2 (by decide) dL_law_1786 ?_
    refine x_iaddN C i 2 rfl rfl dL_law_1787 ?_
    refine x_sld C (i + 2) hX hbl hbA rfl (by omega) (by omega) dL_law_1788 ?_
    refine x_aload_n C 5 rfl rfl dL_law_1789 ?_
    refine x_iload C 1 rfl dL_law_1790 ?_
    refine x_iconst C 3 (by decide) dL_law_1792 ?_
    refine x_iaddN C i 3 rfl rfl dL_law_1793 ?_
    refine x_sld C (i + 3) hX hbl hbA rfl (by omega) (by omega) dL_law_1794 ?_
    refine x_FV (w1 := (wOu g ao (vp_updL fo 0 (Int32.toInt64 (r.vm (Int32.toNatClampNeg (xs (i + 1)))))))) (wc := (wMo g am u fi t2 dm th sa ln pa le sk nu h)) (w2 := (wCl g ap ad (xRk r.kp r.ke r.kr r.kt r.kh r.kc r.xn r.xs r.xv r.xh r.xo r.xc r.vd r.vn r.vl r.vu r.vs (upd r.vm (Int32.toNatClampNeg (xs (i + 1))) (xs (i + 2))) (upd r.vp (Int32.toNatClampNeg (xs (i + 1))) (xs (i + 3))) r.vt r.va r.vw r.jd r.jb r.jc r.js r.jl r.jx r.ji r.jf r.jn r.dq) (sp_spo2 po pn) (sp_spn2 pn) pl tx rp rl rs rm rn rz (svS sv adn r po pn) mm)) [.int (xs (i + 1)), .int (xs (i + 2)), .int (xs (i + 3))] [] ((wOu g ao (vp_updL fo 0 (Int32.toInt64 (r.vm (Int32.toNatClampNeg (xs (i + 1))))))) ++ ((wMo g am (sp_X7_setFailsafe_s u sa (xs (i + 1)) (xs (i + 2)) (xs (i + 3))) fi t2 dm (sp_X7_setFailsafe_th (xs (i + 1)) (xs (i + 2)) (xs (i + 3))) (sp_X7_setFailsafe_sa sa (xs (i + 1)) (xs (i + 2)) (xs (i + 3))) ln pa le sk nu h) ++ (wCl g ap ad (xRk r.kp r.ke r.kr r.kt r.kh r.kc r.xn r.xs r.xv r.xh r.xo r.xc r.vd r.vn r.vl r.vu r.vs (upd r.vm (Int32.toNatClampNeg (xs (i + 1))) (xs (i + 2))) (upd r.vp (Int32.toNatClampNeg (xs (i + 1))) (xs (i + 3))) r.vt r.va r.vw r.jd r.jb r.jc r.js r.jl r.jx r.ji r.jf r.jn r.dq) (sp_spo2 po pn) (sp_spn2 pn) pl tx rp rl rs rm rn rz (svS sv adn r po pn) mm))) C (k_X7_setFailsafe l g am u fi t2 dm th sa ln pa le sk nu h (xs (i + 1)) (xs (i + 2)) (xs (i + 3)) H.hs H.hs6 H.hm) rfl yV_X7_setFailsafe wML_L_244 rfl 1 rfl rfl rfl rfl (nle rfl) (nle rfl) (nle rfl) (rmc hcC (by omega)) (rmc hsC (by omega)) dL_law_1795 ?_
    refine x_istore C [(6, .int (sp_X7_setFailsafe u sa (xs (i + 1)) (xs (i + 2)) (xs (i + 3)))), (5, .int 0), (4, .int (nI i)), (3, .ref ao), (2, .ref (am 0)), (1, .ref (ap 0)), (0, .ref b)] rfl (by decide) dL_law_1798 ?_
    refine x_aload_n C 4 rfl rfl dL_law_1800 ?_
    refine x_FV (w1 := (wOu g ao (vp_updL fo 0 (Int32.toInt64 (r.vm (Int32.toNatClampNeg (xs (i + 1)))))))) (wc := (wMo g am (sp_X7_setFailsafe_s u sa (xs (i + 1)) (xs (i + 2)) (xs (i + 3))) fi t2 dm (sp_X7_setFailsafe_th (xs (i + 1)) (xs (i + 2)) (xs (i + 3))) (sp_X7_setFailsafe_sa sa (xs (i + 1)) (xs (i + 2)) (xs (i + 3))) ln pa le sk nu h)) (w2 := (wCl g ap ad (xRk r.kp r.ke r.kr r.kt r.kh r.kc r.xn r.xs r.xv r.xh r.xo r.xc r.vd r.vn r.vl r.vu r.vs (upd r.vm (Int32.toNatClampNeg (xs (i + 1))) (xs (i + 2))) (upd r.vp (Int32.toNatClampNeg (xs (i + 1))) (xs (i + 3))) r.vt r.va r.vw r.jd r.jb r.jc r.js r.jl r.jx r.ji r.jf r.jn r.dq) (sp_spo2 po pn) (sp_spn2 pn) pl tx rp rl rs rm rn rz (svS sv adn r po pn) mm)) [] [] ((wOu g ao (vp_updL fo 0 (Int32.toInt64 (r.vm (Int32.toNatClampNeg (xs (i + 1))))))) ++ ((wMo g am (sp_X7_setFailsafe_s u sa (xs (i + 1)) (xs (i + 2)) (xs (i + 3))) fi t2 dm (sp_X7_setFailsafe_th (xs (i + 1)) (xs (i + 2)) (xs (i + 3))) (sp_X7_setFailsafe_sa sa (xs (i + 1)) (xs (i + 2)) (xs (i + 3))) ln pa le sk nu h) ++ (wCl g ap ad (xRk r.kp r.ke r.kr r.kt r.kh r.kc r.xn r.xs r.xv r.xh r.xo r.xc r.vd r.vn r.vl r.vu r.vs (upd r.vm (Int32.toNatClampNeg (xs (i + 1))) (xs (i + 2))) (upd r.vp (Int32.toNatClampNeg (xs (i + 1))) (xs (i + 3))) r.vt r.va r.vw r.jd r.jb r.jc r.js r.jl r.jx r.ji r.jf r.jn r.dq) (sp_spo2 po pn) (sp_spn2 pn) pl tx rp rl rs rm rn rz (svS sv adn r po pn) mm))) C (k_X7_thrown l g am (sp_X7_setFailsafe_s u sa (xs (i + 1)) (xs (i + 2)) (xs (i + 3))) fi t2 dm (sp_X7_setFailsafe_th (xs (i + 1)) (xs (i + 2)) (xs (i + 3))) (sp_X7_setFailsafe_sa sa (xs (i + 1)) (xs (i + 2)) (xs (i + 3))) ln pa le sk nu h) rfl yV_X7_thrown wML_L_154 rfl 1 rfl rfl rfl rfl (nle rfl) (nle rfl) (nle rfl) (rmc hcC (by omega)) (rmc hsC (by omega)) dL_law_1801 ?_
    refine x_iload C 1 rfl dL_law_1804 ?_
    refine x_icmp_eq C 1811 (by decide) dL_law_1806 (fun _ => ?_) (fun hz => absurd e1 hz)
    refine x_iload C 1 rfl dL_law_1811 ?_
    refine x_if_ne C 1828 (by decide) dL_law_1813 (fun hz => absurd (by decide) hz) (fun _ => ?_)
    refine x_aload_n C 3 rfl rfl dL_law_1816 ?_
    refine x_iconst C 0 (by decide) dL_law_1817 ?_
    refine x_lald (f := (vp_updL fo 0 (Int32.toInt64 (r.vm (Int32.toNatClampNeg (xs (i + 1))))))) C 0 3 rfl rfl in1 dL_law_1818 ?_
    refine x_st (st' := [.long (Int32.toInt64 (r.vm (Int32.toNatClampNeg (xs (i + 1)))))]) rfl ?_
    refine x_iload C 0 rfl dL_law_1819 ?_
    refine x_i2l C dL_law_1821 ?_
    refine x_lcmp C dL_law_1822 ?_
    refine x_if_eq C 1828 (by decide) dL_law_1823 (fun _ => ?_) (fun hz => absurd (lgz (congrArg Int32.toInt64 e2)) hz)
    refine x_goto C 3131 (by decide) dL_law_1828 ?_
    refine x_lv [(4, .int (nI i)), (3, .ref ao), (2, .ref (am 0)), (1, .ref (ap 0)), (0, .ref b)] [2, 3, 4, 5, 6] rfl ?_
    refine x_wid (k := cells + 40) (n := slots + 300) (by omega) (by omega) ?_
    exact K (xRk r.kp r.ke r.kr r.kt r.kh r.kc r.xn r.xs r.xv r.xh r.xo r.xc r.vd r.vn r.vl r.vu r.vs (upd r.vm (Int32.toNatClampNeg (xs (i + 1))) (xs (i + 2))) (upd r.vp (Int32.toNatClampNeg (xs (i + 1))) (xs (i + 3))) r.vt r.va r.vw r.jd r.jb r.jc r.js r.jl r.jx r.ji r.jf r.jn r.dq) (sp_spo2 po pn) (sp_spn2 pn) pl tx rp rl rs rm rn rz (svS sv adn r po pn) mm (sp_X7_setFailsafe_s u sa (xs (i + 1)) (xs (i + 2)) (xs (i + 3))) fi t2 dm (sp_X7_setFailsafe_th (xs (i + 1)) (xs (i + 2)) (xs (i + 3))) (sp_X7_setFailsafe_sa sa (xs (i + 1)) (xs (i + 2)) (xs (i + 3))) ln pa le sk nu h (vp_updL fo 0 (Int32.toInt64 (r.vm (Int32.toNatClampNeg (xs (i + 1)))))) (e3 adn)
  · obtain ⟨e1, e3⟩ := hP.2 E cd h1 hcd
    refine x_perm (ws' := ((wOu g ao fo) ++ ((wMo g am u fi t2 dm th sa ln pa le sk nu h) ++ (wCl g ap ad r po pn pl tx rp rl rs rm rn rz sv mm)))) (List.perm_append_comm_assoc (wMo g am u fi t2 dm th sa ln pa le sk nu h) (wOu g ao fo) (wCl g ap ad r po pn pl tx rp rl rs rm rn rz sv mm)) ?_
    refine x_st (st' := [.int cd]) rfl ?_
    refine x_istore C [(5, .int cd), (4, .int (nI i)), (3, .ref ao), (2, .ref (am 0)), (1, .ref (ap 0)), (0, .ref b)] rfl (by decide) dL_law_1774 ?_
    refine x_aload_n C 3 rfl rfl dL_law_1776 ?_
    refine x_aload_n C 5 rfl rfl dL_law_1777 ?_
    refine x_iload C 1 rfl dL_law_1778 ?_
    refine x_iconst C 1 (by decide) dL_law_1780 ?_
    refine x_iaddN C i 1 rfl rfl dL_law_1781 ?_
    refine x_sld C (i + 1) hX hbl hbA rfl (by omega) (by omega) dL_law_1782 ?_
    refine x_aload_n C 5 rfl rfl dL_law_1783 ?_
    refine x_iload C 1 rfl dL_law_1784 ?_
    refine x_iconst C 2 (by decide) dL_law_1786 ?_
    refine x_iaddN C i 2 rfl rfl dL_law_1787 ?_
    refine x_sld C (i + 2) hX hbl hbA rfl (by omega) (by omega) dL_law_1788 ?_
    refine x_aload_n C 5 rfl rfl dL_law_1789 ?_
    refine x_iload C 1 rfl dL_law_1790 ?_
    refine x_iconst C 3 (by decide) dL_law_1792 ?_
    refine x_iaddN C i 3 rfl rfl dL_law_1793 ?_
    refine x_sld C (i + 3) hX hbl hbA rfl (by omega) (by omega) dL_law_1794 ?_
    refine x_FV (w1 := (wOu g ao fo)) (wc := (wMo g am u fi t2 dm th sa ln pa le sk nu h)) (w2 := (wCl g ap ad r po pn pl tx rp rl rs rm rn rz sv mm)) [.int (xs (i + 1)), .int (xs (i + 2)), .int (xs (i + 3))] [] ((wOu g ao fo) ++ ((wMo g am (sp_X7_setFailsafe_s u sa (xs (i + 1)) (xs (i + 2)) (xs (i + 3))) fi t2 dm (sp_X7_setFailsafe_th (xs (i + 1)) (xs (i + 2)) (xs (i + 3))) (sp_X7_setFailsafe_sa sa (xs (i + 1)) (xs (i + 2)) (xs (i + 3))) ln pa le sk nu h) ++ (wCl g ap ad r po pn pl tx rp rl rs rm rn rz sv mm))) C (k_X7_setFailsafe l g am u fi t2 dm th sa ln pa le sk nu h (xs (i + 1)) (xs (i + 2)) (xs (i + 3)) H.hs H.hs6 H.hm) rfl yV_X7_setFailsafe wML_L_244 rfl 1 rfl rfl rfl rfl (nle rfl) (nle rfl) (nle rfl) (rmc hcC (by omega)) (rmc hsC (by omega)) dL_law_1795 ?_
    refine x_istore C [(6, .int (sp_X7_setFailsafe u sa (xs (i + 1)) (xs (i + 2)) (xs (i + 3)))), (5, .int cd), (4, .int (nI i)), (3, .ref ao), (2, .ref (am 0)), (1, .ref (ap 0)), (0, .ref b)] rfl (by decide) dL_law_1798 ?_
    refine x_aload_n C 4 rfl rfl dL_law_1800 ?_
    refine x_FV (w1 := (wOu g ao fo)) (wc := (wMo g am (sp_X7_setFailsafe_s u sa (xs (i + 1)) (xs (i + 2)) (xs (i + 3))) fi t2 dm (sp_X7_setFailsafe_th (xs (i + 1)) (xs (i + 2)) (xs (i + 3))) (sp_X7_setFailsafe_sa sa (xs (i + 1)) (xs (i + 2)) (xs (i + 3))) ln pa le sk nu h)) (w2 := (wCl g ap ad r po pn pl tx rp rl rs rm rn rz sv mm)) [] [] ((wOu g ao fo) ++ ((wMo g am (sp_X7_setFailsafe_s u sa (xs (i + 1)) (xs (i + 2)) (xs (i + 3))) fi t2 dm (sp_X7_setFailsafe_th (xs (i + 1)) (xs (i + 2)) (xs (i + 3))) (sp_X7_setFailsafe_sa sa (xs (i + 1)) (xs (i + 2)) (xs (i + 3))) ln pa le sk nu h) ++ (wCl g ap ad r po pn pl tx rp rl rs rm rn rz sv mm))) C (k_X7_thrown l g am (sp_X7_setFailsafe_s u sa (xs (i + 1)) (xs (i + 2)) (xs (i + 3))) fi t2 dm (sp_X7_setFailsafe_th (xs (i + 1)) (xs (i + 2)) (xs (i + 3))) (sp_X7_setFailsafe_sa sa (xs (i + 1)) (xs (i + 2)) (xs (i + 3))) ln pa le sk nu h) rfl yV_X7_thrown wML_L_154 rfl 1 rfl rfl rfl rfl (nle rfl) (nle rfl) (nle rfl) (rmc hcC (by omega)) (rmc hsC (by omega)) dL_law_1801 ?_
    refine x_iload C 1 rfl dL_law_1804 ?_
    refine x_icmp_eq C 1811 (by decide) dL_law_1806 (fun _ => ?_) (fun hz => absurd e1 hz)
    refine x_iload C 1 rfl dL_law_1811 ?_
    refine x_if_ne C 1828 (by decide) dL_law_1813 (fun _ => ?_) (fun hz => absurd hz (by rcases hcd with ⟨-, rfl⟩ | ⟨-, rfl⟩ <;> decide))
    refine x_goto C 3131 (by decide) dL_law_1828 ?_
    refine x_lv [(4, .int (nI i)), (3, .ref ao), (2, .ref (am 0)), (1, .ref (ap 0)), (0, .ref b)] [2, 3, 4, 5, 6] rfl ?_
    refine x_wid (k := cells + 40) (n := slots + 300) (by omega) (by omega) ?_
    exact K r po pn pl tx rp rl rs rm rn rz sv mm (sp_X7_setFailsafe_s u sa (xs (i + 1)) (xs (i + 2)) (xs (i + 3))) fi t2 dm (sp_X7_setFailsafe_th (xs (i + 1)) (xs (i + 2)) (xs (i + 3))) (sp_X7_setFailsafe_sa sa (xs (i + 1)) (xs (i + 2)) (xs (i + 3))) ln pa le sk nu h fo e3
set_option maxRecDepth 100000 in
set_option maxHeartbeats 2000000 in
theorem c_27 {p : Program} {l : Launch} {e : Env} {s : State} {m : MethodId} {args : Array Value} {below : List Frame} {meth : Method} {c : Code} {cells slots : Nat} {Q : State → Prop} {nm : String} {g : xGt} {A : Nat → Prop} {b L i : Nat} {xs : Nat → Int32} {ap ad am : Nat → Nat} {ao : Nat} {r : xR} {po : Int32} {pn : Int32} {pl : Int32} {tx : Nat → Int32} {rp : Int32} {rl : Int32} {rs : Int32} {rm : Int32} {rn : Int32} {rz : Int32} {sv : xPl} {mm : xPl} {u : Nat → Int32} {fi : Nat → Int32} {t2 : Nat → Int32} {dm : Nat → Int32} {th : Int32} {sa : Int32} {ln : Int32} {pa : Int32} {le : Int32} {sk : Int32} {nu : Int32} {h : Int64} {fo : Nat → Int64} (C : xC p l s m args meth c cL_law 9 RL nm g.1 (xT g) A) (hX : va_X b L xs s s.heap) (hbl : b < s.heap.size) (hbA : ¬ A b) (hi : i + 6 ≤ L) (hL : L ≤ 3072) (hcC : cells + 40 ≤ room_1.cells) (hsC : slots + 300 ≤ room_1.slots) (H : RI r po pn pl tx sv mm u fi t2 sa ln) (K : LK p l e s m args below meth c g A ap ad am ao b i (cells + 40) (slots + 300) Q) : xW p l e room_1 s m args below meth c g.1 A 9 cells slots Q (wLaw g ap ad am ao r po pn pl tx rp rl rs rm rn rz sv mm u fi t2 dm th sa ln pa le sk nu h fo) [(4, .int (nI i)), (3, .ref ao), (2, .ref (am 0)), (1, .ref (ap 0)), (0, .ref b)] 1831 [] := by
  refine x_ws (ws' := ((wOu g ao fo) ++ ((wMo g am u fi t2 dm th sa ln pa le sk nu h) ++ (wCl g ap ad r po pn pl tx rp rl rs rm rn rz sv mm)))) rfl ?_
  refine x_aload_n C 3 rfl rfl dL_law_1831 ?_
  refine x_aload_n C 4 rfl rfl dL_law_1832 ?_
  refine x_iload C 0 rfl dL_law_1833 ?_
  refine x_iconst C 1 (by decide) dL_law_1835 ?_
  refine x_iaddN C i 1 rfl rfl dL_law_1836 ?_
  refine x_sld C (i + 1) hX hbl hbA rfl (by omega) (by omega) dL_law_1837 ?_
  refine x_aload_n C 1 rfl rfl dL_law_1838 ?_
  refine x_callL (X := (wOu g ao fo)) (Y := (wMo g am u fi t2 dm th sa ln pa le sk nu h)) (Z := (wCl g ap ad r po pn pl tx rp rl rs rm rn rz sv mm)) [.ref (ap 0), .int (xs (i + 1)), .ref ao] [] C (k_L_demand l g ao fo ap ad r po pn pl tx rp rl rs rm rn rz sv mm (xs (i + 1)) H.clo) yH_L_demand wML_L_245 rfl rfl rfl (nle rfl) (nle rfl) (nle rfl) (rmc hcC (by omega)) (rmc hsC (by omega)) dL_law_1839 (fun r0 w0 h0 => ?_)
  have hP := P_demand r po pn pl tx rp rl rs rm rn rz sv mm u fi t2 dm th sa ln pa le sk nu h (xs (i + 1)) H
  rcases h0 with ⟨h1, rfl, w8, hw, rfl⟩ | ⟨E, cd, h1, hcd, rfl, rfl⟩
  · obtain rfl := hw
    obtain ⟨e1, e2, e3⟩ := hP.1 h1
    refine x_perm (ws' := ((wOu g ao (vp_updL fo 0 (Int32.toInt64 (sp_X6_demand r (xs (i + 1)))))) ++ ((wMo g am u fi t2 dm th sa ln pa le sk nu h) ++ (wCl g ap ad (r.set_dq (sp_cdm r.kp r.ke r.kr r.kt r.kh r.kc r.xn r.xs r.xv r.xh r.xo r.xc r.dq 6)) po pn pl tx rp rl rs rm rn rz sv mm)))) (List.perm_append_comm_assoc (wMo g am u fi t2 dm th sa ln pa le sk nu h) (wOu g ao (vp_updL fo 0 (Int32.toInt64 (sp_X6_demand r (xs (i + 1)))))) (wCl g ap ad (r.set_dq (sp_cdm r.kp r.ke r.kr r.kt r.kh r.kc r.xn r.xs r.xv r.xh r.xo r.xc r.dq 6)) po pn pl tx rp rl rs rm rn rz sv mm)) ?_
    refine x_st (st' := [.int 0]) rfl ?_
    refine x_istore C [(5, .int 0), (4, .int (nI i)), (3, .ref ao), (2, .ref (am 0)), (1, .ref (ap 0)), (0, .ref b)] rfl (by decide) dL_law_1842 ?_
    refine x_aload_n C 3 rfl rfl dL_law_1844 ?_
    refine x_aload_n C 5 rfl rfl dL_law_1845 ?_
    refine x_iload C 1 rfl dL_law_1846 ?_
    refine x_iconst C 1 (by decide) dL_law_1848 ?_
    refine x_iaddN C i 1 rfl rfl dL_law_1849 ?_
    refine x_sld C (i + 1) hX hbl hbA rfl (by omega) (by omega) dL_law_1850 ?_
    refine x_FV (w1 := (wOu g ao (vp_updL fo 0 (Int32.toInt64 (sp_X6_demand r (xs (i + 1))))))) (wc := (wMo g am u fi t2 dm th sa ln pa le sk nu h)) (w2 := (wCl g ap ad (r.set_dq (sp_cdm r.kp r.ke r.kr r.kt r.kh r.kc r.xn r.xs r.xv r.xh r.xo r.xc r.dq 6)) po pn pl tx rp rl rs rm rn rz sv mm)) [.int (xs (i + 1))] [] ((wOu g ao (vp_updL fo 0 (Int32.toInt64 (sp_X6_demand r (xs (i + 1)))))) ++ ((wMo g am u fi t2 (sp_X7_demand_dm u dm (xs (i + 1))) (sp_X7_demand_th (xs (i + 1))) sa ln pa le sk nu h) ++ (wCl g ap ad (r.set_dq (sp_cdm r.kp r.ke r.kr r.kt r.kh r.kc r.xn r.xs r.xv r.xh r.xo r.xc r.dq 6)) po pn pl tx rp rl rs rm rn rz sv mm))) C (k_X7_demand l g am u fi t2 dm th sa ln pa le sk nu h (xs (i + 1)) H.hs H.hs6 H.hm) rfl yV_X7_demand wML_L_247 rfl 1 rfl rfl rfl rfl (nle rfl) (nle rfl) (nle rfl) (rmc hcC (by omega)) (rmc hsC (by omega)) dL_law_1851 ?_
    refine x_istore C [(6, .int (sp_X7_demand u dm (xs (i + 1)))), (5, .int 0), (4, .int (nI i)), (3, .ref ao), (2, .ref (am 0)), (1, .ref (ap 0)), (0, .ref b)] rfl (by decide) dL_law_1854 ?_
    refine x_aload_n C 4 rfl rfl dL_law_1856 ?_
    refine x_FV (w1 := (wOu g ao (vp_updL fo 0 (Int32.toInt64 (sp_X6_demand r (xs (i + 1))))))) (wc := (wMo g am u fi t2 (sp_X7_demand_dm u dm (xs (i + 1))) (sp_X7_demand_th (xs (i + 1))) sa ln pa le sk nu h)) (w2 := (wCl g ap ad (r.set_dq (sp_cdm r.kp r.ke r.kr r.kt r.kh r.kc r.xn r.xs r.xv r.xh r.xo r.xc r.dq 6)) po pn pl tx rp rl rs rm rn rz sv mm)) [] [] ((wOu g ao (vp_updL fo 0 (Int32.toInt64 (sp_X6_demand r (xs (i + 1)))))) ++ ((wMo g am u fi t2 (sp_X7_demand_dm u dm (xs (i + 1))) (sp_X7_demand_th (xs (i + 1))) sa ln pa le sk nu h) ++ (wCl g ap ad (r.set_dq (sp_cdm r.kp r.ke r.kr r.kt r.kh r.kc r.xn r.xs r.xv r.xh r.xo r.xc r.dq 6)) po pn pl tx rp rl rs rm rn rz sv mm))) C (k_X7_thrown l g am u fi t2 (sp_X7_demand_dm u dm (xs (i + 1))) (sp_X7_demand_th (xs (i + 1))) sa ln pa le sk nu h) rfl yV_X7_thrown wML_L_154 rfl 1 rfl rfl rfl rfl (nle rfl) (nle rfl) (nle rfl) (rmc hcC (by omega)) (rmc hsC (by omega)) dL_law_1857 ?_
    refine x_iload C 1 rfl dL_law_1860 ?_
    refine x_icmp_eq C 1867 (by decide) dL_law_1862 (fun _ => ?_) (fun hz => absurd e1 hz)
    refine x_iload C 1 rfl dL_law_1867 ?_
    refine x_if_ne C 1884 (by decide) dL_law_1869 (fun hz => absurd (by decide) hz) (fun _ => ?_)
    refine x_aload_n C 3 rfl rfl dL_law_1872 ?_
    refine x_iconst C 0 (by decide) dL_law_1873 ?_
    refine x_lald (f := (vp_updL fo 0 (Int32.toInt64 (sp_X6_demand r (xs (i + 1)))))) C 0 3 rfl rfl in1 dL_law_1874 ?_
    refine x_st (st' := [.long (Int32.toInt64 (sp_X6_demand r (xs (i + 1))))]) rfl ?_
    refine x_iload C 0 rfl dL_law_1875 ?_
    refine x_i2l C dL_law_1877 ?_
    refine x_lcmp C dL_law_1878 ?_
    refine x_if_eq C 1884 (by decide) dL_law_1879 (fun _ => ?_) (fun hz => absurd (lgz (congrArg Int32.toInt64 e2)) hz)
    refine x_goto C 3131 (by decide) dL_law_1884 ?_
    refine x_lv [(4, .int (nI i)), (3, .ref ao), (2, .ref (am 0)), (1, .ref (ap 0)), (0, .ref b)] [2, 3, 4, 5, 6] rfl ?_
    refine x_wid (k := cells + 40) (n := slots + 300) (by omega) (by omega) ?_
    exact K (r.set_dq (sp_cdm r.kp r.ke r.kr r.kt r.kh r.kc r.xn r.xs r.xv r.xh r.xo r.xc r.dq 6)) po pn pl tx rp rl rs rm rn rz sv mm u fi t2 (sp_X7_demand_dm u dm (xs (i + 1))) (sp_X7_demand_th (xs (i + 1))) sa ln pa le sk nu h (vp_updL fo 0 (Int32.toInt64 (sp_X6_demand r (xs (i + 1))))) e3
  · obtain ⟨e1, e3⟩ := hP.2 E cd h1 hcd
    refine x_perm (ws' := ((wOu g ao fo) ++ ((wMo g am u fi t2 dm th sa ln pa le sk nu h) ++ (wCl g ap ad r po pn pl tx rp rl rs rm rn rz sv mm)))) (List.perm_append_comm_assoc (wMo g am u fi t2 dm th sa ln pa le sk nu h) (wOu g ao fo) (wCl g ap ad r po pn pl tx rp rl rs rm rn rz sv mm)) ?_
    refine x_st (st' := [.int cd]) rfl ?_
    refine x_istore C [(5, .int cd), (4, .int (nI i)), (3, .ref ao), (2, .ref (am 0)), (1, .ref (ap 0)), (0, .ref b)] rfl (by decide) dL_law_1842 ?_
    refine x_aload_n C 3 rfl rfl dL_law_1844 ?_
    refine x_aload_n C 5 rfl rfl dL_law_1845 ?_
    refine x_iload C 1 rfl dL_law_1846 ?_
    refine x_iconst C 1 (by decide) dL_law_1848 ?_
    refine x_iaddN C i 1 rfl rfl dL_law_1849 ?_
    refine x_sld C (i + 1) hX hbl hbA rfl (by omega) (by omega) dL_law_1850 ?_
    refine x_FV (w1 := (wOu g ao fo)) (wc := (wMo g am u fi t2 dm th sa ln pa le sk nu h)) (w2 := (wCl g ap ad r po pn pl tx rp rl rs rm rn rz sv mm)) [.int (xs (i + 1))] [] ((wOu g ao fo) ++ ((wMo g am u fi t2 (sp_X7_demand_dm u dm (xs (i + 1))) (sp_X7_demand_th (xs (i + 1))) sa ln pa le sk nu h) ++ (wCl g ap ad r po pn pl tx rp rl rs rm rn rz sv mm))) C (k_X7_demand l g am u fi t2 dm th sa ln pa le sk nu h (xs (i + 1)) H.hs H.hs6 H.hm) rfl yV_X7_demand wML_L_247 rfl 1 rfl rfl rfl rfl (nle rfl) (nle rfl) (nle rfl) (rmc hcC (by omega)) (rmc hsC (by omega)) dL_law_1851 ?_
    refine x_istore C [(6, .int (sp_X7_demand u dm (xs (i + 1)))), (5, .int cd), (4, .int (nI i)), (3, .ref ao), (2, .ref (am 0)), (1, .ref (ap 0)), (0, .ref b)] rfl (by decide) dL_law_1854 ?_
    refine x_aload_n C 4 rfl rfl dL_law_1856 ?_
    refine x_FV (w1 := (wOu g ao fo)) (wc := (wMo g am u fi t2 (sp_X7_demand_dm u dm (xs (i + 1))) (sp_X7_demand_th (xs (i + 1))) sa ln pa le sk nu h)) (w2 := (wCl g ap ad r po pn pl tx rp rl rs rm rn rz sv mm)) [] [] ((wOu g ao fo) ++ ((wMo g am u fi t2 (sp_X7_demand_dm u dm (xs (i + 1))) (sp_X7_demand_th (xs (i + 1))) sa ln pa le sk nu h) ++ (wCl g ap ad r po pn pl tx rp rl rs rm rn rz sv mm))) C (k_X7_thrown l g am u fi t2 (sp_X7_demand_dm u dm (xs (i + 1))) (sp_X7_demand_th (xs (i + 1))) sa ln pa le sk nu h) rfl yV_X7_thrown wML_L_154 rfl 1 rfl rfl rfl rfl (nle rfl) (nle rfl) (nle rfl) (rmc hcC (by omega)) (rmc hsC (by omega)) dL_law_1857 ?_
    refine x_iload C 1 rfl dL_law_1860 ?_
    refine x_icmp_eq C 1867 (by decide) dL_law_1862 (fun _ => ?_) (fun hz => absurd e1 hz)
    refine x_iload C 1 rfl dL_law_1867 ?_
    refine x_if_ne C 1884 (by decide) dL_law_1869 (fun _ => ?_) (fun hz => absurd hz (cd0 hcd))
    refine x_goto C 3131 (by decide) dL_law_1884 ?_
    refine x_lv [(4, .int (nI i)), (3, .ref ao), (2, .ref (am 0)), (1, .ref (ap 0)), (0, .ref b)] [2, 3, 4, 5, 6] rfl ?_
    refine x_wid (k := cells + 40) (n := slots + 300) (by omega) (by omega) ?_
    exact K r po pn pl tx rp rl rs rm rn rz sv mm u fi t2 (sp_X7_demand_dm u dm (xs (i + 1))) (sp_X7_demand_th (xs (i + 1))) sa ln pa le sk nu h fo e3
set_option maxRecDepth 100000 in
set_option maxHeartbeats 2000000 in
theorem c_28 {p : Program} {l : Launch} {e : Env} {s : State} {m : MethodId} {args : Array Value} {below : List Frame} {meth : Method} {c : Code} {cells slots : Nat} {Q : State → Prop} {nm : String} {g : xGt} {A : Nat → Prop} {b L i : Nat} {xs : Nat → Int32} {ap ad am : Nat → Nat} {ao : Nat} {r : xR} {po : Int32} {pn : Int32} {pl : Int32} {tx : Nat → Int32} {rp : Int32} {rl : Int32} {rs : Int32} {rm : Int32} {rn : Int32} {rz : Int32} {sv : xPl} {mm : xPl} {u : Nat → Int32} {fi : Nat → Int32} {t2 : Nat → Int32} {dm : Nat → Int32} {th : Int32} {sa : Int32} {ln : Int32} {pa : Int32} {le : Int32} {sk : Int32} {nu : Int32} {h : Int64} {fo : Nat → Int64} (C : xC p l s m args meth c cL_law 9 RL nm g.1 (xT g) A) (hX : va_X b L xs s s.heap) (hbl : b < s.heap.size) (hbA : ¬ A b) (hi : i + 6 ≤ L) (hL : L ≤ 3072) (hcC : cells + 40 ≤ room_1.cells) (hsC : slots + 300 ≤ room_1.slots) (H : RI r po pn pl tx sv mm u fi t2 sa ln) (K : LK p l e s m args below meth c g A ap ad am ao b i (cells + 40) (slots + 300) Q) : xW p l e room_1 s m args below meth c g.1 A 9 cells slots Q (wLaw g ap ad am ao r po pn pl tx rp rl rs rm rn rz sv mm u fi t2 dm th sa ln pa le sk nu h fo) [(4, .int (nI i)), (3, .ref ao), (2, .ref (am 0)), (1, .ref (ap 0)), (0, .ref b)] 1887 [] := by
  refine x_ws (ws' := ((wOu g ao fo) ++ ((wMo g am u fi t2 dm th sa ln pa le sk nu h) ++ (wCl g ap ad r po pn pl tx rp rl rs rm rn rz sv mm)))) rfl ?_
  refine x_aload_n C 3 rfl rfl dL_law_1887 ?_
  refine x_aload_n C 4 rfl rfl dL_law_1888 ?_
  refine x_iload C 0 rfl dL_law_1889 ?_
  refine x_iconst C 1 (by decide) dL_law_1891 ?_
  refine x_iaddN C i 1 rfl rfl dL_law_1892 ?_
  refine x_sld C (i + 1) hX hbl hbA rfl (by omega) (by omega) dL_law_1893 ?_
  refine x_aload_n C 1 rfl rfl dL_law_1894 ?_
  refine x_callL (X := (wOu g ao fo)) (Y := (wMo g am u fi t2 dm th sa ln pa le sk nu h)) (Z := (wCl g ap ad r po pn pl tx rp rl rs rm rn rz sv mm)) [.ref (ap 0), .int (xs (i + 1)), .ref ao] [] C (k_L_aim l g ao fo ap ad r po pn pl tx rp rl rs rm rn rz sv mm (xs (i + 1)) H.clo) yH_L_aim wML_L_248 rfl rfl rfl (nle rfl) (nle rfl) (nle rfl) (rmc hcC (by omega)) (rmc hsC (by omega)) dL_law_1895 (fun r0 w0 h0 => ?_)
  have hP := P_aim r po pn pl tx rp rl rs rm rn rz sv mm u fi t2 dm th sa ln pa le sk nu h (xs (i + 1)) H
  rcases h0 with ⟨h1, rfl, w8, hw, rfl⟩ | ⟨E, cd, h1, hcd, rfl, rfl⟩
  · obtain rfl := hw
    obtain ⟨e1, e2, e3⟩ := hP.1 h1
    refine x_perm (ws' := ((wOu g ao (vp_updL fo 0 (Int32.toInt64 (sp_X6_aim r (xs (i + 1)))))) ++ ((wMo g am u fi t2 dm th sa ln pa le sk nu h) ++ (wCl g ap ad (r.set_dq (sp_cdm r.kp r.ke r.kr r.kt r.kh r.kc r.xn r.xs r.xv r.xh r.xo r.xc r.dq 6)) po pn pl tx rp rl rs rm rn rz sv mm)))) (List.perm_append_comm_assoc (wMo g am u fi t2 dm th sa ln pa le sk nu h) (wOu g ao (vp_updL fo 0 (Int32.toInt64 (sp_X6_aim r (xs (i + 1)))))) (wCl g ap ad (r.set_dq (sp_cdm r.kp r.ke r.kr r.kt r.kh r.kc r.xn r.xs r.xv r.xh r.xo r.xc r.dq 6)) po pn pl tx rp rl rs rm rn rz sv mm)) ?_
    refine x_st (st' := [.int 0]) rfl ?_
    refine x_istore C [(5, .int 0), (4, .int (nI i)), (3, .ref ao), (2, .ref (am 0)), (1, .ref (ap 0)), (0, .ref b)] rfl (by decide) dL_law_1898 ?_
    refine x_aload_n C 3 rfl rfl dL_law_1900 ?_
    refine x_aload_n C 5 rfl rfl dL_law_1901 ?_
    refine x_iload C 1 rfl dL_law_1902 ?_
    refine x_iconst C 1 (by decide) dL_law_1904 ?_
    refine x_iaddN C i 1 rfl rfl dL_law_1905 ?_
    refine x_sld C (i + 1) hX hbl hbA rfl (by omega) (by omega) dL_law_1906 ?_
    refine x_FV (w1 := (wOu g ao (vp_updL fo 0 (Int32.toInt64 (sp_X6_aim r (xs (i + 1))))))) (wc := (wMo g am u fi t2 dm th sa ln pa le sk nu h)) (w2 := (wCl g ap ad (r.set_dq (sp_cdm r.kp r.ke r.kr r.kt r.kh r.kc r.xn r.xs r.xv r.xh r.xo r.xc r.dq 6)) po pn pl tx rp rl rs rm rn rz sv mm)) [.int (xs (i + 1))] [] ((wOu g ao (vp_updL fo 0 (Int32.toInt64 (sp_X6_aim r (xs (i + 1)))))) ++ ((wMo g am u fi t2 (sp_X7_aim_dm u dm (xs (i + 1))) (sp_X7_aim_th (xs (i + 1))) sa ln pa le sk nu h) ++ (wCl g ap ad (r.set_dq (sp_cdm r.kp r.ke r.kr r.kt r.kh r.kc r.xn r.xs r.xv r.xh r.xo r.xc r.dq 6)) po pn pl tx rp rl rs rm rn rz sv mm))) C (k_X7_aim l g am u fi t2 dm th sa ln pa le sk nu h (xs (i + 1)) H.hs H.hs6 H.hm) rfl yV_X7_aim wML_L_250 rfl 1 rfl rfl rfl rfl (nle rfl) (nle rfl) (nle rfl) (rmc hcC (by omega)) (rmc hsC (by omega)) dL_law_1907 ?_
    refine x_istore C [(6, .int (sp_X7_aim u dm (xs (i + 1)))), (5, .int 0), (4, .int (nI i)), (3, .ref ao), (2, .ref (am 0)), (1, .ref (ap 0)), (0, .ref b)] rfl (by decide) dL_law_1910 ?_
    refine x_aload_n C 4 rfl rfl dL_law_1912 ?_
    refine x_FV (w1 := (wOu g ao (vp_updL fo 0 (Int32.toInt64 (sp_X6_aim r (xs (i + 1))))))) (wc := (wMo g am u fi t2 (sp_X7_aim_dm u dm (xs (i + 1))) (sp_X7_aim_th (xs (i + 1))) sa ln pa le sk nu h)) (w2 := (wCl g ap ad (r.set_dq (sp_cdm r.kp r.ke r.kr r.kt r.kh r.kc r.xn r.xs r.xv r.xh r.xo r.xc r.dq 6)) po pn pl tx rp rl rs rm rn rz sv mm)) [] [] ((wOu g ao (vp_updL fo 0 (Int32.toInt64 (sp_X6_aim r (xs (i + 1)))))) ++ ((wMo g am u fi t2 (sp_X7_aim_dm u dm (xs (i + 1))) (sp_X7_aim_th (xs (i + 1))) sa ln pa le sk nu h) ++ (wCl g ap ad (r.set_dq (sp_cdm r.kp r.ke r.kr r.kt r.kh r.kc r.xn r.xs r.xv r.xh r.xo r.xc r.dq 6)) po pn pl tx rp rl rs rm rn rz sv mm))) C (k_X7_thrown l g am u fi t2 (sp_X7_aim_dm u dm (xs (i + 1))) (sp_X7_aim_th (xs (i + 1))) sa ln pa le sk nu h) rfl yV_X7_thrown wML_L_154 rfl 1 rfl rfl rfl rfl (nle rfl) (nle rfl) (nle rfl) (rmc hcC (by omega)) (rmc hsC (by omega)) dL_law_1913 ?_
    refine x_iload C 1 rfl dL_law_1916 ?_
    refine x_icmp_eq C 1923 (by decide) dL_law_1918 (fun _ => ?_) (fun hz => absurd e1 hz)
    refine x_iload C 1 rfl dL_law_1923 ?_
    refine x_if_ne C 1940 (by decide) dL_law_1925 (fun hz => absurd (by decide) hz) (fun _ => ?_)
    refine x_aload_n C 3 rfl rfl dL_law_1928 ?_
    refine x_iconst C 0 (by decide) dL_law_1929 ?_
    refine x_lald (f := (vp_updL fo 0 (Int32.toInt64 (sp_X6_aim r (xs (i + 1)))))) C 0 3 rfl rfl in1 dL_law_1930 ?_
    refine x_st (st' := [.long (Int32.toInt64 (sp_X6_aim r (xs (i + 1))))]) rfl ?_
    refine x_iload C 0 rfl dL_law_1931 ?_
    refine x_i2l C dL_law_1933 ?_
    refine x_lcmp C dL_law_1934 ?_
    refine x_if_eq C 1940 (by decide) dL_law_1935 (fun _ => ?_) (fun hz => absurd (lgz (congrArg Int32.toInt64 e2)) hz)
    refine x_goto C 3131 (by decide) dL_law_1940 ?_
    refine x_lv [(4, .int (nI i)), (3, .ref ao), (2, .ref (am 0)), (1, .ref (ap 0)), (0, .ref b)] [2, 3, 4, 5, 6] rfl ?_
    refine x_wid (k := cells + 40) (n := slots + 300) (by omega) (by omega) ?_
    exact K (r.set_dq (sp_cdm r.kp r.ke r.kr r.kt r.kh r.kc r.xn r.xs r.xv r.xh r.xo r.xc r.dq 6)) po pn pl tx rp rl rs rm rn rz sv mm u fi t2 (sp_X7_aim_dm u dm (xs (i + 1))) (sp_X7_aim_th (xs (i + 1))) sa ln pa le sk nu h (vp_updL fo 0 (Int32.toInt64 (sp_X6_aim r (xs (i + 1))))) e3
  · obtain ⟨e1, e3⟩ := hP.2 E cd h1 hcd
    refine x_perm (ws' := ((wOu g ao fo) ++ ((wMo g am u fi t2 dm th sa ln pa le sk nu h) ++ (wCl g ap ad r po pn pl tx rp rl rs rm rn rz sv mm)))) (List.perm_append_comm_assoc (wMo g am u fi t2 dm th sa ln pa le sk nu h) (wOu g ao fo) (wCl g ap ad r po pn pl tx rp rl rs rm rn rz sv mm)) ?_
    refine x_st (st' := [.int cd]) rfl ?_
    refine x_istore C [(5, .int cd), (4, .int (nI i)), (3, .ref ao), (2, .ref (am 0)), (1, .ref (ap 0)), (0, .ref b)] rfl (by decide) dL_law_1898 ?_
    refine x_aload_n C 3 rfl rfl dL_law_1900 ?_
    refine x_aload_n C 5 rfl rfl dL_law_1901 ?_
    refine x_iload C 1 rfl dL_law_1902 ?_
    refine x_iconst C 1 (by decide) dL_law_1904 ?_
    refine x_iaddN C i 1 rfl rfl dL_law_1905 ?_
    refine x_sld C (i + 1) hX hbl hbA rfl (by omega) (by omega) dL_law_1906 ?_
    refine x_FV (w1 := (wOu g ao fo)) (wc := (wMo g am u fi t2 dm th sa ln pa le sk nu h)) (w2 := (wCl g ap ad r po pn pl tx rp rl rs rm rn rz sv mm)) [.int (xs (i + 1))] [] ((wOu g ao fo) ++ ((wMo g am u fi t2 (sp_X7_aim_dm u dm (xs (i + 1))) (sp_X7_aim_th (xs (i + 1))) sa ln pa le sk nu h) ++ (wCl g ap ad r po pn pl tx rp rl rs rm rn rz sv mm))) C (k_X7_aim l g am u fi t2 dm th sa ln pa le sk nu h (xs (i + 1)) H.hs H.hs6 H.hm) rfl yV_X7_aim wML_L_250 rfl 1 rfl rfl rfl rfl (nle rfl) (nle rfl) (nle rfl) (rmc hcC (by omega)) (rmc hsC (by omega)) dL_law_1907 ?_
    refine x_istore C [(6, .int (sp_X7_aim u dm (xs (i + 1)))), (5, .int cd), (4, .int (nI i)), (3, .ref ao), (2, .ref (am 0)), (1, .ref (ap 0)), (0, .ref b)] rfl (by decide) dL_law_1910 ?_
    refine x_aload_n C 4 rfl rfl dL_law_1912 ?_
    refine x_FV (w1 := (wOu g ao fo)) (wc := (wMo g am u fi t2 (sp_X7_aim_dm u dm (xs (i + 1))) (sp_X7_aim_th (xs (i + 1))) sa ln pa le sk nu h)) (w2 := (wCl g ap ad r po pn pl tx rp rl rs rm rn rz sv mm)) [] [] ((wOu g ao fo) ++ ((wMo g am u fi t2 (sp_X7_aim_dm u dm (xs (i + 1))) (sp_X7_aim_th (xs (i + 1))) sa ln pa le sk nu h) ++ (wCl g ap ad r po pn pl tx rp rl rs rm rn rz sv mm))) C (k_X7_thrown l g am u fi t2 (sp_X7_aim_dm u dm (xs (i + 1))) (sp_X7_aim_th (xs (i + 1))) sa ln pa le sk nu h) rfl yV_X7_thrown wML_L_154 rfl 1 rfl rfl rfl rfl (nle rfl) (nle rfl) (nle rfl) (rmc hcC (by omega)) (rmc hsC (by omega)) dL_law_1913 ?_
    refine x_iload C 1 rfl dL_law_1916 ?_
    refine x_icmp_eq C 1923 (by decide) dL_law_1918 (fun _ => ?_) (fun hz => absurd e1 hz)
    refine x_iload C 1 rfl dL_law_1923 ?_
    refine x_if_ne C 1940 (by decide) dL_law_1925 (fun _ => ?_) (fun hz => absurd hz (cd0 hcd))
    refine x_goto C 3131 (by decide) dL_law_1940 ?_
    refine x_lv [(4, .int (nI i)), (3, .ref ao), (2, .ref (am 0)), (1, .ref (ap 0)), (0, .ref b)] [2, 3, 4, 5, 6] rfl ?_
    refine x_wid (k := cells + 40) (n := slots + 300) (by omega) (by omega) ?_
    exact K r po pn pl tx rp rl rs rm rn rz sv mm u fi t2 (sp_X7_aim_dm u dm (xs (i + 1))) (sp_X7_aim_th (xs (i + 1))) sa ln pa le sk nu h fo e3
set_option maxRecDepth 100000 in
set_option maxHeartbeats 2000000 in
theorem c_29 {p : Program} {l : Launch} {e : Env} {s : State} {m : MethodId} {args : Array Value} {below : List Frame} {meth : Method} {c : Code} {cells slots : Nat} {Q : State → Prop} {nm : String} {g : xGt} {A : Nat → Prop} {b L i : Nat} {xs : Nat → Int32} {ap ad am : Nat → Nat} {ao : Nat} {r : xR} {po : Int32} {pn : Int32} {pl : Int32} {tx : Nat → Int32} {rp : Int32} {rl : Int32} {rs : Int32} {rm : Int32} {rn : Int32} {rz : Int32} {sv : xPl} {mm : xPl} {u : Nat → Int32} {fi : Nat → Int32} {t2 : Nat → Int32} {dm : Nat → Int32} {th : Int32} {sa : Int32} {ln : Int32} {pa : Int32} {le : Int32} {sk : Int32} {nu : Int32} {h : Int64} {fo : Nat → Int64} (C : xC p l s m args meth c cL_law 9 RL nm g.1 (xT g) A) (hX : va_X b L xs s s.heap) (hbl : b < s.heap.size) (hbA : ¬ A b) (hi : i + 6 ≤ L) (hL : L ≤ 3072) (hcC : cells + 40 ≤ room_1.cells) (hsC : slots + 300 ≤ room_1.slots) (H : RI r po pn pl tx sv mm u fi t2 sa ln) (K : LK p l e s m args below meth c g A ap ad am ao b i (cells + 40) (slots + 300) Q) : xW p l e room_1 s m args below meth c g.1 A 9 cells slots Q (wLaw g ap ad am ao r po pn pl tx rp rl rs rm rn rz sv mm u fi t2 dm th sa ln pa le sk nu h fo) [(4, .int (nI i)), (3, .ref ao), (2, .ref (am 0)), (1, .ref (ap 0)), (0, .ref b)] 1943 [] := by
  refine x_ws (ws' := ((wOu g ao fo) ++ ((wMo g am u fi t2 dm th sa ln pa le sk nu h) ++ (wCl g ap ad r po pn pl tx rp rl rs rm rn rz sv mm)))) rfl ?_
  refine x_aload_n C 3 rfl rfl dL_law_1943 ?_
  refine x_aload_n C 4 rfl rfl dL_law_1944 ?_
  refine x_iload C 0 rfl dL_law_1945 ?_
  refine x_iconst C 1 (by decide) dL_law_1947 ?_
  refine x_iaddN C i 1 rfl rfl dL_law_1948 ?_
  refine x_sld C (i + 1) hX hbl hbA rfl (by omega) (by omega) dL_law_1949 ?_
  refine x_aload_n C 1 rfl rfl dL_law_1950 ?_
  refine x_callL (X := (wOu g ao fo)) (Y := (wMo g am u fi t2 dm th sa ln pa le sk nu h)) (Z := (wCl g ap ad r po pn pl tx rp rl rs rm rn rz sv mm)) [.ref (ap 0), .int (xs (i + 1)), .ref ao] [] C (k_L_excess l g ao fo ap ad r po pn pl tx rp rl rs rm rn rz sv mm (xs (i + 1)) H.clo) yH_L_excess wML_L_251 rfl rfl rfl (nle rfl) (nle rfl) (nle rfl) (rmc hcC (by omega)) (rmc hsC (by omega)) dL_law_1951 (fun r0 w0 h0 => ?_)
  have hP := P_excess r po pn pl tx rp rl rs rm rn rz sv mm u fi t2 dm th sa ln pa le sk nu h (xs (i + 1)) H
  rcases h0 with ⟨h1, rfl, w8, hw, rfl⟩ | ⟨E, cd, h1, hcd, rfl, rfl⟩
  · obtain rfl := hw
    obtain ⟨e1, e2, e3⟩ := hP.1 h1
    refine x_perm (ws' := ((wOu g ao (vp_updL fo 0 (Int32.toInt64 (sp_X6_excess r (xs (i + 1)))))) ++ ((wMo g am u fi t2 dm th sa ln pa le sk nu h) ++ (wCl g ap ad (r.set_dq (sp_cdm r.kp r.ke r.kr r.kt r.kh r.kc r.xn r.xs r.xv r.xh r.xo r.xc r.dq 6)) po pn pl tx rp rl rs rm rn rz sv mm)))) (List.perm_append_comm_assoc (wMo g am u fi t2 dm th sa ln pa le sk nu h) (wOu g ao (vp_updL fo 0 (Int32.toInt64 (sp_X6_excess r (xs (i + 1)))))) (wCl g ap ad (r.set_dq (sp_cdm r.kp r.ke r.kr r.kt r.kh r.kc r.xn r.xs r.xv r.xh r.xo r.xc r.dq 6)) po pn pl tx rp rl rs rm rn rz sv mm)) ?_
    refine x_st (st' := [.int 0]) rfl ?_
    refine x_istore C [(5, .int 0), (4, .int (nI i)), (3, .ref ao), (2, .ref (am 0)), (1, .ref (ap 0)), (0, .ref b)] rfl (by decide) dL_law_1954 ?_
    refine x_aload_n C 3 rfl rfl dL_law_1956 ?_
    refine x_aload_n C 5 rfl rfl dL_law_1957 ?_
    refine x_iload C 1 rfl dL_law_1958 ?_
    refine x_iconst C 1 (by decide) dL_law_1960 ?_
    refine x_iaddN C i 1 rfl rfl dL_law_1961 ?_
    refine x_sld C (i + 1) hX hbl hbA rfl (by omega) (by omega) dL_law_1962 ?_
    refine x_FV (w1 := (wOu g ao (vp_updL fo 0 (Int32.toInt64 (sp_X6_excess r (xs (i + 1))))))) (wc := (wMo g am u fi t2 dm th sa ln pa le sk nu h)) (w2 := (wCl g ap ad (r.set_dq (sp_cdm r.kp r.ke r.kr r.kt r.kh r.kc r.xn r.xs r.xv r.xh r.xo r.xc r.dq 6)) po pn pl tx rp rl rs rm rn rz sv mm)) [.int (xs (i + 1))] [] ((wOu g ao (vp_updL fo 0 (Int32.toInt64 (sp_X6_excess r (xs (i + 1)))))) ++ ((wMo g am u fi t2 (sp_X7_excess_dm u dm (xs (i + 1))) (sp_X7_excess_th (xs (i + 1))) sa ln pa le sk nu h) ++ (wCl g ap ad (r.set_dq (sp_cdm r.kp r.ke r.kr r.kt r.kh r.kc r.xn r.xs r.xv r.xh r.xo r.xc r.dq 6)) po pn pl tx rp rl rs rm rn rz sv mm))) C (k_X7_excess l g am u fi t2 dm th sa ln pa le sk nu h (xs (i + 1)) H.hs H.hs6 H.hm) rfl yV_X7_excess wML_L_253 rfl 1 rfl rfl rfl rfl (nle rfl) (nle rfl) (nle rfl) (rmc hcC (by omega)) (rmc hsC (by omega)) dL_law_1963 ?_
    refine x_istore C [(6, .int (sp_X7_excess u dm (xs (i + 1)))), (5, .int 0), (4, .int (nI i)), (3, .ref ao), (2, .ref (am 0)), (1, .ref (ap 0)), (0, .ref b)] rfl (by decide) dL_law_1966 ?_
    refine x_aload_n C 4 rfl rfl dL_law_1968 ?_
    refine x_FV (w1 := (wOu g ao (vp_updL fo 0 (Int32.toInt64 (sp_X6_excess r (xs (i + 1))))))) (wc := (wMo g am u fi t2 (sp_X7_excess_dm u dm (xs (i + 1))) (sp_X7_excess_th (xs (i + 1))) sa ln pa le sk nu h)) (w2 := (wCl g ap ad (r.set_dq (sp_cdm r.kp r.ke r.kr r.kt r.kh r.kc r.xn r.xs r.xv r.xh r.xo r.xc r.dq 6)) po pn pl tx rp rl rs rm rn rz sv mm)) [] [] ((wOu g ao (vp_updL fo 0 (Int32.toInt64 (sp_X6_excess r (xs (i + 1)))))) ++ ((wMo g am u fi t2 (sp_X7_excess_dm u dm (xs (i + 1))) (sp_X7_excess_th (xs (i + 1))) sa ln pa le sk nu h) ++ (wCl g ap ad (r.set_dq (sp_cdm r.kp r.ke r.kr r.kt r.kh r.kc r.xn r.xs r.xv r.xh r.xo r.xc r.dq 6)) po pn pl tx rp rl rs rm rn rz sv mm))) C (k_X7_thrown l g am u fi t2 (sp_X7_excess_dm u dm (xs (i + 1))) (sp_X7_excess_th (xs (i + 1))) sa ln pa le sk nu h) rfl yV_X7_thrown wML_L_154 rfl 1 rfl rfl rfl rfl (nle rfl) (nle rfl) (nle rfl) (rmc hcC (by omega)) (rmc hsC (by omega)) dL_law_1969 ?_
    refine x_iload C 1 rfl dL_law_1972 ?_
    refine x_icmp_eq C 1979 (by decide) dL_law_1974 (fun _ => ?_) (fun hz => absurd e1 hz)
    refine x_iload C 1 rfl dL_law_1979 ?_
    refine x_if_ne C 1996 (by decide) dL_law_1981 (fun hz => absurd (by decide) hz) (fun _ => ?_)
    refine x_aload_n C 3 rfl rfl dL_law_1984 ?_
    refine x_iconst C 0 (by decide) dL_law_1985 ?_
    refine x_lald (f := (vp_updL fo 0 (Int32.toInt64 (sp_X6_excess r (xs (i + 1)))))) C 0 3 rfl rfl in1 dL_law_1986 ?_
    refine x_st (st' := [.long (Int32.toInt64 (sp_X6_excess r (xs (i + 1))))]) rfl ?_
    refine x_iload C 0 rfl dL_law_1987 ?_
    refine x_i2l C dL_law_1989 ?_
    refine x_lcmp C dL_law_1990 ?_
    refine x_if_eq C 1996 (by decide) dL_law_1991 (fun _ => ?_) (fun hz => absurd (lgz (congrArg Int32.toInt64 e2)) hz)
    refine x_goto C 3131 (by decide) dL_law_1996 ?_
    refine x_lv [(4, .int (nI i)), (3, .ref ao), (2, .ref (am 0)), (1, .ref (ap 0)), (0, .ref b)] [2, 3, 4, 5, 6] rfl ?_
    refine x_wid (k := cells + 40) (n := slots + 300) (by omega) (by omega) ?_
    exact K (r.set_dq (sp_cdm r.kp r.ke r.kr r.kt r.kh r.kc r.xn r.xs r.xv r.xh r.xo r.xc r.dq 6)) po pn pl tx rp rl rs rm rn rz sv mm u fi t2 (sp_X7_excess_dm u dm (xs (i + 1))) (sp_X7_excess_th (xs (i + 1))) sa ln pa le sk nu h (vp_updL fo 0 (Int32.toInt64 (sp_X6_excess r (xs (i + 1))))) e3
  · obtain ⟨e1, e3⟩ := hP.2 E cd h1 hcd
    refine x_perm (ws' := ((wOu g ao fo) ++ ((wMo g am u fi t2 dm th sa ln pa le sk nu h) ++ (wCl g ap ad r po pn pl tx rp rl rs rm rn rz sv mm)))) (List.perm_append_comm_assoc (wMo g am u fi t2 dm th sa ln pa le sk nu h) (wOu g ao fo) (wCl g ap ad r po pn pl tx rp rl rs rm rn rz sv mm)) ?_
    refine x_st (st' := [.int cd]) rfl ?_
    refine x_istore C [(5, .int cd), (4, .int (nI i)), (3, .ref ao), (2, .ref (am 0)), (1, .ref (ap 0)), (0, .ref b)] rfl (by decide) dL_law_1954 ?_
    refine x_aload_n C 3 rfl rfl dL_law_1956 ?_
    refine x_aload_n C 5 rfl rfl dL_law_1957 ?_
    refine x_iload C 1 rfl dL_law_1958 ?_
    refine x_iconst C 1 (by decide) dL_law_1960 ?_
    refine x_iaddN C i 1 rfl rfl dL_law_1961 ?_
    refine x_sld C (i + 1) hX hbl hbA rfl (by omega) (by omega) dL_law_1962 ?_
    refine x_FV (w1 := (wOu g ao fo)) (wc := (wMo g am u fi t2 dm th sa ln pa le sk nu h)) (w2 := (wCl g ap ad r po pn pl tx rp rl rs rm rn rz sv mm)) [.int (xs (i + 1))] [] ((wOu g ao fo) ++ ((wMo g am u fi t2 (sp_X7_excess_dm u dm (xs (i + 1))) (sp_X7_excess_th (xs (i + 1))) sa ln pa le sk nu h) ++ (wCl g ap ad r po pn pl tx rp rl rs rm rn rz sv mm))) C (k_X7_excess l g am u fi t2 dm th sa ln pa le sk nu h (xs (i + 1)) H.hs H.hs6 H.hm) rfl yV_X7_excess wML_L_253 rfl 1 rfl rfl rfl rfl (nle rfl) (nle rfl) (nle rfl) (rmc hcC (by omega)) (rmc hsC (by omega)) dL_law_1963 ?_
    refine x_istore C [(6, .int (sp_X7_excess u dm (xs (i + 1)))), (5, .int cd), (4, .int (nI i)), (3, .ref ao), (2, .ref (am 0)), (1, .ref (ap 0)), (0, .ref b)] rfl (by decide) dL_law_1966 ?_
    refine x_aload_n C 4 rfl rfl dL_law_1968 ?_
    refine x_FV (w1 := (wOu g ao fo)) (wc := (wMo g am u fi t2 (sp_X7_excess_dm u dm (xs (i + 1))) (sp_X7_excess_th (xs (i + 1))) sa ln pa le sk nu h)) (w2 := (wCl g ap ad r po pn pl tx rp rl rs rm rn rz sv mm)) [] [] ((wOu g ao fo) ++ ((wMo g am u fi t2 (sp_X7_excess_dm u dm (xs (i + 1))) (sp_X7_excess_th (xs (i + 1))) sa ln pa le sk nu h) ++ (wCl g ap ad r po pn pl tx rp rl rs rm rn rz sv mm))) C (k_X7_thrown l g am u fi t2 (sp_X7_excess_dm u dm (xs (i + 1))) (sp_X7_excess_th (xs (i + 1))) sa ln pa le sk nu h) rfl yV_X7_thrown wML_L_154 rfl 1 rfl rfl rfl rfl (nle rfl) (nle rfl) (nle rfl) (rmc hcC (by omega)) (rmc hsC (by omega)) dL_law_1969 ?_
    refine x_iload C 1 rfl dL_law_1972 ?_
    refine x_icmp_eq C 1979 (by decide) dL_law_1974 (fun _ => ?_) (fun hz => absurd e1 hz)
    refine x_iload C 1 rfl dL_law_1979 ?_
    refine x_if_ne C 1996 (by decide) dL_law_1981 (fun _ => ?_) (fun hz => absurd hz (cd0 hcd))
    refine x_goto C 3131 (by decide) dL_law_1996 ?_
    refine x_lv [(4, .int (nI i)), (3, .ref ao), (2, .ref (am 0)), (1, .ref (ap 0)), (0, .ref b)] [2, 3, 4, 5, 6] rfl ?_
    refine x_wid (k := cells + 40) (n := slots + 300) (by omega) (by omega) ?_
    exact K r po pn pl tx rp rl rs rm rn rz sv mm u fi t2 (sp_X7_excess_dm u dm (xs (i + 1))) (sp_X7_excess_th (xs (i + 1))) sa ln pa le sk nu h fo e3
set_option maxRecDepth 100000 in
set_option maxHeartbeats 2000000 in
theorem c_30 {p : Program} {l : Launch} {e : Env} {s : State} {m : MethodId} {args : Array Value} {below : List Frame} {meth : Method} {c : Code} {cells slots : Nat} {Q : State → Prop} {nm : String} {g : xGt} {A : Nat → Prop} {b L i : Nat} {xs : Nat → Int32} {ap ad am : Nat → Nat} {ao : Nat} {r : xR} {po : Int32} {pn : Int32} {pl : Int32} {tx : Nat → Int32} {rp : Int32} {rl : Int32} {rs : Int32} {rm : Int32} {rn : Int32} {rz : Int32} {sv : xPl} {mm : xPl} {u : Nat → Int32} {fi : Nat → Int32} {t2 : Nat → Int32} {dm : Nat → Int32} {th : Int32} {sa : Int32} {ln : Int32} {pa : Int32} {le : Int32} {sk : Int32} {nu : Int32} {h : Int64} {fo : Nat → Int64} (C : xC p l s m args meth c cL_law 9 RL nm g.1 (xT g) A) (hX : va_X b L xs s s.heap) (hbl : b < s.heap.size) (hbA : ¬ A b) (hi : i + 6 ≤ L) (hL : L ≤ 3072) (hcC : cells + 40 ≤ room_1.cells) (hsC : slots + 300 ≤ room_1.slots) (H : RI r po pn pl tx sv mm u fi t2 sa ln) (K : LK p l e s m args below meth c g A ap ad am ao b i (cells + 40) (slots + 300) Q) : xW p l e room_1 s m args below meth c g.1 A 9 cells slots Q (wLaw g ap ad am ao r po pn pl tx rp rl rs rm rn rz sv mm u fi t2 dm th sa ln pa le sk nu h fo) [(4, .int (nI i)), (3, .ref ao), (2, .ref (am 0)), (1, .ref (ap 0)), (0, .ref b)] 1999 [] := by
  refine x_ws (ws' := ((wOu g ao fo) ++ ((wMo g am u fi t2 dm th sa ln pa le sk nu h) ++ (wCl g ap ad r po pn pl tx rp rl rs rm rn rz sv mm)))) rfl ?_
  refine x_aload_n C 3 rfl rfl dL_law_1999 ?_
  refine x_aload_n C 4 rfl rfl dL_law_2000 ?_
  refine x_iload C 0 rfl dL_law_2001 ?_
  refine x_iconst C 1 (by decide) dL_law_2003 ?_
  refine x_iaddN C i 1 rfl rfl dL_law_2004 ?_
  refine x_sld C (i + 1) hX hbl hbA rfl (by omega) (by omega) dL_law_2005 ?_
  refine x_aload_n C 1 rfl rfl dL_law_2006 ?_
  refine x_callL (X := (wOu g ao fo)) (Y := (wMo g am u fi t2 dm th sa ln pa le sk nu h)) (Z := (wCl g ap ad r po pn pl tx rp rl rs rm rn rz sv mm)) [.ref (ap 0), .int (xs (i + 1)), .ref ao] [] C (k_L_target l g ao fo ap ad r po pn pl tx rp rl rs rm rn rz sv mm (xs (i + 1)) H.clo) yH_L_target wML_L_254 rfl rfl rfl (nle rfl) (nle rfl) (nle rfl) (rmc hcC (by omega)) (rmc hsC (by omega)) dL_law_2007 (fun r0 w0 h0 => ?_)
  have hP := P_target r po pn pl tx rp rl rs rm rn rz sv mm u fi t2 dm th sa ln pa le sk nu h (xs (i + 1)) H
  rcases h0 with ⟨h1, rfl, w8, hw, rfl⟩ | ⟨E, cd, h1, hcd, rfl, rfl⟩
  · obtain rfl := hw
    obtain ⟨e1, e2, e3⟩ := hP.1 h1
    refine x_perm (ws' := ((wOu g ao (vp_updL fo 0 (Int32.toInt64 (r.vt (Int32.toNatClampNeg (xs (i + 1))))))) ++ ((wMo g am u fi t2 dm th sa ln pa le sk nu h) ++ (wCl g ap ad r po pn pl tx rp rl rs rm rn rz sv mm)))) (List.perm_append_comm_assoc (wMo g am u fi t2 dm th sa ln pa le sk nu h) (wOu g ao (vp_updL fo 0 (Int32.toInt64 (r.vt (Int32.toNatClampNeg (xs (i + 1))))))) (wCl g ap ad r po pn pl tx rp rl rs rm rn rz sv mm)) ?_
    refine x_st (st' := [.int 0]) rfl ?_
    refine x_istore C [(5, .int 0), (4, .int (nI i)), (3, .ref ao), (2, .ref (am 0)), (1, .ref (ap 0)), (0, .ref b)] rfl (by decide) dL_law_2010 ?_
    refine x_aload_n C 3 rfl rfl dL_law_2012 ?_
    refine x_aload_n C 5 rfl rfl dL_law_2013 ?_
    refine x_iload C 1 rfl dL_law_2014 ?_
    refine x_iconst C 1 (by decide) dL_law_2016 ?_
    refine x_iaddN C i 1 rfl rfl dL_law_2017 ?_
    refine x_sld C (i + 1) hX hbl hbA rfl (by omega) (by omega) dL_law_2018 ?_
    refine x_FV (w1 := (wOu g ao (vp_updL fo 0 (Int32.toInt64 (r.vt (Int32.toNatClampNeg (xs (i + 1)))))))) (wc := (wMo g am u fi t2 dm th sa ln pa le sk nu h)) (w2 := (wCl g ap ad r po pn pl tx rp rl rs rm rn rz sv mm)) [.int (xs (i + 1))] [] ((wOu g ao (vp_updL fo 0 (Int32.toInt64 (r.vt (Int32.toNatClampNeg (xs (i + 1))))))) ++ ((wMo g am u fi t2 dm (sp_X7_target_th (xs (i + 1))) sa ln pa le sk nu h) ++ (wCl g ap ad r po pn pl tx rp rl rs rm rn rz sv mm))) C (k_X7_target l g am u fi t2 dm th sa ln pa le sk nu h (xs (i + 1)) H.hs H.hs6 H.hm) rfl yV_X7_target wML_L_256 rfl 1 rfl rfl rfl rfl (nle rfl) (nle rfl) (nle rfl) (rmc hcC (by omega)) (rmc hsC (by omega)) dL_law_2019 ?_
    refine x_istore C [(6, .int (sp_X7_target u (xs (i + 1)))), (5, .int 0), (4, .int (nI i)), (3, .ref ao), (2, .ref (am 0)), (1, .ref (ap 0)), (0, .ref b)] rfl (by decide) dL_law_2022 ?_
    refine x_aload_n C 4 rfl rfl dL_law_2024 ?_
    refine x_FV (w1 := (wOu g ao (vp_updL fo 0 (Int32.toInt64 (r.vt (Int32.toNatClampNeg (xs (i + 1)))))))) (wc := (wMo g am u fi t2 dm (sp_X7_target_th (xs (i + 1))) sa ln pa le sk nu h)) (w2 := (wCl g ap ad r po pn pl tx rp rl rs rm rn rz sv mm)) [] [] ((wOu g ao (vp_updL fo 0 (Int32.toInt64 (r.vt (Int32.toNatClampNeg (xs (i + 1))))))) ++ ((wMo g am u fi t2 dm (sp_X7_target_th (xs (i + 1))) sa ln pa le sk nu h) ++ (wCl g ap ad r po pn pl tx rp rl rs rm rn rz sv mm))) C (k_X7_thrown l g am u fi t2 dm (sp_X7_target_th (xs (i + 1))) sa ln pa le sk nu h) rfl yV_X7_thrown wML_L_154 rfl 1 rfl rfl rfl rfl (nle rfl) (nle rfl) (nle rfl) (rmc hcC (by omega)) (rmc hsC (by omega)) dL_law_2025 ?_
    refine x_iload C 1 rfl dL_law_2028 ?_
    refine x_icmp_eq C 2035 (by decide) dL_law_2030 (fun _ => ?_) (fun hz => absurd e1 hz)
    refine x_iload C 1 rfl dL_law_2035 ?_
    refine x_if_ne C 2052 (by decide) dL_law_2037 (fun hz => absurd (by decide) hz) (fun _ => ?_)
    refine x_aload_n C 3 rfl rfl dL_law_2040 ?_
    refine x_iconst C 0 (by decide) dL_law_2041 ?_
    refine x_lald (f := (vp_updL fo 0 (Int32.toInt64 (r.vt (Int32.toNatClampNeg (xs (i + 1))))))) C 0 3 rfl rfl in1 dL_law_2042 ?_
    refine x_st (st' := [.long (Int32.toInt64 (r.vt (Int32.toNatClampNeg (xs (i + 1)))))]) rfl ?_
    refine x_iload C 0 rfl dL_law_2043 ?_
    refine x_i2l C dL_law_2045 ?_
    refine x_lcmp C dL_law_2046 ?_
    refine x_if_eq C 2052 (by decide) dL_law_2047 (fun _ => ?_) (fun hz => absurd (lgz (congrArg Int32.toInt64 e2)) hz)
    refine x_goto C 3131 (by decide) dL_law_2052 ?_
    refine x_lv [(4, .int (nI i)), (3, .ref ao), (2, .ref (am 0)), (1, .ref (ap 0)), (0, .ref b)] [2, 3, 4, 5, 6] rfl ?_
    refine x_wid (k := cells + 40) (n := slots + 300) (by omega) (by omega) ?_
    exact K r po pn pl tx rp rl rs rm rn rz sv mm u fi t2 dm (sp_X7_target_th (xs (i + 1))) sa ln pa le sk nu h (vp_updL fo 0 (Int32.toInt64 (r.vt (Int32.toNatClampNeg (xs (i + 1)))))) e3
  · obtain ⟨e1, e3⟩ := hP.2 E cd h1 hcd
    refine x_perm (ws' := ((wOu g ao fo) ++ ((wMo g am u fi t2 dm th sa ln pa le sk nu h) ++ (wCl g ap ad r po pn pl tx rp rl rs rm rn rz sv mm)))) (List.perm_append_comm_assoc (wMo g am u fi t2 dm th sa ln pa le sk nu h) (wOu g ao fo) (wCl g ap ad r po pn pl tx rp rl rs rm rn rz sv mm)) ?_
    refine x_st (st' := [.int cd]) rfl ?_
    refine x_istore C [(5, .int cd), (4, .int (nI i)), (3, .ref ao), (2, .ref (am 0)), (1, .ref (ap 0)), (0, .ref b)] rfl (by decide) dL_law_2010 ?_
    refine x_aload_n C 3 rfl rfl dL_law_2012 ?_
    refine x_aload_n C 5 rfl rfl dL_law_2013 ?_
    refine x_iload C 1 rfl dL_law_2014 ?_
    refine x_iconst C 1 (by decide) dL_law_2016 ?_
    refine x_iaddN C i 1 rfl rfl dL_law_2017 ?_
    refine x_sld C (i + 1) hX hbl hbA rfl (by omega) (by omega) dL_law_2018 ?_
    refine x_FV (w1 := (wOu g ao fo)) (wc := (wMo g am u fi t2 dm th sa ln pa le sk nu h)) (w2 := (wCl g ap ad r po pn pl tx rp rl rs rm rn rz sv mm)) [.int (xs (i + 1))] [] ((wOu g ao fo) ++ ((wMo g am u fi t2 dm (sp_X7_target_th (xs (i + 1))) sa ln pa le sk nu h) ++ (wCl g ap ad r po pn pl tx rp rl rs rm rn rz sv mm))) C (k_X7_target l g am u fi t2 dm th sa ln pa le sk nu h (xs (i + 1)) H.hs H.hs6 H.hm) rfl yV_X7_target wML_L_256 rfl 1 rfl rfl rfl rfl (nle rfl) (nle rfl) (nle rfl) (rmc hcC (by omega)) (rmc hsC (by omega)) dL_law_2019 ?_
    refine x_istore C [(6, .int (sp_X7_target u (xs (i + 1)))), (5, .int cd), (4, .int (nI i)), (3, .ref ao), (2, .ref (am 0)), (1, .ref (ap 0)), (0, .ref b)] rfl (by decide) dL_law_2022 ?_
    refine x_aload_n C 4 rfl rfl dL_law_2024 ?_
    refine x_FV (w1 := (wOu g ao fo)) (wc := (wMo g am u fi t2 dm (sp_X7_target_th (xs (i + 1))) sa ln pa le sk nu h)) (w2 := (wCl g ap ad r po pn pl tx rp rl rs rm rn rz sv mm)) [] [] ((wOu g ao fo) ++ ((wMo g am u fi t2 dm (sp_X7_target_th (xs (i + 1))) sa ln pa le sk nu h) ++ (wCl g ap ad r po pn pl tx rp rl rs rm rn rz sv mm))) C (k_X7_thrown l g am u fi t2 dm (sp_X7_target_th (xs (i + 1))) sa ln pa le sk nu h) rfl yV_X7_thrown wML_L_154 rfl 1 rfl rfl rfl rfl (nle rfl) (nle rfl) (nle rfl) (rmc hcC (by omega)) (rmc hsC (by omega)) dL_law_2025 ?_
    refine x_iload C 1 rfl dL_law_2028 ?_
    refine x_icmp_eq C 2035 (by decide) dL_law_2030 (fun _ => ?_) (fun hz => absurd e1 hz)
    refine x_iload C 1 rfl dL_law_2035 ?_
    refine x_if_ne C 2052 (by decide) dL_law_2037 (fun _ => ?_) (fun hz => absurd hz (cd0 hcd))
    refine x_goto C 3131 (by decide) dL_law_2052 ?_
    refine x_lv [(4, .int (nI i)), (3, .ref ao), (2, .ref (am 0)), (1, .ref (ap 0)), (0, .ref b)] [2, 3, 4, 5, 6] rfl ?_
    refine x_wid (k := cells + 40) (n := slots + 300) (by omega) (by omega) ?_
    exact K r po pn pl tx rp rl rs rm rn rz sv mm u fi t2 dm (sp_X7_target_th (xs (i + 1))) sa ln pa le sk nu h fo e3
set_option maxRecDepth 100000 in
set_option maxHeartbeats 2000000 in
theorem c_31 {p : Program} {l : Launch} {e : Env} {s : State} {m : MethodId} {args : Array Value} {below : List Frame} {meth : Method} {c : Code} {cells slots : Nat} {Q : State → Prop} {nm : String} {g : xGt} {A : Nat → Prop} {b L i : Nat} {xs : Nat → Int32} {ap ad am : Nat → Nat} {ao : Nat} {r : xR} {po : Int32} {pn : Int32} {pl : Int32} {tx : Nat → Int32} {rp : Int32} {rl : Int32} {rs : Int32} {rm : Int32} {rn : Int32} {rz : Int32} {sv : xPl} {mm : xPl} {u : Nat → Int32} {fi : Nat → Int32} {t2 : Nat → Int32} {dm : Nat → Int32} {th : Int32} {sa : Int32} {ln : Int32} {pa : Int32} {le : Int32} {sk : Int32} {nu : Int32} {h : Int64} {fo : Nat → Int64} (C : xC p l s m args meth c cL_law 9 RL nm g.1 (xT g) A) (hX : va_X b L xs s s.heap) (hbl : b < s.heap.size) (hbA : ¬ A b) (hi : i + 6 ≤ L) (hL : L ≤ 3072) (hcC : cells + 40 ≤ room_1.cells) (hsC : slots + 300 ≤ room_1.slots) (H : RI r po pn pl tx sv mm u fi t2 sa ln) (K : LK p l e s m args below meth c g A ap ad am ao b i (cells + 40) (slots + 300) Q) : xW p l e room_1 s m args below meth c g.1 A 9 cells slots Q (wLaw g ap ad am ao r po pn pl tx rp rl rs rm rn rz sv mm u fi t2 dm th sa ln pa le sk nu h fo) [(4, .int (nI i)), (3, .ref ao), (2, .ref (am 0)), (1, .ref (ap 0)), (0, .ref b)] 2055 [] := by
  refine x_ws (ws' := ((wOu g ao fo) ++ ((wMo g am u fi t2 dm th sa ln pa le sk nu h) ++ (wCl g ap ad r po pn pl tx rp rl rs rm rn rz sv mm)))) rfl ?_
  refine x_aload_n C 3 rfl rfl dL_law_2055 ?_
  refine x_aload_n C 4 rfl rfl dL_law_2056 ?_
  refine x_iload C 0 rfl dL_law_2057 ?_
  refine x_iconst C 1 (by decide) dL_law_2059 ?_
  refine x_iaddN C i 1 rfl rfl dL_law_2060 ?_
  refine x_sld C (i + 1) hX hbl hbA rfl (by omega) (by omega) dL_law_2061 ?_
  refine x_aload_n C 1 rfl rfl dL_law_2062 ?_
  refine x_callL (X := (wOu g ao fo)) (Y := (wMo g am u fi t2 dm th sa ln pa le sk nu h)) (Z := (wCl g ap ad r po pn pl tx rp rl rs rm rn rz sv mm)) [.ref (ap 0), .int (xs (i + 1)), .ref ao] [] C (k_L_servoPosition l g ao fo ap ad r po pn pl tx rp rl rs rm rn rz sv mm (xs (i + 1)) H.clo) yH_L_servoPosition wML_L_257 rfl rfl rfl (nle rfl) (nle rfl) (nle rfl) (rmc hcC (by omega)) (rmc hsC (by omega)) dL_law_2063 (fun r0 w0 h0 => ?_)
  have hP := P_servoPosition r po pn pl tx rp rl rs rm rn rz sv mm u fi t2 dm th sa ln pa le sk nu h (xs (i + 1)) H
  rcases h0 with ⟨h1, rfl, w8, hw, rfl⟩ | ⟨E, cd, h1, hcd, rfl, rfl⟩
  · obtain rfl := hw
    obtain ⟨e1, e2, e3⟩ := hP.1 h1
    refine x_perm (ws' := ((wOu g ao (vp_updL fo 0 (Int32.toInt64 (r.va (Int32.toNatClampNeg (xs (i + 1))))))) ++ ((wMo g am u fi t2 dm th sa ln pa le sk nu h) ++ (wCl g ap ad r po pn pl tx rp rl rs rm rn rz sv mm)))) (List.perm_append_comm_assoc (wMo g am u fi t2 dm th sa ln pa le sk nu h) (wOu g ao (vp_updL fo 0 (Int32.toInt64 (r.va (Int32.toNatClampNeg (xs (i + 1))))))) (wCl g ap ad r po pn pl tx rp rl rs rm rn rz sv mm)) ?_
    refine x_st (st' := [.int 0]) rfl ?_
    refine x_istore C [(5, .int 0), (4, .int (nI i)), (3, .ref ao), (2, .ref (am 0)), (1, .ref (ap 0)), (0, .ref b)] rfl (by decide) dL_law_2066 ?_
    refine x_aload_n C 3 rfl rfl dL_law_2068 ?_
    refine x_aload_n C 5 rfl rfl dL_law_2069 ?_
    refine x_iload C 1 rfl dL_law_2070 ?_
    refine x_iconst C 1 (by decide) dL_law_2072 ?_
    refine x_iaddN C i 1 rfl rfl dL_law_2073 ?_
    refine x_sld C (i + 1) hX hbl hbA rfl (by omega) (by omega) dL_law_2074 ?_
    refine x_FV (w1 := (wOu g ao (vp_updL fo 0 (Int32.toInt64 (r.va (Int32.toNatClampNeg (xs (i + 1)))))))) (wc := (wMo g am u fi t2 dm th sa ln pa le sk nu h)) (w2 := (wCl g ap ad r po pn pl tx rp rl rs rm rn rz sv mm)) [.int (xs (i + 1))] [] ((wOu g ao (vp_updL fo 0 (Int32.toInt64 (r.va (Int32.toNatClampNeg (xs (i + 1))))))) ++ ((wMo g am u fi t2 dm (sp_X7_servoPosition_th (xs (i + 1))) sa ln pa le sk nu h) ++ (wCl g ap ad r po pn pl tx rp rl rs rm rn rz sv mm))) C (k_X7_servoPosition l g am u fi t2 dm th sa ln pa le sk nu h (xs (i + 1)) H.hs H.hs6 H.hm) rfl yV_X7_servoPosition wML_L_259 rfl 1 rfl rfl rfl rfl (nle rfl) (nle rfl) (nle rfl) (rmc hcC (by omega)) (rmc hsC (by omega)) dL_law_2075 ?_
    refine x_istore C [(6, .int (sp_X7_servoPosition u (xs (i + 1)))), (5, .int 0), (4, .int (nI i)), (3, .ref ao), (2, .ref (am 0)), (1, .ref (ap 0)), (0, .ref b)] rfl (by decide) dL_law_2078 ?_
    refine x_aload_n C 4 rfl rfl dL_law_2080 ?_
    refine x_FV (w1 := (wOu g ao (vp_updL fo 0 (Int32.toInt64 (r.va (Int32.toNatClampNeg (xs (i + 1)))))))) (wc := (wMo g am u fi t2 dm (sp_X7_servoPosition_th (xs (i + 1))) sa ln pa le sk nu h)) (w2 := (wCl g ap ad r po pn pl tx rp rl rs rm rn rz sv mm)) [] [] ((wOu g ao (vp_updL fo 0 (Int32.toInt64 (r.va (Int32.toNatClampNeg (xs (i + 1))))))) ++ ((wMo g am u fi t2 dm (sp_X7_servoPosition_th (xs (i + 1))) sa ln pa le sk nu h) ++ (wCl g ap ad r po pn pl tx rp rl rs rm rn rz sv mm))) C (k_X7_thrown l g am u fi t2 dm (sp_X7_servoPosition_th (xs (i + 1))) sa ln pa le sk nu h) rfl yV_X7_thrown wML_L_154 rfl 1 rfl rfl rfl rfl (nle rfl) (nle rfl) (nle rfl) (rmc hcC (by omega)) (rmc hsC (by omega)) dL_law_2081 ?_
    refine x_iload C 1 rfl dL_law_2084 ?_
    refine x_icmp_eq C 2091 (by decide) dL_law_2086 (fun _ => ?_) (fun hz => absurd e1 hz)
    refine x_iload C 1 rfl dL_law_2091 ?_
    refine x_if_ne C 2108 (by decide) dL_law_2093 (fun hz => absurd (by decide) hz) (fun _ => ?_)
    refine x_aload_n C 3 rfl rfl dL_law_2096 ?_
    refine x_iconst C 0 (by decide) dL_law_2097 ?_
    refine x_lald (f := (vp_updL fo 0 (Int32.toInt64 (r.va (Int32.toNatClampNeg (xs (i + 1))))))) C 0 3 rfl rfl in1 dL_law_2098 ?_
    refine x_st (st' := [.long (Int32.toInt64 (r.va (Int32.toNatClampNeg (xs (i + 1)))))]) rfl ?_
    refine x_iload C 0 rfl dL_law_2099 ?_
    refine x_i2l C dL_law_2101 ?_
    refine x_lcmp C dL_law_2102 ?_
    refine x_if_eq C 2108 (by decide) dL_law_2103 (fun _ => ?_) (fun hz => absurd (lgz (congrArg Int32.toInt64 e2)) hz)
    refine x_goto C 3131 (by decide) dL_law_2108 ?_
    refine x_lv [(4, .int (nI i)), (3, .ref ao), (2, .ref (am 0)), (1, .ref (ap 0)), (0, .ref b)] [2, 3, 4, 5, 6] rfl ?_
    refine x_wid (k := cells + 40) (n := slots + 300) (by omega) (by omega) ?_
    exact K r po pn pl tx rp rl rs rm rn rz sv mm u fi t2 dm (sp_X7_servoPosition_th (xs (i + 1))) sa ln pa le sk nu h (vp_updL fo 0 (Int32.toInt64 (r.va (Int32.toNatClampNeg (xs (i + 1)))))) e3
  · obtain ⟨e1, e3⟩ := hP.2 E cd h1 hcd
    refine x_perm (ws' := ((wOu g ao fo) ++ ((wMo g am u fi t2 dm th sa ln pa le sk nu h) ++ (wCl g ap ad r po pn pl tx rp rl rs rm rn rz sv mm)))) (List.perm_append_comm_assoc (wMo g am u fi t2 dm th sa ln pa le sk nu h) (wOu g ao fo) (wCl g ap ad r po pn pl tx rp rl rs rm rn rz sv mm)) ?_
    refine x_st (st' := [.int cd]) rfl ?_
    refine x_istore C [(5, .int cd), (4, .int (nI i)), (3, .ref ao), (2, .ref (am 0)), (1, .ref (ap 0)), (0, .ref b)] rfl (by decide) dL_law_2066 ?_
    refine x_aload_n C 3 rfl rfl dL_law_2068 ?_
    refine x_aload_n C 5 rfl rfl dL_law_2069 ?_
    refine x_iload C 1 rfl dL_law_2070 ?_
    refine x_iconst C 1 (by decide) dL_law_2072 ?_
    refine x_iaddN C i 1 rfl rfl dL_law_2073 ?_
    refine x_sld C (i + 1) hX hbl hbA rfl (by omega) (by omega) dL_law_2074 ?_
    refine x_FV (w1 := (wOu g ao fo)) (wc := (wMo g am u fi t2 dm th sa ln pa le sk nu h)) (w2 := (wCl g ap ad r po pn pl tx rp rl rs rm rn rz sv mm)) [.int (xs (i + 1))] [] ((wOu g ao fo) ++ ((wMo g am u fi t2 dm (sp_X7_servoPosition_th (xs (i + 1))) sa ln pa le sk nu h) ++ (wCl g ap ad r po pn pl tx rp rl rs rm rn rz sv mm))) C (k_X7_servoPosition l g am u fi t2 dm th sa ln pa le sk nu h (xs (i + 1)) H.hs H.hs6 H.hm) rfl yV_X7_servoPosition wML_L_259 rfl 1 rfl rfl rfl rfl (nle rfl) (nle rfl) (nle rfl) (rmc hcC (by omega)) (rmc hsC (by omega)) dL_law_2075 ?_
    refine x_istore C [(6, .int (sp_X7_servoPosition u (xs (i + 1)))), (5, .int cd), (4, .int (nI i)), (3, .ref ao), (2, .ref (am 0)), (1, .ref (ap 0)), (0, .ref b)] rfl (by decide) dL_law_2078 ?_
    refine x_aload_n C 4 rfl rfl dL_law_2080 ?_
    refine x_FV (w1 := (wOu g ao fo)) (wc := (wMo g am u fi t2 dm (sp_X7_servoPosition_th (xs (i + 1))) sa ln pa le sk nu h)) (w2 := (wCl g ap ad r po pn pl tx rp rl rs rm rn rz sv mm)) [] [] ((wOu g ao fo) ++ ((wMo g am u fi t2 dm (sp_X7_servoPosition_th (xs (i + 1))) sa ln pa le sk nu h) ++ (wCl g ap ad r po pn pl tx rp rl rs rm rn rz sv mm))) C (k_X7_thrown l g am u fi t2 dm (sp_X7_servoPosition_th (xs (i + 1))) sa ln pa le sk nu h) rfl yV_X7_thrown wML_L_154 rfl 1 rfl rfl rfl rfl (nle rfl) (nle rfl) (nle rfl) (rmc hcC (by omega)) (rmc hsC (by omega)) dL_law_2081 ?_
    refine x_iload C 1 rfl dL_law_2084 ?_
    refine x_icmp_eq C 2091 (by decide) dL_law_2086 (fun _ => ?_) (fun hz => absurd e1 hz)
    refine x_iload C 1 rfl dL_law_2091 ?_
    refine x_if_ne C 2108 (by decide) dL_law_2093 (fun _ => ?_) (fun hz => absurd hz (cd0 hcd))
    refine x_goto C 3131 (by decide) dL_law_2108 ?_
    refine x_lv [(4, .int (nI i)), (3, .ref ao), (2, .ref (am 0)), (1, .ref (ap 0)), (0, .ref b)] [2, 3, 4, 5, 6] rfl ?_
    refine x_wid (k := cells + 40) (n := slots + 300) (by omega) (by omega) ?_
    exact K r po pn pl tx rp rl rs rm rn rz sv mm u fi t2 dm (sp_X7_servoPosition_th (xs (i + 1))) sa ln pa le sk nu h fo e3
set_option maxRecDepth 100000 in
set_option maxHeartbeats 2000000 in
theorem c_32 {p : Program} {l : Launch} {e : Env} {s : State} {m : MethodId} {args : Array Value} {below : List Frame} {meth : Method} {c : Code} {cells slots : Nat} {Q : State → Prop} {nm : String} {g : xGt} {A : Nat → Prop} {b L i : Nat} {xs : Nat → Int32} {ap ad am : Nat → Nat} {ao : Nat} {r : xR} {po : Int32} {pn : Int32} {pl : Int32} {tx : Nat → Int32} {rp : Int32} {rl : Int32} {rs : Int32} {rm : Int32} {rn : Int32} {rz : Int32} {sv : xPl} {mm : xPl} {u : Nat → Int32} {fi : Nat → Int32} {t2 : Nat → Int32} {dm : Nat → Int32} {th : Int32} {sa : Int32} {ln : Int32} {pa : Int32} {le : Int32} {sk : Int32} {nu : Int32} {h : Int64} {fo : Nat → Int64} (C : xC p l s m args meth c cL_law 9 RL nm g.1 (xT g) A) (hX : va_X b L xs s s.heap) (hbl : b < s.heap.size) (hbA : ¬ A b) (hi : i + 6 ≤ L) (hL : L ≤ 3072) (hcC : cells + 40 ≤ room_1.cells) (hsC : slots + 300 ≤ room_1.slots) (H : RI r po pn pl tx sv mm u fi t2 sa ln) (K : LK p l e s m args below meth c g A ap ad am ao b i (cells + 40) (slots + 300) Q) : xW p l e room_1 s m args below meth c g.1 A 9 cells slots Q (wLaw g ap ad am ao r po pn pl tx rp rl rs rm rn rz sv mm u fi t2 dm th sa ln pa le sk nu h fo) [(4, .int (nI i)), (3, .ref ao), (2, .ref (am 0)), (1, .ref (ap 0)), (0, .ref b)] 2111 [] := by
  refine x_ws (ws' := ((wOu g ao fo) ++ ((wMo g am u fi t2 dm th sa ln pa le sk nu h) ++ (wCl g ap ad r po pn pl tx rp rl rs rm rn rz sv mm)))) rfl ?_
  refine x_aload_n C 3 rfl rfl dL_law_2111 ?_
  refine x_aload_n C 4 rfl rfl dL_law_2112 ?_
  refine x_iload C 0 rfl dL_law_2113 ?_
  refine x_iconst C 1 (by decide) dL_law_2115 ?_
  refine x_iaddN C i 1 rfl rfl dL_law_2116 ?_
  refine x_sld C (i + 1) hX hbl hbA rfl (by omega) (by omega) dL_law_2117 ?_
  refine x_aload_n C 1 rfl rfl dL_law_2118 ?_
  refine x_callL (X := (wOu g ao fo)) (Y := (wMo g am u fi t2 dm th sa ln pa le sk nu h)) (Z := (wCl g ap ad r po pn pl tx rp rl rs rm rn rz sv mm)) [.ref (ap 0), .int (xs (i + 1)), .ref ao] [] C (k_L_wear l g ao fo ap ad r po pn pl tx rp rl rs rm rn rz sv mm (xs (i + 1)) H.clo) yH_L_wear wML_L_260 rfl rfl rfl (nle rfl) (nle rfl) (nle rfl) (rmc hcC (by omega)) (rmc hsC (by omega)) dL_law_2119 (fun r0 w0 h0 => ?_)
  have hP := P_wear r po pn pl tx rp rl rs rm rn rz sv mm u fi t2 dm th sa ln pa le sk nu h (xs (i + 1)) H
  rcases h0 with ⟨h1, rfl, w8, hw, rfl⟩ | ⟨E, cd, h1, hcd, rfl, rfl⟩
  · obtain rfl := hw
    obtain ⟨e1, e2, e3⟩ := hP.1 h1
    refine x_perm (ws' := ((wOu g ao (vp_updL fo 0 (Int32.toInt64 (r.vw (Int32.toNatClampNeg (xs (i + 1))))))) ++ ((wMo g am u fi t2 dm th sa ln pa le sk nu h) ++ (wCl g ap ad r po pn pl tx rp rl rs rm rn rz sv mm)))) (List.perm_append_comm_assoc (wMo g am u fi t2 dm th sa ln pa le sk nu h) (wOu g ao (vp_updL fo 0 (Int32.toInt64 (r.vw (Int32.toNatClampNeg (xs (i + 1))))))) (wCl g ap ad r po pn pl tx rp rl rs rm rn rz sv mm)) ?_
    refine x_st (st' := [.int 0]) rfl ?_
    refine x_istore C [(5, .int 0), (4, .int (nI i)), (3, .ref ao), (2, .ref (am 0)), (1, .ref (ap 0)), (0, .ref b)] rfl (by decide) dL_law_2122 ?_
    refine x_aload_n C 3 rfl rfl dL_law_2124 ?_
    refine x_aload_n C 5 rfl rfl dL_law_2125 ?_
    refine x_iload C 1 rfl dL_law_2126 ?_
    refine x_iconst C 1 (by decide) dL_law_2128 ?_
    refine x_iaddN C i 1 rfl rfl dL_law_2129 ?_
    refine x_sld C (i + 1) hX hbl hbA rfl (by omega) (by omega) dL_law_2130 ?_
    refine x_FV (w1 := (wOu g ao (vp_updL fo 0 (Int32.toInt64 (r.vw (Int32.toNatClampNeg (xs (i + 1)))))))) (wc := (wMo g am u fi t2 dm th sa ln pa le sk nu h)) (w2 := (wCl g ap ad r po pn pl tx rp rl rs rm rn rz sv mm)) [.int (xs (i + 1))] [] ((wOu g ao (vp_updL fo 0 (Int32.toInt64 (r.vw (Int32.toNatClampNeg (xs (i + 1))))))) ++ ((wMo g am u fi t2 dm (sp_X7_wear_th (xs (i + 1))) sa ln pa le sk nu h) ++ (wCl g ap ad r po pn pl tx rp rl rs rm rn rz sv mm))) C (k_X7_wear l g am u fi t2 dm th sa ln pa le sk nu h (xs (i + 1)) H.hs H.hs6 H.hm) rfl yV_X7_wear wML_L_262 rfl 1 rfl rfl rfl rfl (nle rfl) (nle rfl) (nle rfl) (rmc hcC (by omega)) (rmc hsC (by omega)) dL_law_2131 ?_
    refine x_istore C [(6, .int (sp_X7_wear u (xs (i + 1)))), (5, .int 0), (4, .int (nI i)), (3, .ref ao), (2, .ref (am 0)), (1, .ref (ap 0)), (0, .ref b)] rfl (by decide) dL_law_2134 ?_
    refine x_aload_n C 4 rfl rfl dL_law_2136 ?_
    refine x_FV (w1 := (wOu g ao (vp_updL fo 0 (Int32.toInt64 (r.vw (Int32.toNatClampNeg (xs (i + 1)))))))) (wc := (wMo g am u fi t2 dm (sp_X7_wear_th (xs (i + 1))) sa ln pa le sk nu h)) (w2 := (wCl g ap ad r po pn pl tx rp rl rs rm rn rz sv mm)) [] [] ((wOu g ao (vp_updL fo 0 (Int32.toInt64 (r.vw (Int32.toNatClampNeg (xs (i + 1))))))) ++ ((wMo g am u fi t2 dm (sp_X7_wear_th (xs (i + 1))) sa ln pa le sk nu h) ++ (wCl g ap ad r po pn pl tx rp rl rs rm rn rz sv mm))) C (k_X7_thrown l g am u fi t2 dm (sp_X7_wear_th (xs (i + 1))) sa ln pa le sk nu h) rfl yV_X7_thrown wML_L_154 rfl 1 rfl rfl rfl rfl (nle rfl) (nle rfl) (nle rfl) (rmc hcC (by omega)) (rmc hsC (by omega)) dL_law_2137 ?_
    refine x_iload C 1 rfl dL_law_2140 ?_
    refine x_icmp_eq C 2147 (by decide) dL_law_2142 (fun _ => ?_) (fun hz => absurd e1 hz)
    refine x_iload C 1 rfl dL_law_2147 ?_
    refine x_if_ne C 2164 (by decide) dL_law_2149 (fun hz => absurd (by decide) hz) (fun _ => ?_)
    refine x_aload_n C 3 rfl rfl dL_law_2152 ?_
    refine x_iconst C 0 (by decide) dL_law_2153 ?_
    refine x_lald (f := (vp_updL fo 0 (Int32.toInt64 (r.vw (Int32.toNatClampNeg (xs (i + 1))))))) C 0 3 rfl rfl in1 dL_law_2154 ?_
    refine x_st (st' := [.long (Int32.toInt64 (r.vw (Int32.toNatClampNeg (xs (i + 1)))))]) rfl ?_
    refine x_iload C 0 rfl dL_law_2155 ?_
    refine x_i2l C dL_law_2157 ?_
    refine x_lcmp C dL_law_2158 ?_
    refine x_if_eq C 2164 (by decide) dL_law_2159 (fun _ => ?_) (fun hz => absurd (lgz (congrArg Int32.toInt64 e2)) hz)
    refine x_goto C 3131 (by decide) dL_law_2164 ?_
    refine x_lv [(4, .int (nI i)), (3, .ref ao), (2, .ref (am 0)), (1, .ref (ap 0)), (0, .ref b)] [2, 3, 4, 5, 6] rfl ?_
    refine x_wid (k := cells + 40) (n := slots + 300) (by omega) (by omega) ?_
    exact K r po pn pl tx rp rl rs rm rn rz sv mm u fi t2 dm (sp_X7_wear_th (xs (i + 1))) sa ln pa le sk nu h (vp_updL fo 0 (Int32.toInt64 (r.vw (Int32.toNatClampNeg (xs (i + 1)))))) e3
  · obtain ⟨e1, e3⟩ := hP.2 E cd h1 hcd
    refine x_perm (ws' := ((wOu g ao fo) ++ ((wMo g am u fi t2 dm th sa ln pa le sk nu h) ++ (wCl g ap ad r po pn pl tx rp rl rs rm rn rz sv mm)))) (List.perm_append_comm_assoc (wMo g am u fi t2 dm th sa ln pa le sk nu h) (wOu g ao fo) (wCl g ap ad r po pn pl tx rp rl rs rm rn rz sv mm)) ?_
    refine x_st (st' := [.int cd]) rfl ?_
    refine x_istore C [(5, .int cd), (4, .int (nI i)), (3, .ref ao), (2, .ref (am 0)), (1, .ref (ap 0)), (0, .ref b)] rfl (by decide) dL_law_2122 ?_
    refine x_aload_n C 3 rfl rfl dL_law_2124 ?_
    refine x_aload_n C 5 rfl rfl dL_law_2125 ?_
    refine x_iload C 1 rfl dL_law_2126 ?_
    refine x_iconst C 1 (by decide) dL_law_2128 ?_
    refine x_iaddN C i 1 rfl rfl dL_law_2129 ?_
    refine x_sld C (i + 1) hX hbl hbA rfl (by omega) (by omega) dL_law_2130 ?_
    refine x_FV (w1 := (wOu g ao fo)) (wc := (wMo g am u fi t2 dm th sa ln pa le sk nu h)) (w2 := (wCl g ap ad r po pn pl tx rp rl rs rm rn rz sv mm)) [.int (xs (i + 1))] [] ((wOu g ao fo) ++ ((wMo g am u fi t2 dm (sp_X7_wear_th (xs (i + 1))) sa ln pa le sk nu h) ++ (wCl g ap ad r po pn pl tx rp rl rs rm rn rz sv mm))) C (k_X7_wear l g am u fi t2 dm th sa ln pa le sk nu h (xs (i + 1)) H.hs H.hs6 H.hm) rfl yV_X7_wear wML_L_262 rfl 1 rfl rfl rfl rfl (nle rfl) (nle rfl) (nle rfl) (rmc hcC (by omega)) (rmc hsC (by omega)) dL_law_2131 ?_
    refine x_istore C [(6, .int (sp_X7_wear u (xs (i + 1)))), (5, .int cd), (4, .int (nI i)), (3, .ref ao), (2, .ref (am 0)), (1, .ref (ap 0)), (0, .ref b)] rfl (by decide) dL_law_2134 ?_
    refine x_aload_n C 4 rfl rfl dL_law_2136 ?_
    refine x_FV (w1 := (wOu g ao fo)) (wc := (wMo g am u fi t2 dm (sp_X7_wear_th (xs (i + 1))) sa ln pa le sk nu h)) (w2 := (wCl g ap ad r po pn pl tx rp rl rs rm rn rz sv mm)) [] [] ((wOu g ao fo) ++ ((wMo g am u fi t2 dm (sp_X7_wear_th (xs (i + 1))) sa ln pa le sk nu h) ++ (wCl g ap ad r po pn pl tx rp rl rs rm rn rz sv mm))) C (k_X7_thrown l g am u fi t2 dm (sp_X7_wear_th (xs (i + 1))) sa ln pa le sk nu h) rfl yV_X7_thrown wML_L_154 rfl 1 rfl rfl rfl rfl (nle rfl) (nle rfl) (nle rfl) (rmc hcC (by omega)) (rmc hsC (by omega)) dL_law_2137 ?_
    refine x_iload C 1 rfl dL_law_2140 ?_
    refine x_icmp_eq C 2147 (by decide) dL_law_2142 (fun _ => ?_) (fun hz => absurd e1 hz)
    refine x_iload C 1 rfl dL_law_2147 ?_
    refine x_if_ne C 2164 (by decide) dL_law_2149 (fun _ => ?_) (fun hz => absurd hz (cd0 hcd))
    refine x_goto C 3131 (by decide) dL_law_2164 ?_
    refine x_lv [(4, .int (nI i)), (3, .ref ao), (2, .ref (am 0)), (1, .ref (ap 0)), (0, .ref b)] [2, 3, 4, 5, 6] rfl ?_
    refine x_wid (k := cells + 40) (n := slots + 300) (by omega) (by omega) ?_
    exact K r po pn pl tx rp rl rs rm rn rz sv mm u fi t2 dm (sp_X7_wear_th (xs (i + 1))) sa ln pa le sk nu h fo e3
set_option maxRecDepth 100000 in
set_option maxHeartbeats 2000000 in
theorem c_33 {p : Program} {l : Launch} {e : Env} {s : State} {m : MethodId} {args : Array Value} {below : List Frame} {meth : Method} {c : Code} {cells slots : Nat} {Q : State → Prop} {nm : String} {g : xGt} {A : Nat → Prop} {b L i : Nat} {xs : Nat → Int32} {ap ad am : Nat → Nat} {ao : Nat} {r : xR} {po : Int32} {pn : Int32} {pl : Int32} {tx : Nat → Int32} {rp : Int32} {rl : Int32} {rs : Int32} {rm : Int32} {rn : Int32} {rz : Int32} {sv : xPl} {mm : xPl} {u : Nat → Int32} {fi : Nat → Int32} {t2 : Nat → Int32} {dm : Nat → Int32} {th : Int32} {sa : Int32} {ln : Int32} {pa : Int32} {le : Int32} {sk : Int32} {nu : Int32} {h : Int64} {fo : Nat → Int64} (C : xC p l s m args meth c cL_law 9 RL nm g.1 (xT g) A) (hX : va_X b L xs s s.heap) (hbl : b < s.heap.size) (hbA : ¬ A b) (hi : i + 6 ≤ L) (hL : L ≤ 3072) (hcC : cells + 40 ≤ room_1.cells) (hsC : slots + 300 ≤ room_1.slots) (H : RI r po pn pl tx sv mm u fi t2 sa ln) (K : LK p l e s m args below meth c g A ap ad am ao b i (cells + 40) (slots + 300) Q) : xW p l e room_1 s m args below meth c g.1 A 9 cells slots Q (wLaw g ap ad am ao r po pn pl tx rp rl rs rm rn rz sv mm u fi t2 dm th sa ln pa le sk nu h fo) [(4, .int (nI i)), (3, .ref ao), (2, .ref (am 0)), (1, .ref (ap 0)), (0, .ref b)] 2167 [] := by
  refine x_ws (ws' := ((wOu g ao fo) ++ ((wMo g am u fi t2 dm th sa ln pa le sk nu h) ++ (wCl g ap ad r po pn pl tx rp rl rs rm rn rz sv mm)))) rfl ?_
  refine x_aload_n C 3 rfl rfl dL_law_2167 ?_
  refine x_aload_n C 4 rfl rfl dL_law_2168 ?_
  refine x_iload C 0 rfl dL_law_2169 ?_
  refine x_iconst C 1 (by decide) dL_law_2171 ?_
  refine x_iaddN C i 1 rfl rfl dL_law_2172 ?_
  refine x_sld C (i + 1) hX hbl hbA rfl (by omega) (by omega) dL_law_2173 ?_
  refine x_aload_n C 1 rfl rfl dL_law_2174 ?_
  refine x_callL (X := (wOu g ao fo)) (Y := (wMo g am u fi t2 dm th sa ln pa le sk nu h)) (Z := (wCl g ap ad r po pn pl tx rp rl rs rm rn rz sv mm)) [.ref (ap 0), .int (xs (i + 1)), .ref ao] [] C (k_L_send l g ao fo ap ad r po pn pl tx rp rl rs rm rn rz sv mm (xs (i + 1)) H.clo) yH_L_send wML_L_263 rfl rfl rfl (nle rfl) (nle rfl) (nle rfl) (rmc hcC (by omega)) (rmc hsC (by omega)) dL_law_2175 (fun r0 w0 h0 => ?_)
  have hP := P_send r po pn pl tx rp rl rs rm rn rz sv mm u fi t2 dm th sa ln pa le sk nu h (xs (i + 1)) H
  rcases h0 with ⟨h1, rfl, w8, hw, rfl⟩ | ⟨E, cd, h1, hcd, rfl, rfl⟩
  · obtain ⟨adn, rfl⟩ := hw
    obtain ⟨e1, e2, e3⟩ := hP.1 h1
    refine x_perm (ws' := ((wOu g ao (vp_updL fo 0 (Int32.toInt64 (sp_X6_send r (xs (i + 1)))))) ++ ((wMo g am u fi t2 dm th sa ln pa le sk nu h) ++ (wCl g ap ad (xRk r.kp r.ke r.kr r.kt r.kh r.kc r.xn r.xs r.xv r.xh r.xo r.xc r.vd r.vn r.vl r.vu r.vs r.vm r.vp (sp_X6_send_vt r (xs (i + 1))) (sp_X6_send_va r (xs (i + 1))) (sp_X6_send_vw r (xs (i + 1))) r.jd (sp_X6_send_jb r (xs (i + 1))) r.jc (sp_X6_send_js r (xs (i + 1))) (sp_X6_send_jl r (xs (i + 1))) (sp_X6_send_jx r (xs (i + 1))) (sp_X6_send_ji r (xs (i + 1))) (sp_X6_send_jf r (xs (i + 1))) (sp_X6_send_jn r (xs (i + 1))) (sp_cdm r.kp r.ke r.kr r.kt r.kh r.kc r.xn r.xs r.xv r.xh r.xo r.xc r.dq 6)) (sp_spo2 po pn) (sp_spn2 pn) pl tx rp rl rs rm rn rz (svS sv adn r po pn) mm)))) (List.perm_append_comm_assoc (wMo g am u fi t2 dm th sa ln pa le sk nu h) (wOu g ao (vp_updL fo 0 (Int32.toInt64 (sp_X6_send r (xs (i + 1)))))) (wCl g ap ad (xRk r.kp r.ke r.kr r.kt r.kh r.kc r.xn r.xs r.xv r.xh r.xo r.xc r.vd r.vn r.vl r.vu r.vs r.vm r.vp (sp_X6_send_vt r (xs (i + 1))) (sp_X6_send_va r (xs (i + 1))) (sp_X6_send_vw r (xs (i + 1))) r.jd (sp_X6_send_jb r (xs (i + 1))) r.jc (sp_X6_send_js r (xs (i + 1))) (sp_X6_send_jl r (xs (i + 1))) (sp_X6_send_jx r (xs (i + 1))) (sp_X6_send_ji r (xs (i + 1))) (sp_X6_send_jf r (xs (i + 1))) (sp_X6_send_jn r (xs (i + 1))) (sp_cdm r.kp r.ke r.kr r.kt r.kh r.kc r.xn r.xs r.xv r.xh r.xo r.xc r.dq 6)) (sp_spo2 po pn) (sp_spn2 pn) pl tx rp rl rs rm rn rz (svS sv adn r po pn) mm)) ?_
    refine x_st (st' := [.int 0]) rfl ?_
    refine x_istore C [(5, .int 0), (4, .int (nI i)), (3, .ref ao), (2, .ref (am 0)), (1, .ref (ap 0)), (0, .ref b)] rfl (by decide) dL_law_2178 ?_
    refine x_aload_n C 3 rfl rfl dL_law_2180 ?_
    refine x_aload_n C 5 rfl rfl dL_law_2181 ?_
    refine x_iload C 1 rfl dL_law_2182 ?_
    refine x_iconst C 1 (by decide) dL_law_2184 ?_
    refine x_iaddN C i 1 rfl rfl dL_law_2185 ?_
    refine x_sld C (i + 1) hX hbl hbA rfl (by omega) (by omega) dL_law_2186 ?_
    refine x_FV (w1 := (wOu g ao (vp_updL fo 0 (Int32.toInt64 (sp_X6_send r (xs (i + 1))))))) (wc := (wMo g am u fi t2 dm th sa ln pa le sk nu h)) (w2 := (wCl g ap ad (xRk r.kp r.ke r.kr r.kt r.kh r.kc r.xn r.xs r.xv r.xh r.xo r.xc r.vd r.vn r.vl r.vu r.vs r.vm r.vp (sp_X6_send_vt r (xs (i + 1))) (sp_X6_send_va r (xs (i + 1))) (sp_X6_send_vw r (xs (i + 1))) r.jd (sp_X6_send_jb r (xs (i + 1))) r.jc (sp_X6_send_js r (xs (i + 1))) (sp_X6_send_jl r (xs (i + 1))) (sp_X6_send_jx r (xs (i + 1))) (sp_X6_send_ji r (xs (i + 1))) (sp_X6_send_jf r (xs (i + 1))) (sp_X6_send_jn r (xs (i + 1))) (sp_cdm r.kp r.ke r.kr r.kt r.kh r.kc r.xn r.xs r.xv r.xh r.xo r.xc r.dq 6)) (sp_spo2 po pn) (sp_spn2 pn) pl tx rp rl rs rm rn rz (svS sv adn r po pn) mm)) [.int (xs (i + 1))] [] ((wOu g ao (vp_updL fo 0 (Int32.toInt64 (sp_X6_send r (xs (i + 1)))))) ++ ((wMo g am (sp_X7_send_s u dm sa (xs (i + 1))) fi t2 (sp_X7_send_dm u dm sa (xs (i + 1))) (sp_X7_send_th (xs (i + 1))) (sp_X7_send_sa sa (xs (i + 1))) ln pa le sk nu h) ++ (wCl g ap ad (xRk r.kp r.ke r.kr r.kt r.kh r.kc r.xn r.xs r.xv r.xh r.xo r.xc r.vd r.vn r.vl r.vu r.vs r.vm r.vp (sp_X6_send_vt r (xs (i + 1))) (sp_X6_send_va r (xs (i + 1))) (sp_X6_send_vw r (xs (i + 1))) r.jd (sp_X6_send_jb r (xs (i + 1))) r.jc (sp_X6_send_js r (xs (i + 1))) (sp_X6_send_jl r (xs (i + 1))) (sp_X6_send_jx r (xs (i + 1))) (sp_X6_send_ji r (xs (i + 1))) (sp_X6_send_jf r (xs (i + 1))) (sp_X6_send_jn r (xs (i + 1))) (sp_cdm r.kp r.ke r.kr r.kt r.kh r.kc r.xn r.xs r.xv r.xh r.xo r.xc r.dq 6)) (sp_spo2 po pn) (sp_spn2 pn) pl tx rp rl rs rm rn rz (svS sv adn r po pn) mm))) C (k_X7_send l g am u fi t2 dm th sa ln pa le sk nu h (xs (i + 1)) H.hs H.hs6 H.hm) rfl yV_X7_send wML_L_265 rfl 1 rfl rfl rfl rfl (nle rfl) (nle rfl) (nle rfl) (rmc hcC (by omega)) (rmc hsC (by omega)) dL_law_2187 ?_
    refine x_istore C [(6, .int (sp_X7_send u dm sa (xs (i + 1)))), (5, .int 0), (4, .int (nI i)), (3, .ref ao), (2, .ref (am 0)), (1, .ref (ap 0)), (0, .ref b)] rfl (by decide) dL_law_2190 ?_
    refine x_aload_n C 4 rfl rfl dL_law_2192 ?_
    refine x_FV (w1 := (wOu g ao (vp_updL fo 0 (Int32.toInt64 (sp_X6_send r (xs (i + 1))))))) (wc := (wMo g am (sp_X7_send_s u dm sa (xs (i + 1))) fi t2 (sp_X7_send_dm u dm sa (xs (i + 1))) (sp_X7_send_th (xs (i + 1))) (sp_X7_send_sa sa (xs (i + 1))) ln pa le sk nu h)) (w2 := (wCl g ap ad (xRk r.kp r.ke r.kr r.kt r.kh r.kc r.xn r.xs r.xv r.xh r.xo r.xc r.vd r.vn r.vl r.vu r.vs r.vm r.vp (sp_X6_send_vt r (xs (i + 1))) (sp_X6_send_va r (xs (i + 1))) (sp_X6_send_vw r (xs (i + 1))) r.jd (sp_X6_send_jb r (xs (i + 1))) r.jc (sp_X6_send_js r (xs (i + 1))) (sp_X6_send_jl r (xs (i + 1))) (sp_X6_send_jx r (xs (i + 1))) (sp_X6_send_ji r (xs (i + 1))) (sp_X6_send_jf r (xs (i + 1))) (sp_X6_send_jn r (xs (i + 1))) (sp_cdm r.kp r.ke r.kr r.kt r.kh r.kc r.xn r.xs r.xv r.xh r.xo r.xc r.dq 6)) (sp_spo2 po pn) (sp_spn2 pn) pl tx rp rl rs rm rn rz (svS sv adn r po pn) mm)) [] [] ((wOu g ao (vp_updL fo 0 (Int32.toInt64 (sp_X6_send r (xs (i + 1)))))) ++ ((wMo g am (sp_X7_send_s u dm sa (xs (i + 1))) fi t2 (sp_X7_send_dm u dm sa (xs (i + 1))) (sp_X7_send_th (xs (i + 1))) (sp_X7_send_sa sa (xs (i + 1))) ln pa le sk nu h) ++ (wCl g ap ad (xRk r.kp r.ke r.kr r.kt r.kh r.kc r.xn r.xs r.xv r.xh r.xo r.xc r.vd r.vn r.vl r.vu r.vs r.vm r.vp (sp_X6_send_vt r (xs (i + 1))) (sp_X6_send_va r (xs (i + 1))) (sp_X6_send_vw r (xs (i + 1))) r.jd (sp_X6_send_jb r (xs (i + 1))) r.jc (sp_X6_send_js r (xs (i + 1))) (sp_X6_send_jl r (xs (i + 1))) (sp_X6_send_jx r (xs (i + 1))) (sp_X6_send_ji r (xs (i + 1))) (sp_X6_send_jf r (xs (i + 1))) (sp_X6_send_jn r (xs (i + 1))) (sp_cdm r.kp r.ke r.kr r.kt r.kh r.kc r.xn r.xs r.xv r.xh r.xo r.xc r.dq 6)) (sp_spo2 po pn) (sp_spn2 pn) pl tx rp rl rs rm rn rz (svS sv adn r po pn) mm))) C (k_X7_thrown l g am (sp_X7_send_s u dm sa (xs (i + 1))) fi t2 (sp_X7_send_dm u dm sa (xs (i + 1))) (sp_X7_send_th (xs (i + 1))) (sp_X7_send_sa sa (xs (i + 1))) ln pa le sk nu h) rfl yV_X7_thrown wML_L_154 rfl 1 rfl rfl rfl rfl (nle rfl) (nle rfl) (nle rfl) (rmc hcC (by omega)) (rmc hsC (by omega)) dL_law_2193 ?_
    refine x_iload C 1 rfl dL_law_2196 ?_
    refine x_icmp_eq C 2203 (by decide) dL_law_2198 (fun _ => ?_) (fun hz => absurd e1 hz)
    refine x_iload C 1 rfl dL_law_2203 ?_
    refine x_if_ne C 2220 (by decide) dL_law_2205 (fun hz => absurd (by decide) hz) (fun _ => ?_)
    refine x_aload_n C 3 rfl rfl dL_law_2208 ?_
    refine x_iconst C 0 (by decide) dL_law_2209 ?_
    refine x_lald (f := (vp_updL fo 0 (Int32.toInt64 (sp_X6_send r (xs (i + 1)))))) C 0 3 rfl rfl in1 dL_law_2210 ?_
    refine x_st (st' := [.long (Int32.toInt64 (sp_X6_send r (xs (i + 1))))]) rfl ?_
    refine x_iload C 0 rfl dL_law_2211 ?_
    refine x_i2l C dL_law_2213 ?_
    refine x_lcmp C dL_law_2214 ?_
    refine x_if_eq C 2220 (by decide) dL_law_2215 (fun _ => ?_) (fun hz => absurd (lgz (congrArg Int32.toInt64 e2)) hz)
    refine x_goto C 3131 (by decide) dL_law_2220 ?_
    refine x_lv [(4, .int (nI i)), (3, .ref ao), (2, .ref (am 0)), (1, .ref (ap 0)), (0, .ref b)] [2, 3, 4, 5, 6] rfl ?_
    refine x_wid (k := cells + 40) (n := slots + 300) (by omega) (by omega) ?_
    exact K (xRk r.kp r.ke r.kr r.kt r.kh r.kc r.xn r.xs r.xv r.xh r.xo r.xc r.vd r.vn r.vl r.vu r.vs r.vm r.vp (sp_X6_send_vt r (xs (i + 1))) (sp_X6_send_va r (xs (i + 1))) (sp_X6_send_vw r (xs (i + 1))) r.jd (sp_X6_send_jb r (xs (i + 1))) r.jc (sp_X6_send_js r (xs (i + 1))) (sp_X6_send_jl r (xs (i + 1))) (sp_X6_send_jx r (xs (i + 1))) (sp_X6_send_ji r (xs (i + 1))) (sp_X6_send_jf r (xs (i + 1))) (sp_X6_send_jn r (xs (i + 1))) (sp_cdm r.kp r.ke r.kr r.kt r.kh r.kc r.xn r.xs r.xv r.xh r.xo r.xc r.dq 6)) (sp_spo2 po pn) (sp_spn2 pn) pl tx rp rl rs rm rn rz (svS sv adn r po pn) mm (sp_X7_send_s u dm sa (xs (i + 1))) fi t2 (sp_X7_send_dm u dm sa (xs (i + 1))) (sp_X7_send_th (xs (i + 1))) (sp_X7_send_sa sa (xs (i + 1))) ln pa le sk nu h (vp_updL fo 0 (Int32.toInt64 (sp_X6_send r (xs (i + 1))))) (e3 adn)
  · obtain ⟨e1, e3⟩ := hP.2 E cd h1 hcd
    refine x_perm (ws' := ((wOu g ao fo) ++ ((wMo g am u fi t2 dm th sa ln pa le sk nu h) ++ (wCl g ap ad r po pn pl tx rp rl rs rm rn rz sv mm)))) (List.perm_append_comm_assoc (wMo g am u fi t2 dm th sa ln pa le sk nu h) (wOu g ao fo) (wCl g ap ad r po pn pl tx rp rl rs rm rn rz sv mm)) ?_
    refine x_st (st' := [.int cd]) rfl ?_
    refine x_istore C [(5, .int cd), (4, .int (nI i)), (3, .ref ao), (2, .ref (am 0)), (1, .ref (ap 0)), (0, .ref b)] rfl (by decide) dL_law_2178 ?_
    refine x_aload_n C 3 rfl rfl dL_law_2180 ?_
    refine x_aload_n C 5 rfl rfl dL_law_2181 ?_
    refine x_iload C 1 rfl dL_law_2182 ?_
    refine x_iconst C 1 (by decide) dL_law_2184 ?_
    refine x_iaddN C i 1 rfl rfl dL_law_2185 ?_
    refine x_sld C (i + 1) hX hbl hbA rfl (by omega) (by omega) dL_law_2186 ?_
    refine x_FV (w1 := (wOu g ao fo)) (wc := (wMo g am u fi t2 dm th sa ln pa le sk nu h)) (w2 := (wCl g ap ad r po pn pl tx rp rl rs rm rn rz sv mm)) [.int (xs (i + 1))] [] ((wOu g ao fo) ++ ((wMo g am (sp_X7_send_s u dm sa (xs (i + 1))) fi t2 (sp_X7_send_dm u dm sa (xs (i + 1))) (sp_X7_send_th (xs (i + 1))) (sp_X7_send_sa sa (xs (i + 1))) ln pa le sk nu h) ++ (wCl g ap ad r po pn pl tx rp rl rs rm rn rz sv mm))) C (k_X7_send l g am u fi t2 dm th sa ln pa le sk nu h (xs (i + 1)) H.hs H.hs6 H.hm) rfl yV_X7_send wML_L_265 rfl 1 rfl rfl rfl rfl (nle rfl) (nle rfl) (nle rfl) (rmc hcC (by omega)) (rmc hsC (by omega)) dL_law_2187 ?_
    refine x_istore C [(6, .int (sp_X7_send u dm sa (xs (i + 1)))), (5, .int cd), (4, .int (nI i)), (3, .ref ao), (2, .ref (am 0)), (1, .ref (ap 0)), (0, .ref b)] rfl (by decide) dL_law_2190 ?_
    refine x_aload_n C 4 rfl rfl dL_law_2192 ?_
    refine x_FV (w1 := (wOu g ao fo)) (wc := (wMo g am (sp_X7_send_s u dm sa (xs (i + 1))) fi t2 (sp_X7_send_dm u dm sa (xs (i + 1))) (sp_X7_send_th (xs (i + 1))) (sp_X7_send_sa sa (xs (i + 1))) ln pa le sk nu h)) (w2 := (wCl g ap ad r po pn pl tx rp rl rs rm rn rz sv mm)) [] [] ((wOu g ao fo) ++ ((wMo g am (sp_X7_send_s u dm sa (xs (i + 1))) fi t2 (sp_X7_send_dm u dm sa (xs (i + 1))) (sp_X7_send_th (xs (i + 1))) (sp_X7_send_sa sa (xs (i + 1))) ln pa le sk nu h) ++ (wCl g ap ad r po pn pl tx rp rl rs rm rn rz sv mm))) C (k_X7_thrown l g am (sp_X7_send_s u dm sa (xs (i + 1))) fi t2 (sp_X7_send_dm u dm sa (xs (i + 1))) (sp_X7_send_th (xs (i + 1))) (sp_X7_send_sa sa (xs (i + 1))) ln pa le sk nu h) rfl yV_X7_thrown wML_L_154 rfl 1 rfl rfl rfl rfl (nle rfl) (nle rfl) (nle rfl) (rmc hcC (by omega)) (rmc hsC (by omega)) dL_law_2193 ?_
    refine x_iload C 1 rfl dL_law_2196 ?_
    refine x_icmp_eq C 2203 (by decide) dL_law_2198 (fun _ => ?_) (fun hz => absurd e1 hz)
    refine x_iload C 1 rfl dL_law_2203 ?_
    refine x_if_ne C 2220 (by decide) dL_law_2205 (fun _ => ?_) (fun hz => absurd hz (cd0 hcd))
    refine x_goto C 3131 (by decide) dL_law_2220 ?_
    refine x_lv [(4, .int (nI i)), (3, .ref ao), (2, .ref (am 0)), (1, .ref (ap 0)), (0, .ref b)] [2, 3, 4, 5, 6] rfl ?_
    refine x_wid (k := cells + 40) (n := slots + 300) (by omega) (by omega) ?_
    exact K r po pn pl tx rp rl rs rm rn rz sv mm (sp_X7_send_s u dm sa (xs (i + 1))) fi t2 (sp_X7_send_dm u dm sa (xs (i + 1))) (sp_X7_send_th (xs (i + 1))) (sp_X7_send_sa sa (xs (i + 1))) ln pa le sk nu h fo e3
set_option maxRecDepth 100000 in
set_option maxHeartbeats 2000000 in
theorem c_34 {p : Program} {l : Launch} {e : Env} {s : State} {m : MethodId} {args : Array Value} {below : List Frame} {meth : Method} {c : Code} {cells slots : Nat} {Q : State → Prop} {nm : String} {g : xGt} {A : Nat → Prop} {b L i : Nat} {xs : Nat → Int32} {ap ad am : Nat → Nat} {ao : Nat} {r : xR} {po : Int32} {pn : Int32} {pl : Int32} {tx : Nat → Int32} {rp : Int32} {rl : Int32} {rs : Int32} {rm : Int32} {rn : Int32} {rz : Int32} {sv : xPl} {mm : xPl} {u : Nat → Int32} {fi : Nat → Int32} {t2 : Nat → Int32} {dm : Nat → Int32} {th : Int32} {sa : Int32} {ln : Int32} {pa : Int32} {le : Int32} {sk : Int32} {nu : Int32} {h : Int64} {fo : Nat → Int64} (C : xC p l s m args meth c cL_law 9 RL nm g.1 (xT g) A) (hX : va_X b L xs s s.heap) (hbl : b < s.heap.size) (hbA : ¬ A b) (hi : i + 6 ≤ L) (hL : L ≤ 3072) (hcC : cells + 40 ≤ room_1.cells) (hsC : slots + 300 ≤ room_1.slots) (H : RI r po pn pl tx sv mm u fi t2 sa ln) (K : LK p l e s m args below meth c g A ap ad am ao b i (cells + 40) (slots + 300) Q) : xW p l e room_1 s m args below meth c g.1 A 9 cells slots Q (wLaw g ap ad am ao r po pn pl tx rp rl rs rm rn rz sv mm u fi t2 dm th sa ln pa le sk nu h fo) [(4, .int (nI i)), (3, .ref ao), (2, .ref (am 0)), (1, .ref (ap 0)), (0, .ref b)] 2223 [] := by
  refine x_ws (ws' := ((wOu g ao fo) ++ ((wMo g am u fi t2 dm th sa ln pa le sk nu h) ++ (wCl g ap ad r po pn pl tx rp rl rs rm rn rz sv mm)))) rfl ?_
  refine x_aload_n C 3 rfl rfl dL_law_2223 ?_
  refine x_aload_n C 4 rfl rfl dL_law_2224 ?_
  refine x_iload C 0 rfl dL_law_2225 ?_
  refine x_iconst C 1 (by decide) dL_law_2227 ?_
  refine x_iaddN C i 1 rfl rfl dL_law_2228 ?_
  refine x_sld C (i + 1) hX hbl hbA rfl (by omega) (by omega) dL_law_2229 ?_
  refine x_aload_n C 1 rfl rfl dL_law_2230 ?_
  refine x_callL (X := (wOu g ao fo)) (Y := (wMo g am u fi t2 dm th sa ln pa le sk nu h)) (Z := (wCl g ap ad r po pn pl tx rp rl rs rm rn rz sv mm)) [.ref (ap 0), .int (xs (i + 1)), .ref ao] [] C (k_L_lose l g ao fo ap ad r po pn pl tx rp rl rs rm rn rz sv mm (xs (i + 1)) H.clo) yH_L_lose wML_L_266 rfl rfl rfl (nle rfl) (nle rfl) (nle rfl) (rmc hcC (by omega)) (rmc hsC (by omega)) dL_law_2231 (fun r0 w0 h0 => ?_)
  have hP := P_lose r po pn pl tx rp rl rs rm rn rz sv mm u fi t2 dm th sa ln pa le sk nu h (xs (i + 1)) H
  rcases h0 with ⟨h1, rfl, w8, hw, rfl⟩ | ⟨E, cd, h1, hcd, rfl, rfl⟩
  · obtain ⟨adn, rfl⟩ := hw
    obtain ⟨e1, e2, e3⟩ := hP.1 h1
    refine x_perm (ws' := ((wOu g ao (vp_updL fo 0 (Int32.toInt64 (sp_X6_lose r (xs (i + 1)))))) ++ ((wMo g am u fi t2 dm th sa ln pa le sk nu h) ++ (wCl g ap ad (xRk r.kp r.ke r.kr r.kt r.kh r.kc r.xn r.xs r.xv r.xh r.xo r.xc r.vd r.vn r.vl r.vu r.vs r.vm r.vp (sp_X6_lose_vt r (xs (i + 1))) (sp_X6_lose_va r (xs (i + 1))) (sp_X6_lose_vw r (xs (i + 1))) r.jd (sp_X6_lose_jb r (xs (i + 1))) r.jc (sp_X6_lose_js r (xs (i + 1))) (sp_X6_lose_jl r (xs (i + 1))) (sp_X6_lose_jx r (xs (i + 1))) (sp_X6_lose_ji r (xs (i + 1))) (sp_X6_lose_jf r (xs (i + 1))) (sp_X6_lose_jn r (xs (i + 1))) (sp_cdm r.kp r.ke r.kr r.kt r.kh r.kc r.xn r.xs r.xv r.xh r.xo r.xc r.dq 6)) (sp_spo2 po pn) (sp_spn2 pn) pl tx rp rl rs rm rn rz (svS sv adn r po pn) mm)))) (List.perm_append_comm_assoc (wMo g am u fi t2 dm th sa ln pa le sk nu h) (wOu g ao (vp_updL fo 0 (Int32.toInt64 (sp_X6_lose r (xs (i + 1)))))) (wCl g ap ad (xRk r.kp r.ke r.kr r.kt r.kh r.kc r.xn r.xs r.xv r.xh r.xo r.xc r.vd r.vn r.vl r.vu r.vs r.vm r.vp (sp_X6_lose_vt r (xs (i + 1))) (sp_X6_lose_va r (xs (i + 1))) (sp_X6_lose_vw r (xs (i + 1))) r.jd (sp_X6_lose_jb r (xs (i + 1))) r.jc (sp_X6_lose_js r (xs (i + 1))) (sp_X6_lose_jl r (xs (i + 1))) (sp_X6_lose_jx r (xs (i + 1))) (sp_X6_lose_ji r (xs (i + 1))) (sp_X6_lose_jf r (xs (i + 1))) (sp_X6_lose_jn r (xs (i + 1))) (sp_cdm r.kp r.ke r.kr r.kt r.kh r.kc r.xn r.xs r.xv r.xh r.xo r.xc r.dq 6)) (sp_spo2 po pn) (sp_spn2 pn) pl tx rp rl rs rm rn rz (svS sv adn r po pn) mm)) ?_
    refine x_st (st' := [.int 0]) rfl ?_
    refine x_istore C [(5, .int 0), (4, .int (nI i)), (3, .ref ao), (2, .ref (am 0)), (1, .ref (ap 0)), (0, .ref b)] rfl (by decide) dL_law_2234 ?_
    refine x_aload_n C 3 rfl rfl dL_law_2236 ?_
    refine x_aload_n C 5 rfl rfl dL_law_2237 ?_
    refine x_iload C 1 rfl dL_law_2238 ?_
    refine x_iconst C 1 (by decide) dL_law_2240 ?_
    refine x_iaddN C i 1 rfl rfl dL_law_2241 ?_
    refine x_sld C (i + 1) hX hbl hbA rfl (by omega) (by omega) dL_law_2242 ?_
    refine x_FV (w1 := (wOu g ao (vp_updL fo 0 (Int32.toInt64 (sp_X6_lose r (xs (i + 1))))))) (wc := (wMo g am u fi t2 dm th sa ln pa le sk nu h)) (w2 := (wCl g ap ad (xRk r.kp r.ke r.kr r.kt r.kh r.kc r.xn r.xs r.xv r.xh r.xo r.xc r.vd r.vn r.vl r.vu r.vs r.vm r.vp (sp_X6_lose_vt r (xs (i + 1))) (sp_X6_lose_va r (xs (i + 1))) (sp_X6_lose_vw r (xs (i + 1))) r.jd (sp_X6_lose_jb r (xs (i + 1))) r.jc (sp_X6_lose_js r (xs (i + 1))) (sp_X6_lose_jl r (xs (i + 1))) (sp_X6_lose_jx r (xs (i + 1))) (sp_X6_lose_ji r (xs (i + 1))) (sp_X6_lose_jf r (xs (i + 1))) (sp_X6_lose_jn r (xs (i + 1))) (sp_cdm r.kp r.ke r.kr r.kt r.kh r.kc r.xn r.xs r.xv r.xh r.xo r.xc r.dq 6)) (sp_spo2 po pn) (sp_spn2 pn) pl tx rp rl rs rm rn rz (svS sv adn r po pn) mm)) [.int (xs (i + 1))] [] ((wOu g ao (vp_updL fo 0 (Int32.toInt64 (sp_X6_lose r (xs (i + 1)))))) ++ ((wMo g am (sp_X7_lose_s u dm sa (xs (i + 1))) fi t2 (sp_X7_lose_dm u dm sa (xs (i + 1))) (sp_X7_lose_th (xs (i + 1))) (sp_X7_lose_sa sa (xs (i + 1))) ln pa le sk nu h) ++ (wCl g ap ad (xRk r.kp r.ke r.kr r.kt r.kh r.kc r.xn r.xs r.xv r.xh r.xo r.xc r.vd r.vn r.vl r.vu r.vs r.vm r.vp (sp_X6_lose_vt r (xs (i + 1))) (sp_X6_lose_va r (xs (i + 1))) (sp_X6_lose_vw r (xs (i + 1))) r.jd (sp_X6_lose_jb r (xs (i + 1))) r.jc (sp_X6_lose_js r (xs (i + 1))) (sp_X6_lose_jl r (xs (i + 1))) (sp_X6_lose_jx r (xs (i + 1))) (sp_X6_lose_ji r (xs (i + 1))) (sp_X6_lose_jf r (xs (i + 1))) (sp_X6_lose_jn r (xs (i + 1))) (sp_cdm r.kp r.ke r.kr r.kt r.kh r.kc r.xn r.xs r.xv r.xh r.xo r.xc r.dq 6)) (sp_spo2 po pn) (sp_spn2 pn) pl tx rp rl rs rm rn rz (svS sv adn r po pn) mm))) C (k_X7_lose l g am u fi t2 dm th sa ln pa le sk nu h (xs (i + 1)) H.hs H.hs6 H.hm) rfl yV_X7_lose wML_L_268 rfl 1 rfl rfl rfl rfl (nle rfl) (nle rfl) (nle rfl) (rmc hcC (by omega)) (rmc hsC (by omega)) dL_law_2243 ?_
    refine x_istore C [(6, .int (sp_X7_lose u dm sa (xs (i + 1)))), (5, .int 0), (4, .int (nI i)), (3, .ref ao), (2, .ref (am 0)), (1, .ref (ap 0)), (0, .ref b)] rfl (by decide) dL_law_2246 ?_
    refine x_aload_n C 4 rfl rfl dL_law_2248 ?_
    refine x_FV (w1 := (wOu g ao (vp_updL fo 0 (Int32.toInt64 (sp_X6_lose r (xs (i + 1))))))) (wc := (wMo g am (sp_X7_lose_s u dm sa (xs (i + 1))) fi t2 (sp_X7_lose_dm u dm sa (xs (i + 1))) (sp_X7_lose_th (xs (i + 1))) (sp_X7_lose_sa sa (xs (i + 1))) ln pa le sk nu h)) (w2 := (wCl g ap ad (xRk r.kp r.ke r.kr r.kt r.kh r.kc r.xn r.xs r.xv r.xh r.xo r.xc r.vd r.vn r.vl r.vu r.vs r.vm r.vp (sp_X6_lose_vt r (xs (i + 1))) (sp_X6_lose_va r (xs (i + 1))) (sp_X6_lose_vw r (xs (i + 1))) r.jd (sp_X6_lose_jb r (xs (i + 1))) r.jc (sp_X6_lose_js r (xs (i + 1))) (sp_X6_lose_jl r (xs (i + 1))) (sp_X6_lose_jx r (xs (i + 1))) (sp_X6_lose_ji r (xs (i + 1))) (sp_X6_lose_jf r (xs (i + 1))) (sp_X6_lose_jn r (xs (i + 1))) (sp_cdm r.kp r.ke r.kr r.kt r.kh r.kc r.xn r.xs r.xv r.xh r.xo r.xc r.dq 6)) (sp_spo2 po pn) (sp_spn2 pn) pl tx rp rl rs rm rn rz (svS sv adn r po pn) mm)) [] [] ((wOu g ao (vp_updL fo 0 (Int32.toInt64 (sp_X6_lose r (xs (i + 1)))))) ++ ((wMo g am (sp_X7_lose_s u dm sa (xs (i + 1))) fi t2 (sp_X7_lose_dm u dm sa (xs (i + 1))) (sp_X7_lose_th (xs (i + 1))) (sp_X7_lose_sa sa (xs (i + 1))) ln pa le sk nu h) ++ (wCl g ap ad (xRk r.kp r.ke r.kr r.kt r.kh r.kc r.xn r.xs r.xv r.xh r.xo r.xc r.vd r.vn r.vl r.vu r.vs r.vm r.vp (sp_X6_lose_vt r (xs (i + 1))) (sp_X6_lose_va r (xs (i + 1))) (sp_X6_lose_vw r (xs (i + 1))) r.jd (sp_X6_lose_jb r (xs (i + 1))) r.jc (sp_X6_lose_js r (xs (i + 1))) (sp_X6_lose_jl r (xs (i + 1))) (sp_X6_lose_jx r (xs (i + 1))) (sp_X6_lose_ji r (xs (i + 1))) (sp_X6_lose_jf r (xs (i + 1))) (sp_X6_lose_jn r (xs (i + 1))) (sp_cdm r.kp r.ke r.kr r.kt r.kh r.kc r.xn r.xs r.xv r.xh r.xo r.xc r.dq 6)) (sp_spo2 po pn) (sp_spn2 pn) pl tx rp rl rs rm rn rz (svS sv adn r po pn) mm))) C (k_X7_thrown l g am (sp_X7_lose_s u dm sa (xs (i + 1))) fi t2 (sp_X7_lose_dm u dm sa (xs (i + 1))) (sp_X7_lose_th (xs (i + 1))) (sp_X7_lose_sa sa (xs (i + 1))) ln pa le sk nu h) rfl yV_X7_thrown wML_L_154 rfl 1 rfl rfl rfl rfl (nle rfl) (nle rfl) (nle rfl) (rmc hcC (by omega)) (rmc hsC (by omega)) dL_law_2249 ?_
    refine x_iload C 1 rfl dL_law_2252 ?_
    refine x_icmp_eq C 2259 (by decide) dL_law_2254 (fun _ => ?_) (fun hz => absurd e1 hz)
    refine x_iload C 1 rfl dL_law_2259 ?_
    refine x_if_ne C 2276 (by decide) dL_law_2261 (fun hz => absurd (by decide) hz) (fun _ => ?_)
    refine x_aload_n C 3 rfl rfl dL_law_2264 ?_
    refine x_iconst C 0 (by decide) dL_law_2265 ?_
    refine x_lald (f := (vp_updL fo 0 (Int32.toInt64 (sp_X6_lose r (xs (i + 1)))))) C 0 3 rfl rfl in1 dL_law_2266 ?_
    refine x_st (st' := [.long (Int32.toInt64 (sp_X6_lose r (xs (i + 1))))]) rfl ?_
    refine x_iload C 0 rfl dL_law_2267 ?_
    refine x_i2l C dL_law_2269 ?_
    refine x_lcmp C dL_law_2270 ?_
    refine x_if_eq C 2276 (by decide) dL_law_2271 (fun _ => ?_) (fun hz => absurd (lgz (congrArg Int32.toInt64 e2)) hz)
    refine x_goto C 3131 (by decide) dL_law_2276 ?_
    refine x_lv [(4, .int (nI i)), (3, .ref ao), (2, .ref (am 0)), (1, .ref (ap 0)), (0, .ref b)] [2, 3, 4, 5, 6] rfl ?_
    refine x_wid (k := cells + 40) (n := slots + 300) (by omega) (by omega) ?_
    exact K (xRk r.kp r.ke r.kr r.kt r.kh r.kc r.xn r.xs r.xv r.xh r.xo r.xc r.vd r.vn r.vl r.vu r.vs r.vm r.vp (sp_X6_lose_vt r (xs (i + 1))) (sp_X6_lose_va r (xs (i + 1))) (sp_X6_lose_vw r (xs (i + 1))) r.jd (sp_X6_lose_jb r (xs (i + 1))) r.jc (sp_X6_lose_js r (xs (i + 1))) (sp_X6_lose_jl r (xs (i + 1))) (sp_X6_lose_jx r (xs (i + 1))) (sp_X6_lose_ji r (xs (i + 1))) (sp_X6_lose_jf r (xs (i + 1))) (sp_X6_lose_jn r (xs (i + 1))) (sp_cdm r.kp r.ke r.kr r.kt r.kh r.kc r.xn r.xs r.xv r.xh r.xo r.xc r.dq 6)) (sp_spo2 po pn) (sp_spn2 pn) pl tx rp rl rs rm rn rz (svS sv adn r po pn) mm (sp_X7_lose_s u dm sa (xs (i + 1))) fi t2 (sp_X7_lose_dm u dm sa (xs (i + 1))) (sp_X7_lose_th (xs (i + 1))) (sp_X7_lose_sa sa (xs (i + 1))) ln pa le sk nu h (vp_updL fo 0 (Int32.toInt64 (sp_X6_lose r (xs (i + 1))))) (e3 adn)
  · obtain ⟨e1, e3⟩ := hP.2 E cd h1 hcd
    refine x_perm (ws' := ((wOu g ao fo) ++ ((wMo g am u fi t2 dm th sa ln pa le sk nu h) ++ (wCl g ap ad r po pn pl tx rp rl rs rm rn rz sv mm)))) (List.perm_append_comm_assoc (wMo g am u fi t2 dm th sa ln pa le sk nu h) (wOu g ao fo) (wCl g ap ad r po pn pl tx rp rl rs rm rn rz sv mm)) ?_
    refine x_st (st' := [.int cd]) rfl ?_
    refine x_istore C [(5, .int cd), (4, .int (nI i)), (3, .ref ao), (2, .ref (am 0)), (1, .ref (ap 0)), (0, .ref b)] rfl (by decide) dL_law_2234 ?_
    refine x_aload_n C 3 rfl rfl dL_law_2236 ?_
    refine x_aload_n C 5 rfl rfl dL_law_2237 ?_
    refine x_iload C 1 rfl dL_law_2238 ?_
    refine x_iconst C 1 (by decide) dL_law_2240 ?_
    refine x_iaddN C i 1 rfl rfl dL_law_2241 ?_
    refine x_sld C (i + 1) hX hbl hbA rfl (by omega) (by omega) dL_law_2242 ?_
    refine x_FV (w1 := (wOu g ao fo)) (wc := (wMo g am u fi t2 dm th sa ln pa le sk nu h)) (w2 := (wCl g ap ad r po pn pl tx rp rl rs rm rn rz sv mm)) [.int (xs (i + 1))] [] ((wOu g ao fo) ++ ((wMo g am (sp_X7_lose_s u dm sa (xs (i + 1))) fi t2 (sp_X7_lose_dm u dm sa (xs (i + 1))) (sp_X7_lose_th (xs (i + 1))) (sp_X7_lose_sa sa (xs (i + 1))) ln pa le sk nu h) ++ (wCl g ap ad r po pn pl tx rp rl rs rm rn rz sv mm))) C (k_X7_lose l g am u fi t2 dm th sa ln pa le sk nu h (xs (i + 1)) H.hs H.hs6 H.hm) rfl yV_X7_lose wML_L_268 rfl 1 rfl rfl rfl rfl (nle rfl) (nle rfl) (nle rfl) (rmc hcC (by omega)) (rmc hsC (by omega)) dL_law_2243 ?_
    refine x_istore C [(6, .int (sp_X7_lose u dm sa (xs (i + 1)))), (5, .int cd), (4, .int (nI i)), (3, .ref ao), (2, .ref (am 0)), (1, .ref (ap 0)), (0, .ref b)] rfl (by decide) dL_law_2246 ?_
    refine x_aload_n C 4 rfl rfl dL_law_2248 ?_
    refine x_FV (w1 := (wOu g ao fo)) (wc := (wMo g am (sp_X7_lose_s u dm sa (xs (i + 1))) fi t2 (sp_X7_lose_dm u dm sa (xs (i + 1))) (sp_X7_lose_th (xs (i + 1))) (sp_X7_lose_sa sa (xs (i + 1))) ln pa le sk nu h)) (w2 := (wCl g ap ad r po pn pl tx rp rl rs rm rn rz sv mm)) [] [] ((wOu g ao fo) ++ ((wMo g am (sp_X7_lose_s u dm sa (xs (i + 1))) fi t2 (sp_X7_lose_dm u dm sa (xs (i + 1))) (sp_X7_lose_th (xs (i + 1))) (sp_X7_lose_sa sa (xs (i + 1))) ln pa le sk nu h) ++ (wCl g ap ad r po pn pl tx rp rl rs rm rn rz sv mm))) C (k_X7_thrown l g am (sp_X7_lose_s u dm sa (xs (i + 1))) fi t2 (sp_X7_lose_dm u dm sa (xs (i + 1))) (sp_X7_lose_th (xs (i + 1))) (sp_X7_lose_sa sa (xs (i + 1))) ln pa le sk nu h) rfl yV_X7_thrown wML_L_154 rfl 1 rfl rfl rfl rfl (nle rfl) (nle rfl) (nle rfl) (rmc hcC (by omega)) (rmc hsC (by omega)) dL_law_2249 ?_
    refine x_iload C 1 rfl dL_law_2252 ?_
    refine x_icmp_eq C 2259 (by decide) dL_law_2254 (fun _ => ?_) (fun hz => absurd e1 hz)
    refine x_iload C 1 rfl dL_law_2259 ?_
    refine x_if_ne C 2276 (by decide) dL_law_2261 (fun _ => ?_) (fun hz => absurd hz (cd0 hcd))
    refine x_goto C 3131 (by decide) dL_law_2276 ?_
    refine x_lv [(4, .int (nI i)), (3, .ref ao), (2, .ref (am 0)), (1, .ref (ap 0)), (0, .ref b)] [2, 3, 4, 5, 6] rfl ?_
    refine x_wid (k := cells + 40) (n := slots + 300) (by omega) (by omega) ?_
    exact K r po pn pl tx rp rl rs rm rn rz sv mm (sp_X7_lose_s u dm sa (xs (i + 1))) fi t2 (sp_X7_lose_dm u dm sa (xs (i + 1))) (sp_X7_lose_th (xs (i + 1))) (sp_X7_lose_sa sa (xs (i + 1))) ln pa le sk nu h fo e3
set_option maxRecDepth 100000 in
set_option maxHeartbeats 2000000 in
theorem c_35 {p : Program} {l : Launch} {e : Env} {s : State} {m : MethodId} {args : Array Value} {below : List Frame} {meth : Method} {c : Code} {cells slots : Nat} {Q : State → Prop} {nm : String} {g : xGt} {A : Nat → Prop} {b L i : Nat} {xs : Nat → Int32} {ap ad am : Nat → Nat} {ao : Nat} {r : xR} {po : Int32} {pn : Int32} {pl : Int32} {tx : Nat → Int32} {rp : Int32} {rl : Int32} {rs : Int32} {rm : Int32} {rn : Int32} {rz : Int32} {sv : xPl} {mm : xPl} {u : Nat → Int32} {fi : Nat → Int32} {t2 : Nat → Int32} {dm : Nat → Int32} {th : Int32} {sa : Int32} {ln : Int32} {pa : Int32} {le : Int32} {sk : Int32} {nu : Int32} {h : Int64} {fo : Nat → Int64} (C : xC p l s m args meth c cL_law 9 RL nm g.1 (xT g) A) (hX : va_X b L xs s s.heap) (hbl : b < s.heap.size) (hbA : ¬ A b) (hi : i + 6 ≤ L) (hL : L ≤ 3072) (hcC : cells + 40 ≤ room_1.cells) (hsC : slots + 300 ≤ room_1.slots) (H : RI r po pn pl tx sv mm u fi t2 sa ln) (K : LK p l e s m args below meth c g A ap ad am ao b i (cells + 40) (slots + 300) Q) : xW p l e room_1 s m args below meth c g.1 A 9 cells slots Q (wLaw g ap ad am ao r po pn pl tx rp rl rs rm rn rz sv mm u fi t2 dm th sa ln pa le sk nu h fo) [(4, .int (nI i)), (3, .ref ao), (2, .ref (am 0)), (1, .ref (ap 0)), (0, .ref b)] 2279 [] := by
  refine x_ws (ws' := ((wOu g ao fo) ++ ((wMo g am u fi t2 dm th sa ln pa le sk nu h) ++ (wCl g ap ad r po pn pl tx rp rl rs rm rn rz sv mm)))) rfl ?_
  refine x_aload_n C 3 rfl rfl dL_law_2279 ?_
  refine x_aload_n C 4 rfl rfl dL_law_2280 ?_
  refine x_iload C 0 rfl dL_law_2281 ?_
  refine x_iconst C 1 (by decide) dL_law_2283 ?_
  refine x_iaddN C i 1 rfl rfl dL_law_2284 ?_
  refine x_sld C (i + 1) hX hbl hbA rfl (by omega) (by omega) dL_law_2285 ?_
  refine x_aload_n C 1 rfl rfl dL_law_2286 ?_
  refine x_callL (X := (wOu g ao fo)) (Y := (wMo g am u fi t2 dm th sa ln pa le sk nu h)) (Z := (wCl g ap ad r po pn pl tx rp rl rs rm rn rz sv mm)) [.ref (ap 0), .int (xs (i + 1)), .ref ao] [] C (k_L_setDelay l g ao fo ap ad r po pn pl tx rp rl rs rm rn rz sv mm (xs (i + 1)) H.clo) yH_L_setDelay wML_L_269 rfl rfl rfl (nle rfl) (nle rfl) (nle rfl) (rmc hcC (by omega)) (rmc hsC (by omega)) dL_law_2287 (fun r0 w0 h0 => ?_)
  have hP := P_setDelay r po pn pl tx rp rl rs rm rn rz sv mm u fi t2 dm th sa ln pa le sk nu h (xs (i + 1)) H
  rcases h0 with ⟨h1, rfl, w8, hw, rfl⟩ | ⟨E, cd, h1, hcd, rfl, rfl⟩
  · obtain ⟨adn, rfl⟩ := hw
    obtain ⟨e1, e2, e3⟩ := hP.1 h1
    refine x_perm (ws' := ((wOu g ao (vp_updL fo 0 (Int32.toInt64 r.jd))) ++ ((wMo g am u fi t2 dm th sa ln pa le sk nu h) ++ (wCl g ap ad (r.set_jd (xs (i + 1))) (sp_spo2 po pn) (sp_spn2 pn) pl tx rp rl rs rm rn rz (svS sv adn r po pn) mm)))) (List.perm_append_comm_assoc (wMo g am u fi t2 dm th sa ln pa le sk nu h) (wOu g ao (vp_updL fo 0 (Int32.toInt64 r.jd))) (wCl g ap ad (r.set_jd (xs (i + 1))) (sp_spo2 po pn) (sp_spn2 pn) pl tx rp rl rs rm rn rz (svS sv adn r po pn) mm)) ?_
    refine x_st (st' := [.int 0]) rfl ?_
    refine x_istore C [(5, .int 0), (4, .int (nI i)), (3, .ref ao), (2, .ref (am 0)), (1, .ref (ap 0)), (0, .ref b)] rfl (by decide) dL_law_2290 ?_
    refine x_aload_n C 3 rfl rfl dL_law_2292 ?_
    refine x_aload_n C 5 rfl rfl dL_law_2293 ?_
    refine x_iload C 1 rfl dL_law_2294 ?_
    refine x_iconst C 1 (by decide) dL_law_2296 ?_
    refine x_iaddN C i 1 rfl rfl dL_law_2297 ?_
    refine x_sld C (i + 1) hX hbl hbA rfl (by omega) (by omega) dL_law_2298 ?_
    refine x_FV (w1 := (wOu g ao (vp_updL fo 0 (Int32.toInt64 r.jd)))) (wc := (wMo g am u fi t2 dm th sa ln pa le sk nu h)) (w2 := (wCl g ap ad (r.set_jd (xs (i + 1))) (sp_spo2 po pn) (sp_spn2 pn) pl tx rp rl rs rm rn rz (svS sv adn r po pn) mm)) [.int (xs (i + 1))] [] ((wOu g ao (vp_updL fo 0 (Int32.toInt64 r.jd))) ++ ((wMo g am (sp_X7_setDelay_s u sa (xs (i + 1))) fi t2 dm (sp_X7_setDelay_th (xs (i + 1))) (sp_X7_setDelay_sa sa (xs (i + 1))) ln pa le sk nu h) ++ (wCl g ap ad (r.set_jd (xs (i + 1))) (sp_spo2 po pn) (sp_spn2 pn) pl tx rp rl rs rm rn rz (svS sv adn r po pn) mm))) C (k_X7_setDelay l g am u fi t2 dm th sa ln pa le sk nu h (xs (i + 1)) H.hs H.hs6 H.hm) rfl yV_X7_setDelay wML_L_271 rfl 1 rfl rfl rfl rfl (nle rfl) (nle rfl) (nle rfl) (rmc hcC (by omega)) (rmc hsC (by omega)) dL_law_2299 ?_
    refine x_istore C [(6, .int (sp_X7_setDelay u sa (xs (i + 1)))), (5, .int 0), (4, .int (nI i)), (3, .ref ao), (2, .ref (am 0)), (1, .ref (ap 0)), (0, .ref b)] rfl (by decide) dL_law_2302 ?_
    refine x_aload_n C 4 rfl rfl dL_law_2304 ?_
    refine x_FV (w1 := (wOu g ao (vp_updL fo 0 (Int32.toInt64 r.jd)))) (wc := (wMo g am (sp_X7_setDelay_s u sa (xs (i + 1))) fi t2 dm (sp_X7_setDelay_th (xs (i + 1))) (sp_X7_setDelay_sa sa (xs (i + 1))) ln pa le sk nu h)) (w2 := (wCl g ap ad (r.set_jd (xs (i + 1))) (sp_spo2 po pn) (sp_spn2 pn) pl tx rp rl rs rm rn rz (svS sv adn r po pn) mm)) [] [] ((wOu g ao (vp_updL fo 0 (Int32.toInt64 r.jd))) ++ ((wMo g am (sp_X7_setDelay_s u sa (xs (i + 1))) fi t2 dm (sp_X7_setDelay_th (xs (i + 1))) (sp_X7_setDelay_sa sa (xs (i + 1))) ln pa le sk nu h) ++ (wCl g ap ad (r.set_jd (xs (i + 1))) (sp_spo2 po pn) (sp_spn2 pn) pl tx rp rl rs rm rn rz (svS sv adn r po pn) mm))) C (k_X7_thrown l g am (sp_X7_setDelay_s u sa (xs (i + 1))) fi t2 dm (sp_X7_setDelay_th (xs (i + 1))) (sp_X7_setDelay_sa sa (xs (i + 1))) ln pa le sk nu h) rfl yV_X7_thrown wML_L_154 rfl 1 rfl rfl rfl rfl (nle rfl) (nle rfl) (nle rfl) (rmc hcC (by omega)) (rmc hsC (by omega)) dL_law_2305 ?_
    refine x_iload C 1 rfl dL_law_2308 ?_
    refine x_icmp_eq C 2315 (by decide) dL_law_2310 (fun _ => ?_) (fun hz => absurd e1 hz)
    refine x_iload C 1 rfl dL_law_2315 ?_
    refine x_if_ne C 2332 (by decide) dL_law_2317 (fun hz => absurd (by decide) hz) (fun _ => ?_)
    refine x_aload_n C 3 rfl rfl dL_law_2320 ?_
    refine x_iconst C 0 (by decide) dL_law_2321 ?_
    refine x_lald (f := (vp_updL fo 0 (Int32.toInt64 r.jd))) C 0 3 rfl rfl in1 dL_law_2322 ?_
    refine x_st (st' := [.long (Int32.toInt64 r.jd)]) rfl ?_
    refine x_iload C 0 rfl dL_law_2323 ?_
    refine x_i2l C dL_law_2325 ?_
    refine x_lcmp C dL_law_2326 ?_
    refine x_if_eq C 2332 (by decide) dL_law_2327 (fun _ => ?_) (fun hz => absurd (lgz (congrArg Int32.toInt64 e2)) hz)
    refine x_goto C 3131 (by decide) dL_law_2332 ?_
    refine x_lv [(4, .int (nI i)), (3, .ref ao), (2, .ref (am 0)), (1, .ref (ap 0)), (0, .ref b)] [2, 3, 4, 5, 6] rfl ?_
    refine x_wid (k := cells + 40) (n := slots + 300) (by omega) (by omega) ?_
    exact K (r.set_jd (xs (i + 1))) (sp_spo2 po pn) (sp_spn2 pn) pl tx rp rl rs rm rn rz (svS sv adn r po pn) mm (sp_X7_setDelay_s u sa (xs (i + 1))) fi t2 dm (sp_X7_setDelay_th (xs (i + 1))) (sp_X7_setDelay_sa sa (xs (i + 1))) ln pa le sk nu h (vp_updL fo 0 (Int32.toInt64 r.jd)) (e3 adn)
  · obtain ⟨e1, e3⟩ := hP.2 E cd h1 hcd
    refine x_perm (ws' := ((wOu g ao fo) ++ ((wMo g am u fi t2 dm th sa ln pa le sk nu h) ++ (wCl g ap ad r po pn pl tx rp rl rs rm rn rz sv mm)))) (List.perm_append_comm_assoc (wMo g am u fi t2 dm th sa ln pa le sk nu h) (wOu g ao fo) (wCl g ap ad r po pn pl tx rp rl rs rm rn rz sv mm)) ?_
    refine x_st (st' := [.int cd]) rfl ?_
    refine x_istore C [(5, .int cd), (4, .int (nI i)), (3, .ref ao), (2, .ref (am 0)), (1, .ref (ap 0)), (0, .ref b)] rfl (by decide) dL_law_2290 ?_
    refine x_aload_n C 3 rfl rfl dL_law_2292 ?_
    refine x_aload_n C 5 rfl rfl dL_law_2293 ?_
    refine x_iload C 1 rfl dL_law_2294 ?_
    refine x_iconst C 1 (by decide) dL_law_2296 ?_
    refine x_iaddN C i 1 rfl rfl dL_law_2297 ?_
    refine x_sld C (i + 1) hX hbl hbA rfl (by omega) (by omega) dL_law_2298 ?_
    refine x_FV (w1 := (wOu g ao fo)) (wc := (wMo g am u fi t2 dm th sa ln pa le sk nu h)) (w2 := (wCl g ap ad r po pn pl tx rp rl rs rm rn rz sv mm)) [.int (xs (i + 1))] [] ((wOu g ao fo) ++ ((wMo g am (sp_X7_setDelay_s u sa (xs (i + 1))) fi t2 dm (sp_X7_setDelay_th (xs (i + 1))) (sp_X7_setDelay_sa sa (xs (i + 1))) ln pa le sk nu h) ++ (wCl g ap ad r po pn pl tx rp rl rs rm rn rz sv mm))) C (k_X7_setDelay l g am u fi t2 dm th sa ln pa le sk nu h (xs (i + 1)) H.hs H.hs6 H.hm) rfl yV_X7_setDelay wML_L_271 rfl 1 rfl rfl rfl rfl (nle rfl) (nle rfl) (nle rfl) (rmc hcC (by omega)) (rmc hsC (by omega)) dL_law_2299 ?_
    refine x_istore C [(6, .int (sp_X7_setDelay u sa (xs (i + 1)))), (5, .int cd), (4, .int (nI i)), (3, .ref ao), (2, .ref (am 0)), (1, .ref (ap 0)), (0, .ref b)] rfl (by decide) dL_law_2302 ?_
    refine x_aload_n C 4 rfl rfl dL_law_2304 ?_
    refine x_FV (w1 := (wOu g ao fo)) (wc := (wMo g am (sp_X7_setDelay_s u sa (xs (i + 1))) fi t2 dm (sp_X7_setDelay_th (xs (i + 1))) (sp_X7_setDelay_sa sa (xs (i + 1))) ln pa le sk nu h)) (w2 := (wCl g ap ad r po pn pl tx rp rl rs rm rn rz sv mm)) [] [] ((wOu g ao fo) ++ ((wMo g am (sp_X7_setDelay_s u sa (xs (i + 1))) fi t2 dm (sp_X7_setDelay_th (xs (i + 1))) (sp_X7_setDelay_sa sa (xs (i + 1))) ln pa le sk nu h) ++ (wCl g ap ad r po pn pl tx rp rl rs rm rn rz sv mm))) C (k_X7_thrown l g am (sp_X7_setDelay_s u sa (xs (i + 1))) fi t2 dm (sp_X7_setDelay_th (xs (i + 1))) (sp_X7_setDelay_sa sa (xs (i + 1))) ln pa le sk nu h) rfl yV_X7_thrown wML_L_154 rfl 1 rfl rfl rfl rfl (nle rfl) (nle rfl) (nle rfl) (rmc hcC (by omega)) (rmc hsC (by omega)) dL_law_2305 ?_
    refine x_iload C 1 rfl dL_law_2308 ?_
    refine x_icmp_eq C 2315 (by decide) dL_law_2310 (fun _ => ?_) (fun hz => absurd e1 hz)
    refine x_iload C 1 rfl dL_law_2315 ?_
    refine x_if_ne C 2332 (by decide) dL_law_2317 (fun _ => ?_) (fun hz => absurd hz (cd0 hcd))
    refine x_goto C 3131 (by decide) dL_law_2332 ?_
    refine x_lv [(4, .int (nI i)), (3, .ref ao), (2, .ref (am 0)), (1, .ref (ap 0)), (0, .ref b)] [2, 3, 4, 5, 6] rfl ?_
    refine x_wid (k := cells + 40) (n := slots + 300) (by omega) (by omega) ?_
    exact K r po pn pl tx rp rl rs rm rn rz sv mm (sp_X7_setDelay_s u sa (xs (i + 1))) fi t2 dm (sp_X7_setDelay_th (xs (i + 1))) (sp_X7_setDelay_sa sa (xs (i + 1))) ln pa le sk nu h fo e3
set_option maxRecDepth 100000 in
set_option maxHeartbeats 2000000 in
theorem c_36 {p : Program} {l : Launch} {e : Env} {s : State} {m : MethodId} {args : Array Value} {below : List Frame} {meth : Method} {c : Code} {cells slots : Nat} {Q : State → Prop} {nm : String} {g : xGt} {A : Nat → Prop} {b L i : Nat} {xs : Nat → Int32} {ap ad am : Nat → Nat} {ao : Nat} {r : xR} {po : Int32} {pn : Int32} {pl : Int32} {tx : Nat → Int32} {rp : Int32} {rl : Int32} {rs : Int32} {rm : Int32} {rn : Int32} {rz : Int32} {sv : xPl} {mm : xPl} {u : Nat → Int32} {fi : Nat → Int32} {t2 : Nat → Int32} {dm : Nat → Int32} {th : Int32} {sa : Int32} {ln : Int32} {pa : Int32} {le : Int32} {sk : Int32} {nu : Int32} {h : Int64} {fo : Nat → Int64} (C : xC p l s m args meth c cL_law 9 RL nm g.1 (xT g) A) (hX : va_X b L xs s s.heap) (hbl : b < s.heap.size) (hbA : ¬ A b) (hi : i + 6 ≤ L) (hL : L ≤ 3072) (hcC : cells + 40 ≤ room_1.cells) (hsC : slots + 300 ≤ room_1.slots) (H : RI r po pn pl tx sv mm u fi t2 sa ln) (K : LK p l e s m args below meth c g A ap ad am ao b i (cells + 40) (slots + 300) Q) : xW p l e room_1 s m args below meth c g.1 A 9 cells slots Q (wLaw g ap ad am ao r po pn pl tx rp rl rs rm rn rz sv mm u fi t2 dm th sa ln pa le sk nu h fo) [(4, .int (nI i)), (3, .ref ao), (2, .ref (am 0)), (1, .ref (ap 0)), (0, .ref b)] 2335 [] := by
  refine x_ws (ws' := ((wOu g ao fo) ++ ((wMo g am u fi t2 dm th sa ln pa le sk nu h) ++ (wCl g ap ad r po pn pl tx rp rl rs rm rn rz sv mm)))) rfl ?_
  refine x_aload_n C 3 rfl rfl dL_law_2335 ?_
  refine x_EV1 (w1 := (wOu g ao fo) ++ (wMo g am u fi t2 dm th sa ln pa le sk nu h)) (wc := (wCl g ap ad r po pn pl tx rp rl rs rm rn rz sv mm)) [] [] C (k_X6_charge l g ap ad r po pn pl tx rp rl rs rm rn rz sv mm H.clo) (List.append_assoc _ _ _).symm yV_X6_charge wML_L_272 6 rfl rfl rfl rfl (nle rfl) (nle rfl) (nle rfl) (rmc hcC (by omega)) (rmc hsC (by omega)) dL_law_2336 (fun E w h => h.elim) (fun r0 w0 h0 => ?_)
  have hP := P_charge r po pn pl tx rp rl rs rm rn rz sv mm u fi t2 dm th sa ln pa le sk nu h  H
  obtain ⟨rfl, adn, rfl⟩ := h0
  refine x_ws (ws' := ((wOu g ao fo) ++ ((wMo g am u fi t2 dm th sa ln pa le sk nu h) ++ (wCl g ap ad (xRk r.kp r.ke r.kr r.kt r.kh r.kc r.xn r.xs r.xv r.xh r.xo r.xc r.vd r.vn r.vl r.vu r.vs r.vm r.vp r.vt r.va r.vw r.jd 20000 (r.jc + (20000 - r.jb)) r.js r.jl r.jx r.ji r.jf r.jn r.dq) (sp_spo2 po pn) (sp_spn2 pn) pl tx rp rl rs rm rn rz (svS sv adn r po pn) mm)))) (List.append_assoc _ _ _) ?_
  refine x_st (st' := [.int (20000 - r.jb)]) rfl ?_
  refine x_aload_n C 2 rfl rfl dL_law_2339 ?_
  refine x_FV (w1 := (wOu g ao fo)) (wc := (wMo g am u fi t2 dm th sa ln pa le sk nu h)) (w2 := (wCl g ap ad (xRk r.kp r.ke r.kr r.kt r.kh r.kc r.xn r.xs r.xv r.xh r.xo r.xc r.vd r.vn r.vl r.vu r.vs r.vm r.vp r.vt r.va r.vw r.jd 20000 (r.jc + (20000 - r.jb)) r.js r.jl r.jx r.ji r.jf r.jn r.dq) (sp_spo2 po pn) (sp_spn2 pn) pl tx rp rl rs rm rn rz (svS sv adn r po pn) mm)) [] [.int (20000 - r.jb)] ((wOu g ao fo) ++ ((wMo g am (sp_X7_charge_s u sa) fi t2 dm 0 (sp_X7_save_sa sa) ln pa le sk nu h) ++ (wCl g ap ad (xRk r.kp r.ke r.kr r.kt r.kh r.kc r.xn r.xs r.xv r.xh r.xo r.xc r.vd r.vn r.vl r.vu r.vs r.vm r.vp r.vt r.va r.vw r.jd 20000 (r.jc + (20000 - r.jb)) r.js r.jl r.jx r.ji r.jf r.jn r.dq) (sp_spo2 po pn) (sp_spn2 pn) pl tx rp rl rs rm rn rz (svS sv adn r po pn) mm))) C (k_X7_charge l g am u fi t2 dm th sa ln pa le sk nu h H.hs H.hs6 H.hm) rfl yV_X7_charge wML_L_275 rfl 1 rfl rfl rfl rfl (nle rfl) (nle rfl) (nle rfl) (rmc hcC (by omega)) (rmc hsC (by omega)) dL_law_2340 ?_
  refine x_icmp_eq C 3131 (by decide) dL_law_2343 (fun _ => ?_) (fun hz => absurd hP.1 hz)
  refine x_wid (k := cells + 40) (n := slots + 300) (by omega) (by omega) ?_
  exact K (xRk r.kp r.ke r.kr r.kt r.kh r.kc r.xn r.xs r.xv r.xh r.xo r.xc r.vd r.vn r.vl r.vu r.vs r.vm r.vp r.vt r.va r.vw r.jd 20000 (r.jc + (20000 - r.jb)) r.js r.jl r.jx r.ji r.jf r.jn r.dq) (sp_spo2 po pn) (sp_spn2 pn) pl tx rp rl rs rm rn rz (svS sv adn r po pn) mm (sp_X7_charge_s u sa) fi t2 dm 0 (sp_X7_save_sa sa) ln pa le sk nu h fo (hP.2 adn)
set_option maxRecDepth 100000 in
set_option maxHeartbeats 2000000 in
theorem c_37 {p : Program} {l : Launch} {e : Env} {s : State} {m : MethodId} {args : Array Value} {below : List Frame} {meth : Method} {c : Code} {cells slots : Nat} {Q : State → Prop} {nm : String} {g : xGt} {A : Nat → Prop} {b L i : Nat} {xs : Nat → Int32} {ap ad am : Nat → Nat} {ao : Nat} {r : xR} {po : Int32} {pn : Int32} {pl : Int32} {tx : Nat → Int32} {rp : Int32} {rl : Int32} {rs : Int32} {rm : Int32} {rn : Int32} {rz : Int32} {sv : xPl} {mm : xPl} {u : Nat → Int32} {fi : Nat → Int32} {t2 : Nat → Int32} {dm : Nat → Int32} {th : Int32} {sa : Int32} {ln : Int32} {pa : Int32} {le : Int32} {sk : Int32} {nu : Int32} {h : Int64} {fo : Nat → Int64} (C : xC p l s m args meth c cL_law 9 RL nm g.1 (xT g) A) (hX : va_X b L xs s s.heap) (hbl : b < s.heap.size) (hbA : ¬ A b) (hi : i + 6 ≤ L) (hL : L ≤ 3072) (hcC : cells + 40 ≤ room_1.cells) (hsC : slots + 300 ≤ room_1.slots) (H : RI r po pn pl tx sv mm u fi t2 sa ln) (K : LK p l e s m args below meth c g A ap ad am ao b i (cells + 40) (slots + 300) Q) : xW p l e room_1 s m args below meth c g.1 A 9 cells slots Q (wLaw g ap ad am ao r po pn pl tx rp rl rs rm rn rz sv mm u fi t2 dm th sa ln pa le sk nu h fo) [(4, .int (nI i)), (3, .ref ao), (2, .ref (am 0)), (1, .ref (ap 0)), (0, .ref b)] 2348 [] := by
  refine x_ws (ws' := ((wOu g ao fo) ++ ((wMo g am u fi t2 dm th sa ln pa le sk nu h) ++ (wCl g ap ad r po pn pl tx rp rl rs rm rn rz sv mm)))) rfl ?_
  refine x_aload_n C 3 rfl rfl dL_law_2348 ?_
  refine x_EV1 (w1 := (wOu g ao fo) ++ (wMo g am u fi t2 dm th sa ln pa le sk nu h)) (wc := (wCl g ap ad r po pn pl tx rp rl rs rm rn rz sv mm)) [] [] C (k_X6_battery l g ap ad r po pn pl tx rp rl rs rm rn rz sv mm H.clo) (List.append_assoc _ _ _).symm yV_X6_battery wML_L_276 6 rfl rfl rfl rfl (nle rfl) (nle rfl) (nle rfl) (rmc hcC (by omega)) (rmc hsC (by omega)) dL_law_2349 (fun E w h => h.elim) (fun r0 w0 h0 => ?_)
  have hP := P_battery r po pn pl tx rp rl rs rm rn rz sv mm u fi t2 dm th sa ln pa le sk nu h  H
  obtain ⟨rfl, rfl⟩ := h0
  refine x_ws (ws' := ((wOu g ao fo) ++ ((wMo g am u fi t2 dm th sa ln pa le sk nu h) ++ (wCl g ap ad r po pn pl tx rp rl rs rm rn rz sv mm)))) (List.append_assoc _ _ _) ?_
  refine x_st (st' := [.int r.jb]) rfl ?_
  refine x_aload_n C 2 rfl rfl dL_law_2352 ?_
  refine x_FV (w1 := (wOu g ao fo)) (wc := (wMo g am u fi t2 dm th sa ln pa le sk nu h)) (w2 := (wCl g ap ad r po pn pl tx rp rl rs rm rn rz sv mm)) [] [.int r.jb] ((wOu g ao fo) ++ ((wMo g am u fi t2 dm 0 sa ln pa le sk nu h) ++ (wCl g ap ad r po pn pl tx rp rl rs rm rn rz sv mm))) C (k_X7_battery l g am u fi t2 dm th sa ln pa le sk nu h H.hs H.hs6 H.hm) rfl yV_X7_battery wML_L_279 rfl 1 rfl rfl rfl rfl (nle rfl) (nle rfl) (nle rfl) (rmc hcC (by omega)) (rmc hsC (by omega)) dL_law_2353 ?_
  refine x_icmp_eq C 3131 (by decide) dL_law_2356 (fun _ => ?_) (fun hz => absurd hP.1 hz)
  refine x_wid (k := cells + 40) (n := slots + 300) (by omega) (by omega) ?_
  exact K r po pn pl tx rp rl rs rm rn rz sv mm u fi t2 dm 0 sa ln pa le sk nu h fo hP.2
set_option maxRecDepth 100000 in
set_option maxHeartbeats 2000000 in
theorem c_38 {p : Program} {l : Launch} {e : Env} {s : State} {m : MethodId} {args : Array Value} {below : List Frame} {meth : Method} {c : Code} {cells slots : Nat} {Q : State → Prop} {nm : String} {g : xGt} {A : Nat → Prop} {b L i : Nat} {xs : Nat → Int32} {ap ad am : Nat → Nat} {ao : Nat} {r : xR} {po : Int32} {pn : Int32} {pl : Int32} {tx : Nat → Int32} {rp : Int32} {rl : Int32} {rs : Int32} {rm : Int32} {rn : Int32} {rz : Int32} {sv : xPl} {mm : xPl} {u : Nat → Int32} {fi : Nat → Int32} {t2 : Nat → Int32} {dm : Nat → Int32} {th : Int32} {sa : Int32} {ln : Int32} {pa : Int32} {le : Int32} {sk : Int32} {nu : Int32} {h : Int64} {fo : Nat → Int64} (C : xC p l s m args meth c cL_law 9 RL nm g.1 (xT g) A) (hX : va_X b L xs s s.heap) (hbl : b < s.heap.size) (hbA : ¬ A b) (hi : i + 6 ≤ L) (hL : L ≤ 3072) (hcC : cells + 40 ≤ room_1.cells) (hsC : slots + 300 ≤ room_1.slots) (H : RI r po pn pl tx sv mm u fi t2 sa ln) (K : LK p l e s m args below meth c g A ap ad am ao b i (cells + 40) (slots + 300) Q) : xW p l e room_1 s m args below meth c g.1 A 9 cells slots Q (wLaw g ap ad am ao r po pn pl tx rp rl rs rm rn rz sv mm u fi t2 dm th sa ln pa le sk nu h fo) [(4, .int (nI i)), (3, .ref ao), (2, .ref (am 0)), (1, .ref (ap 0)), (0, .ref b)] 2361 [] := by
  refine x_ws (ws' := ((wOu g ao fo) ++ ((wMo g am u fi t2 dm th sa ln pa le sk nu h) ++ (wCl g ap ad r po pn pl tx rp rl rs rm rn rz sv mm)))) rfl ?_
  refine x_aload_n C 3 rfl rfl dL_law_2361 ?_
  refine x_EV1 (w1 := (wOu g ao fo) ++ (wMo g am u fi t2 dm th sa ln pa le sk nu h)) (wc := (wCl g ap ad r po pn pl tx rp rl rs rm rn rz sv mm)) [] [] C (k_X6_charged l g ap ad r po pn pl tx rp rl rs rm rn rz sv mm H.clo) (List.append_assoc _ _ _).symm yV_X6_charged wML_L_280 6 rfl rfl rfl rfl (nle rfl) (nle rfl) (nle rfl) (rmc hcC (by omega)) (rmc hsC (by omega)) dL_law_2362 (fun E w h => h.elim) (fun r0 w0 h0 => ?_)
  have hP := P_charged r po pn pl tx rp rl rs rm rn rz sv mm u fi t2 dm th sa ln pa le sk nu h  H
  obtain ⟨rfl, rfl⟩ := h0
  refine x_ws (ws' := ((wOu g ao fo) ++ ((wMo g am u fi t2 dm th sa ln pa le sk nu h) ++ (wCl g ap ad r po pn pl tx rp rl rs rm rn rz sv mm)))) (List.append_assoc _ _ _) ?_
  refine x_st (st' := [.int r.jc]) rfl ?_
  refine x_aload_n C 2 rfl rfl dL_law_2365 ?_
  refine x_FV (w1 := (wOu g ao fo)) (wc := (wMo g am u fi t2 dm th sa ln pa le sk nu h)) (w2 := (wCl g ap ad r po pn pl tx rp rl rs rm rn rz sv mm)) [] [.int r.jc] ((wOu g ao fo) ++ ((wMo g am u fi t2 dm 0 sa ln pa le sk nu h) ++ (wCl g ap ad r po pn pl tx rp rl rs rm rn rz sv mm))) C (k_X7_charged l g am u fi t2 dm th sa ln pa le sk nu h H.hs H.hs6 H.hm) rfl yV_X7_charged wML_L_283 rfl 1 rfl rfl rfl rfl (nle rfl) (nle rfl) (nle rfl) (rmc hcC (by omega)) (rmc hsC (by omega)) dL_law_2366 ?_
  refine x_icmp_eq C 3131 (by decide) dL_law_2369 (fun _ => ?_) (fun hz => absurd hP.1 hz)
  refine x_wid (k := cells + 40) (n := slots + 300) (by omega) (by omega) ?_
  exact K r po pn pl tx rp rl rs rm rn rz sv mm u fi t2 dm 0 sa ln pa le sk nu h fo hP.2
set_option maxRecDepth 100000 in
set_option maxHeartbeats 2000000 in
theorem c_39 {p : Program} {l : Launch} {e : Env} {s : State} {m : MethodId} {args : Array Value} {below : List Frame} {meth : Method} {c : Code} {cells slots : Nat} {Q : State → Prop} {nm : String} {g : xGt} {A : Nat → Prop} {b L i : Nat} {xs : Nat → Int32} {ap ad am : Nat → Nat} {ao : Nat} {r : xR} {po : Int32} {pn : Int32} {pl : Int32} {tx : Nat → Int32} {rp : Int32} {rl : Int32} {rs : Int32} {rm : Int32} {rn : Int32} {rz : Int32} {sv : xPl} {mm : xPl} {u : Nat → Int32} {fi : Nat → Int32} {t2 : Nat → Int32} {dm : Nat → Int32} {th : Int32} {sa : Int32} {ln : Int32} {pa : Int32} {le : Int32} {sk : Int32} {nu : Int32} {h : Int64} {fo : Nat → Int64} (C : xC p l s m args meth c cL_law 9 RL nm g.1 (xT g) A) (hX : va_X b L xs s s.heap) (hbl : b < s.heap.size) (hbA : ¬ A b) (hi : i + 6 ≤ L) (hL : L ≤ 3072) (hcC : cells + 40 ≤ room_1.cells) (hsC : slots + 300 ≤ room_1.slots) (H : RI r po pn pl tx sv mm u fi t2 sa ln) (K : LK p l e s m args below meth c g A ap ad am ao b i (cells + 40) (slots + 300) Q) : xW p l e room_1 s m args below meth c g.1 A 9 cells slots Q (wLaw g ap ad am ao r po pn pl tx rp rl rs rm rn rz sv mm u fi t2 dm th sa ln pa le sk nu h fo) [(4, .int (nI i)), (3, .ref ao), (2, .ref (am 0)), (1, .ref (ap 0)), (0, .ref b)] 2374 [] := by
  refine x_ws (ws' := ((wOu g ao fo) ++ ((wMo g am u fi t2 dm th sa ln pa le sk nu h) ++ (wCl g ap ad r po pn pl tx rp rl rs rm rn rz sv mm)))) rfl ?_
  refine x_aload_n C 3 rfl rfl dL_law_2374 ?_
  refine x_EV1 (w1 := (wOu g ao fo) ++ (wMo g am u fi t2 dm th sa ln pa le sk nu h)) (wc := (wCl g ap ad r po pn pl tx rp rl rs rm rn rz sv mm)) [] [] C (k_X6_frames l g ap ad r po pn pl tx rp rl rs rm rn rz sv mm H.clo) (List.append_assoc _ _ _).symm yV_X6_frames wML_L_284 6 rfl rfl rfl rfl (nle rfl) (nle rfl) (nle rfl) (rmc hcC (by omega)) (rmc hsC (by omega)) dL_law_2375 (fun E w h => h.elim) (fun r0 w0 h0 => ?_)
  have hP := P_frames r po pn pl tx rp rl rs rm rn rz sv mm u fi t2 dm th sa ln pa le sk nu h  H
  obtain ⟨rfl, rfl⟩ := h0
  refine x_ws (ws' := ((wOu g ao fo) ++ ((wMo g am u fi t2 dm th sa ln pa le sk nu h) ++ (wCl g ap ad r po pn pl tx rp rl rs rm rn rz sv mm)))) (List.append_assoc _ _ _) ?_
  refine x_st (st' := [.int r.js]) rfl ?_
  refine x_aload_n C 2 rfl rfl dL_law_2378 ?_
  refine x_FV (w1 := (wOu g ao fo)) (wc := (wMo g am u fi t2 dm th sa ln pa le sk nu h)) (w2 := (wCl g ap ad r po pn pl tx rp rl rs rm rn rz sv mm)) [] [.int r.js] ((wOu g ao fo) ++ ((wMo g am u fi t2 dm 0 sa ln pa le sk nu h) ++ (wCl g ap ad r po pn pl tx rp rl rs rm rn rz sv mm))) C (k_X7_frames l g am u fi t2 dm th sa ln pa le sk nu h H.hs H.hs6 H.hm) rfl yV_X7_frames wML_L_287 rfl 1 rfl rfl rfl rfl (nle rfl) (nle rfl) (nle rfl) (rmc hcC (by omega)) (rmc hsC (by omega)) dL_law_2379 ?_
  refine x_icmp_eq C 3131 (by decide) dL_law_2382 (fun _ => ?_) (fun hz => absurd hP.1 hz)
  refine x_wid (k := cells + 40) (n := slots + 300) (by omega) (by omega) ?_
  exact K r po pn pl tx rp rl rs rm rn rz sv mm u fi t2 dm 0 sa ln pa le sk nu h fo hP.2
set_option maxRecDepth 100000 in
set_option maxHeartbeats 2000000 in
theorem c_40 {p : Program} {l : Launch} {e : Env} {s : State} {m : MethodId} {args : Array Value} {below : List Frame} {meth : Method} {c : Code} {cells slots : Nat} {Q : State → Prop} {nm : String} {g : xGt} {A : Nat → Prop} {b L i : Nat} {xs : Nat → Int32} {ap ad am : Nat → Nat} {ao : Nat} {r : xR} {po : Int32} {pn : Int32} {pl : Int32} {tx : Nat → Int32} {rp : Int32} {rl : Int32} {rs : Int32} {rm : Int32} {rn : Int32} {rz : Int32} {sv : xPl} {mm : xPl} {u : Nat → Int32} {fi : Nat → Int32} {t2 : Nat → Int32} {dm : Nat → Int32} {th : Int32} {sa : Int32} {ln : Int32} {pa : Int32} {le : Int32} {sk : Int32} {nu : Int32} {h : Int64} {fo : Nat → Int64} (C : xC p l s m args meth c cL_law 9 RL nm g.1 (xT g) A) (hX : va_X b L xs s s.heap) (hbl : b < s.heap.size) (hbA : ¬ A b) (hi : i + 6 ≤ L) (hL : L ≤ 3072) (hcC : cells + 40 ≤ room_1.cells) (hsC : slots + 300 ≤ room_1.slots) (H : RI r po pn pl tx sv mm u fi t2 sa ln) (K : LK p l e s m args below meth c g A ap ad am ao b i (cells + 40) (slots + 300) Q) : xW p l e room_1 s m args below meth c g.1 A 9 cells slots Q (wLaw g ap ad am ao r po pn pl tx rp rl rs rm rn rz sv mm u fi t2 dm th sa ln pa le sk nu h fo) [(4, .int (nI i)), (3, .ref ao), (2, .ref (am 0)), (1, .ref (ap 0)), (0, .ref b)] 2387 [] := by
  refine x_ws (ws' := ((wOu g ao fo) ++ ((wMo g am u fi t2 dm th sa ln pa le sk nu h) ++ (wCl g ap ad r po pn pl tx rp rl rs rm rn rz sv mm)))) rfl ?_
  refine x_aload_n C 3 rfl rfl dL_law_2387 ?_
  refine x_EV1 (w1 := (wOu g ao fo) ++ (wMo g am u fi t2 dm th sa ln pa le sk nu h)) (wc := (wCl g ap ad r po pn pl tx rp rl rs rm rn rz sv mm)) [] [] C (k_X6_lostFrames l g ap ad r po pn pl tx rp rl rs rm rn rz sv mm H.clo) (List.append_assoc _ _ _).symm yV_X6_lostFrames wML_L_288 6 rfl rfl rfl rfl (nle rfl) (nle rfl) (nle rfl) (rmc hcC (by omega)) (rmc hsC (by omega)) dL_law_2388 (fun E w h => h.elim) (fun r0 w0 h0 => ?_)
  have hP := P_lostFrames r po pn pl tx rp rl rs rm rn rz sv mm u fi t2 dm th sa ln pa le sk nu h  H
  obtain ⟨rfl, rfl⟩ := h0
  refine x_ws (ws' := ((wOu g ao fo) ++ ((wMo g am u fi t2 dm th sa ln pa le sk nu h) ++ (wCl g ap ad r po pn pl tx rp rl rs rm rn rz sv mm)))) (List.append_assoc _ _ _) ?_
  refine x_st (st' := [.int r.jl]) rfl ?_
  refine x_aload_n C 2 rfl rfl dL_law_2391 ?_
  refine x_FV (w1 := (wOu g ao fo)) (wc := (wMo g am u fi t2 dm th sa ln pa le sk nu h)) (w2 := (wCl g ap ad r po pn pl tx rp rl rs rm rn rz sv mm)) [] [.int r.jl] ((wOu g ao fo) ++ ((wMo g am u fi t2 dm 0 sa ln pa le sk nu h) ++ (wCl g ap ad r po pn pl tx rp rl rs rm rn rz sv mm))) C (k_X7_lostFrames l g am u fi t2 dm th sa ln pa le sk nu h H.hs H.hs6 H.hm) rfl yV_X7_lostFrames wML_L_291 rfl 1 rfl rfl rfl rfl (nle rfl) (nle rfl) (nle rfl) (rmc hcC (by omega)) (rmc hsC (by omega)) dL_law_2392 ?_
  refine x_icmp_eq C 3131 (by decide) dL_law_2395 (fun _ => ?_) (fun hz => absurd hP.1 hz)
  refine x_wid (k := cells + 40) (n := slots + 300) (by omega) (by omega) ?_
  exact K r po pn pl tx rp rl rs rm rn rz sv mm u fi t2 dm 0 sa ln pa le sk nu h fo hP.2
set_option maxRecDepth 100000 in
set_option maxHeartbeats 2000000 in
theorem c_41 {p : Program} {l : Launch} {e : Env} {s : State} {m : MethodId} {args : Array Value} {below : List Frame} {meth : Method} {c : Code} {cells slots : Nat} {Q : State → Prop} {nm : String} {g : xGt} {A : Nat → Prop} {b L i : Nat} {xs : Nat → Int32} {ap ad am : Nat → Nat} {ao : Nat} {r : xR} {po : Int32} {pn : Int32} {pl : Int32} {tx : Nat → Int32} {rp : Int32} {rl : Int32} {rs : Int32} {rm : Int32} {rn : Int32} {rz : Int32} {sv : xPl} {mm : xPl} {u : Nat → Int32} {fi : Nat → Int32} {t2 : Nat → Int32} {dm : Nat → Int32} {th : Int32} {sa : Int32} {ln : Int32} {pa : Int32} {le : Int32} {sk : Int32} {nu : Int32} {h : Int64} {fo : Nat → Int64} (C : xC p l s m args meth c cL_law 9 RL nm g.1 (xT g) A) (hX : va_X b L xs s s.heap) (hbl : b < s.heap.size) (hbA : ¬ A b) (hi : i + 6 ≤ L) (hL : L ≤ 3072) (hcC : cells + 40 ≤ room_1.cells) (hsC : slots + 300 ≤ room_1.slots) (H : RI r po pn pl tx sv mm u fi t2 sa ln) (K : LK p l e s m args below meth c g A ap ad am ao b i (cells + 40) (slots + 300) Q) : xW p l e room_1 s m args below meth c g.1 A 9 cells slots Q (wLaw g ap ad am ao r po pn pl tx rp rl rs rm rn rz sv mm u fi t2 dm th sa ln pa le sk nu h fo) [(4, .int (nI i)), (3, .ref ao), (2, .ref (am 0)), (1, .ref (ap 0)), (0, .ref b)] 2400 [] := by
  refine x_ws (ws' := ((wOu g ao fo) ++ ((wMo g am u fi t2 dm th sa ln pa le sk nu h) ++ (wCl g ap ad r po pn pl tx rp rl rs rm rn rz sv mm)))) rfl ?_
  refine x_aload_n C 3 rfl rfl dL_law_2400 ?_
  refine x_EV1 (w1 := (wOu g ao fo) ++ (wMo g am u fi t2 dm th sa ln pa le sk nu h)) (wc := (wCl g ap ad r po pn pl tx rp rl rs rm rn rz sv mm)) [] [] C (k_X6_deadFrames l g ap ad r po pn pl tx rp rl rs rm rn rz sv mm H.clo) (List.append_assoc _ _ _).symm yV_X6_deadFrames wML_L_292 6 rfl rfl rfl rfl (nle rfl) (nle rfl) (nle rfl) (rmc hcC (by omega)) (rmc hsC (by omega)) dL_law_2401 (fun E w h => h.elim) (fun r0 w0 h0 => ?_)
  have hP := P_deadFrames r po pn pl tx rp rl rs rm rn rz sv mm u fi t2 dm th sa ln pa le sk nu h  H
  obtain ⟨rfl, rfl⟩ := h0
  refine x_ws (ws' := ((wOu g ao fo) ++ ((wMo g am u fi t2 dm th sa ln pa le sk nu h) ++ (wCl g ap ad r po pn pl tx rp rl rs rm rn rz sv mm)))) (List.append_assoc _ _ _) ?_
  refine x_st (st' := [.int r.jx]) rfl ?_
  refine x_aload_n C 2 rfl rfl dL_law_2404 ?_
  refine x_FV (w1 := (wOu g ao fo)) (wc := (wMo g am u fi t2 dm th sa ln pa le sk nu h)) (w2 := (wCl g ap ad r po pn pl tx rp rl rs rm rn rz sv mm)) [] [.int r.jx] ((wOu g ao fo) ++ ((wMo g am u fi t2 dm 0 sa ln pa le sk nu h) ++ (wCl g ap ad r po pn pl tx rp rl rs rm rn rz sv mm))) C (k_X7_deadFrames l g am u fi t2 dm th sa ln pa le sk nu h H.hs H.hs6 H.hm) rfl yV_X7_deadFrames wML_L_295 rfl 1 rfl rfl rfl rfl (nle rfl) (nle rfl) (nle rfl) (rmc hcC (by omega)) (rmc hsC (by omega)) dL_law_2405 ?_
  refine x_icmp_eq C 3131 (by decide) dL_law_2408 (fun _ => ?_) (fun hz => absurd hP.1 hz)
  refine x_wid (k := cells + 40) (n := slots + 300) (by omega) (by omega) ?_
  exact K r po pn pl tx rp rl rs rm rn rz sv mm u fi t2 dm 0 sa ln pa le sk nu h fo hP.2
