def slN (kh : Int32) (k : Nat) : Nat := if kh = 0 then k else 4 + k
theorem slN_lt (kh : Int32) {k : Nat} (h : k < 4) : slN kh k < 8 := slot_lt kh h
theorem mx_nz (x : Int32) : ¬ (if (1 : Int32) < x then x else 1) = 0 := by
  split
  · rename_i h
    intro e
    rw [e] at h
    exact absurd h (by decide)
  · decide
theorem putn_ok {xn : Int32} (h : xn = nI xn.toNatClampNeg) : sp_X2_put_xn xn = nI (sp_X2_put_xn xn).toNatClampNeg := by
  unfold sp_X2_put_xn
  split
  · rename_i c
    have hl := xlt_of (k := 12) (c := 12) rfl h (by decide) (Int32.toNatClampNeg_lt _) (Int32.not_le.mpr c)
    have e : xn + 1 = nI (xn.toNatClampNeg + 1) := by
      conv => lhs; rw [h]
      exact nI_1 _
    rw [e, nI_clamp (by omega)]
  · exact h
def er_X6_move (qa : Int32) (qb : Int32) : Option String := (if (¬ qa < 0 ∧ qa < 4) then (if (¬ qb < (-100) ∧ qb ≤ 100) then none else some xIA) else some xIO)
set_option maxRecDepth 100000 in
set_option maxHeartbeats 1000000 in
theorem k_X6_move (l : Launch) (g : xGt) (ap ad : Nat → Nat) (r : xR) (po : Int32) (pn : Int32) (pl : Int32) (tx : Nat → Int32) (rp : Int32) (rl : Int32) (rs : Int32) (rm : Int32) (rn : Int32) (rz : Int32) (sv : xPl) (mm : xPl) (qa : Int32) (qb : Int32) (hc : clO r po pn) : xM l g.1 (xT g) yX6_move (ws_ yX6_move cX6_move 4 (some .int)) (xRm 7 116 27 198) 27 198 [.ref (ap 0), .int qa, .int qb] (wCl g ap ad r po pn pl tx rp rl rs rm rn rz sv mm) (fun r9 w9 => (er_X6_move qa qb) = none ∧ r9 = some (.int (r.kp (Int32.toNatClampNeg qa))) ∧ ∃ adn : Nat → Nat, w9 = (wCl g ap ad (r.set_kp (upd r.kp (Int32.toNatClampNeg qa) qb)) (sp_spo2 po pn) (sp_spn2 pn) pl tx rp rl rs rm rn rz (svS sv adn r po pn) mm)) (fun E w9 => (er_X6_move qa qb) = some E ∧ w9 = (wCl g ap ad r po pn pl tx rp rl rs rm rn rz sv mm)) := by
  have h12 := hc.1.2.2.1
  refine x_start (own := RX6) (nm := "move") rfl rfl (by decide +kernel) rfl (nle rfl) (fun p e σ m args below meth c A C hno hr => ?_)
  refine x_lve (lv' := [(0, .ref (ap 0)), (1, .int qa), (2, .int qb)]) rfl ?_
  refine x_ws (ws' := (wPo g ap ad po pn pl ++ (wS0 g ad ++ (wSk g ad r.kp r.ke r.kr r.kt r.kh r.kc ++ (wMx g ad r.xn r.xs r.xv r.xh r.xo r.xc ++ (wSv g ad r.vd r.vn r.vl r.vu r.vs r.vm r.vp r.vt r.va r.vw ++ (wLk g ad r.jd r.jb r.jc r.js r.jl r.jx r.ji r.jf r.jn ++ (wDm g ad r.dq ++ (wPq g ap (adr sv) (adr mm) tx ++ (wRd g (ap 4) rp rl rs rm rn rz ++ (wPl g sv 6 ++ wPl g mm 2))))))))))) rfl ?_
  refine x_iload_n C 1 rfl rfl dX6_move_0 ?_
  refine x_RS [.int qa] [] C (k_X6_requireStick l g qa) yS_X6_requireStick wML_X6_34 rfl rfl (nle rfl) (nle rfl) (nle rfl) (nle rfl) (nle rfl) dX6_move_1 (fun hk1 => ?_) (fun hk1 => ?_)
  · exact x_out C hno (nle rfl) (nle rfl) ⟨(by simp only [er_X6_move, if_neg hk1]), rfl⟩
  refine x_iload_n C 2 rfl rfl dX6_move_4 ?_
  refine x_bipush C (-100) (by decide) dX6_move_5 ?_
  refine x_bipush C 100 (by decide) dX6_move_7 ?_
  refine x_RS [.int qb, .int (-100), .int 100] [] C (k_X6_requireRange l g qb (-100) 100) yS_X6_requireRange wML_X6_38 rfl rfl (nle rfl) (nle rfl) (nle rfl) (nle rfl) (nle rfl) dX6_move_9 (fun hk2 => ?_) (fun hk2 => ?_)
  · exact x_out C hno (nle rfl) (nle rfl) ⟨(by simp only [er_X6_move, if_pos hk1, if_neg hk2]), rfl⟩
  refine x_aload_n C 0 rfl rfl dX6_move_12 ?_
  refine x_EV0 [] [] C (k_X6_saveState l g ap ad r po pn pl tx rp rl rs rm rn rz sv mm hc) rfl yV_X6_saveState wML_X6_42 0 rfl rfl rfl rfl (nle rfl) (nle rfl) (nle rfl) (nle rfl) (nle rfl) dX6_move_13 (fun E w h => h.elim) (fun r0 w h => ?_)
  obtain ⟨rfl, adn, rfl⟩ := h
  refine x_ws (ws' := (wPo g ap ad (sp_spo2 po pn) (sp_spn2 pn) pl ++ (wS0 g ad ++ (wSk g ad r.kp r.ke r.kr r.kt r.kh r.kc ++ (wMx g ad r.xn r.xs r.xv r.xh r.xo r.xc ++ (wSv g ad r.vd r.vn r.vl r.vu r.vs r.vm r.vp r.vt r.va r.vw ++ (wLk g ad r.jd r.jb r.jc r.js r.jl r.jx r.ji r.jf r.jn ++ (wDm g ad r.dq ++ (wPq g ap (adr (svS sv adn r po pn)) (adr mm) tx ++ (wRd g (ap 4) rp rl rs rm rn rz ++ (wPl g (svS sv adn r po pn) 6 ++ wPl g mm 2))))))))))) rfl ?_
  refine x_st (st' := []) rfl ?_
  refine x_aload_n C 0 rfl rfl dX6_move_16 ?_
  refine x_get C 0 6 0 rfl rfl wLy_X6 wFL_X6_10 rfl (by decide) rfl dX6_move_17 ?_
  refine x_get C 1 4 0 rfl rfl wLy_X4 wFL_X6_45 rfl (by decide) rfl dX6_move_20 ?_
  refine x_get C 2 5 0 rfl rfl wLy_X5 wFL_X6_49 rfl (by decide) rfl dX6_move_23 ?_
  have hk1l := rq_lt hk1 (show (4 : Int32) = nI 4 from rfl) (by decide)
  refine x_iload_n C 1 rfl rfl dX6_move_26 ?_
  refine x_ialdN (f := r.kp) C 3 0 (Int32.toNatClampNeg qa) rfl rfl (rq_nat hk1 (by decide)) (by first | omega | exact slN_lt _ (by omega)) (by decide) dX6_move_27 ?_
  refine x_istore_n C [(3, .int (r.kp (Int32.toNatClampNeg qa))), (0, .ref (ap 0)), (1, .int qa), (2, .int qb)] rfl rfl (by decide) dX6_move_28 ?_
  refine x_aload_n C 1 rfl rfl dX6_move_29 ?_
  refine x_get C 0 6 0 rfl rfl wLy_X6 wFL_X6_10 rfl (by decide) rfl dX6_move_30 ?_
  refine x_get C 1 4 0 rfl rfl wLy_X4 wFL_X6_45 rfl (by decide) rfl dX6_move_33 ?_
  refine x_get C 2 5 0 rfl rfl wLy_X5 wFL_X6_49 rfl (by decide) rfl dX6_move_36 ?_
  have hk1l := rq_lt hk1 (show (4 : Int32) = nI 4 from rfl) (by decide)
  refine x_iload_n C 2 rfl rfl dX6_move_39 ?_
  refine x_iload_n C 3 rfl rfl dX6_move_40 ?_
  refine x_iastN (f := r.kp) C 3 0 (Int32.toNatClampNeg qa) (wPo g ap ad (sp_spo2 po pn) (sp_spn2 pn) pl ++ (wS0 g ad ++ (wSk g ad (upd r.kp (Int32.toNatClampNeg qa) qb) r.ke r.kr r.kt r.kh r.kc ++ (wMx g ad r.xn r.xs r.xv r.xh r.xo r.xc ++ (wSv g ad r.vd r.vn r.vl r.vu r.vs r.vm r.vp r.vt r.va r.vw ++ (wLk g ad r.jd r.jb r.jc r.js r.jl r.jx r.ji r.jf r.jn ++ (wDm g ad r.dq ++ (wPq g ap (adr (svS sv adn r po pn)) (adr mm) tx ++ (wRd g (ap 4) rp rl rs rm rn rz ++ (wPl g (svS sv adn r po pn) 6 ++ wPl g mm 2)))))))))) rfl rfl rfl (rq_nat hk1 (by decide)) (by first | omega | exact slN_lt _ (by omega)) (by decide) dX6_move_41 ?_
  refine x_iload_n C 0 rfl rfl dX6_move_42 ?_
  exact x_iret C hr (nle rfl) (nle rfl) dX6_move_43 ⟨(by simp only [er_X6_move, if_pos hk1, if_pos hk2]), rfl, adn, rfl⟩
def er_X6_position (qa : Int32) : Option String := (if (¬ qa < 0 ∧ qa < 4) then none else some xIO)
set_option maxRecDepth 100000 in
set_option maxHeartbeats 1000000 in
theorem k_X6_position (l : Launch) (g : xGt) (ap ad : Nat → Nat) (r : xR) (po : Int32) (pn : Int32) (pl : Int32) (tx : Nat → Int32) (rp : Int32) (rl : Int32) (rs : Int32) (rm : Int32) (rn : Int32) (rz : Int32) (sv : xPl) (mm : xPl) (qa : Int32) (hc : clO r po pn) : xM l g.1 (xT g) yX6_position (ws_ yX6_position cX6_position 2 (some .int)) (xRm 7 114 1 6) 1 6 [.ref (ap 0), .int qa] (wCl g ap ad r po pn pl tx rp rl rs rm rn rz sv mm) (fun r9 w9 => (er_X6_position qa) = none ∧ r9 = some (.int (r.kp (Int32.toNatClampNeg qa))) ∧ w9 = (wCl g ap ad r po pn pl tx rp rl rs rm rn rz sv mm)) (fun E w9 => (er_X6_position qa) = some E ∧ w9 = (wCl g ap ad r po pn pl tx rp rl rs rm rn rz sv mm)) := by
  have h12 := hc.1.2.2.1
  refine x_start (own := RX6) (nm := "position") rfl rfl (by decide +kernel) rfl (nle rfl) (fun p e σ m args below meth c A C hno hr => ?_)
  refine x_lve (lv' := [(0, .ref (ap 0)), (1, .int qa)]) rfl ?_
  refine x_ws (ws' := (wPo g ap ad po pn pl ++ (wS0 g ad ++ (wSk g ad r.kp r.ke r.kr r.kt r.kh r.kc ++ (wMx g ad r.xn r.xs r.xv r.xh r.xo r.xc ++ (wSv g ad r.vd r.vn r.vl r.vu r.vs r.vm r.vp r.vt r.va r.vw ++ (wLk g ad r.jd r.jb r.jc r.js r.jl r.jx r.ji r.jf r.jn ++ (wDm g ad r.dq ++ (wPq g ap (adr sv) (adr mm) tx ++ (wRd g (ap 4) rp rl rs rm rn rz ++ (wPl g sv 6 ++ wPl g mm 2))))))))))) rfl ?_
  refine x_iload_n C 1 rfl rfl dX6_position_0 ?_
  refine x_RS [.int qa] [] C (k_X6_requireStick l g qa) yS_X6_requireStick wML_X6_34 rfl rfl (nle rfl) (nle rfl) (nle rfl) (nle rfl) (nle rfl) dX6_position_1 (fun hk1 => ?_) (fun hk1 => ?_)
  · exact x_out C hno (nle rfl) (nle rfl) ⟨(by simp only [er_X6_position, if_neg hk1]), rfl⟩
  refine x_aload_n C 0 rfl rfl dX6_position_4 ?_
  refine x_get C 0 6 0 rfl rfl wLy_X6 wFL_X6_10 rfl (by decide) rfl dX6_position_5 ?_
  refine x_get C 1 4 0 rfl rfl wLy_X4 wFL_X6_45 rfl (by decide) rfl dX6_position_8 ?_
  refine x_get C 2 5 0 rfl rfl wLy_X5 wFL_X6_49 rfl (by decide) rfl dX6_position_11 ?_
  have hk1l := rq_lt hk1 (show (4 : Int32) = nI 4 from rfl) (by decide)
  refine x_iload_n C 1 rfl rfl dX6_position_14 ?_
  refine x_ialdN (f := r.kp) C 3 0 (Int32.toNatClampNeg qa) rfl rfl (rq_nat hk1 (by decide)) (by first | omega | exact slN_lt _ (by omega)) (by decide) dX6_position_15 ?_
  exact x_iret C hr (nle rfl) (nle rfl) dX6_position_16 ⟨(by simp only [er_X6_position, if_pos hk1]), rfl, rfl⟩
def er_X6_setTrim (qa : Int32) (qb : Int32) : Option String := (if (¬ qa < 0 ∧ qa < 4) then (if (¬ qb < (-25) ∧ qb ≤ 25) then none else some xIA) else some xIO)
set_option maxRecDepth 100000 in
set_option maxHeartbeats 1000000 in
theorem k_X6_setTrim (l : Launch) (g : xGt) (ap ad : Nat → Nat) (r : xR) (po : Int32) (pn : Int32) (pl : Int32) (tx : Nat → Int32) (rp : Int32) (rl : Int32) (rs : Int32) (rm : Int32) (rn : Int32) (rz : Int32) (sv : xPl) (mm : xPl) (qa : Int32) (qb : Int32) (hc : clO r po pn) : xM l g.1 (xT g) yX6_setTrim (ws_ yX6_setTrim cX6_setTrim 5 (some .int)) (xRm 7 116 27 198) 27 198 [.ref (ap 0), .int qa, .int qb] (wCl g ap ad r po pn pl tx rp rl rs rm rn rz sv mm) (fun r9 w9 => (er_X6_setTrim qa qb) = none ∧ r9 = some (.int (r.kt (slN r.kh (Int32.toNatClampNeg qa)))) ∧ ∃ adn : Nat → Nat, w9 = (wCl g ap ad (r.set_kt (upd r.kt (slN r.kh (Int32.toNatClampNeg qa)) qb)) (sp_spo2 po pn) (sp_spn2 pn) pl tx rp rl rs rm rn rz (svS sv adn r po pn) mm)) (fun E w9 => (er_X6_setTrim qa qb) = some E ∧ w9 = (wCl g ap ad r po pn pl tx rp rl rs rm rn rz sv mm)) := by
  have h12 := hc.1.2.2.1
  refine x_start (own := RX6) (nm := "setTrim") rfl rfl (by decide +kernel) rfl (nle rfl) (fun p e σ m args below meth c A C hno hr => ?_)
  refine x_lve (lv' := [(0, .ref (ap 0)), (1, .int qa), (2, .int qb)]) rfl ?_
  refine x_ws (ws' := (wPo g ap ad po pn pl ++ (wS0 g ad ++ (wSk g ad r.kp r.ke r.kr r.kt r.kh r.kc ++ (wMx g ad r.xn r.xs r.xv r.xh r.xo r.xc ++ (wSv g ad r.vd r.vn r.vl r.vu r.vs r.vm r.vp r.vt r.va r.vw ++ (wLk g ad r.jd r.jb r.jc r.js r.jl r.jx r.ji r.jf r.jn ++ (wDm g ad r.dq ++ (wPq g ap (adr sv) (adr mm) tx ++ (wRd g (ap 4) rp rl rs rm rn rz ++ (wPl g sv 6 ++ wPl g mm 2))))))))))) rfl ?_
  refine x_iload_n C 1 rfl rfl dX6_setTrim_0 ?_
  refine x_RS [.int qa] [] C (k_X6_requireStick l g qa) yS_X6_requireStick wML_X6_34 rfl rfl (nle rfl) (nle rfl) (nle rfl) (nle rfl) (nle rfl) dX6_setTrim_1 (fun hk1 => ?_) (fun hk1 => ?_)
  · exact x_out C hno (nle rfl) (nle rfl) ⟨(by simp only [er_X6_setTrim, if_neg hk1]), rfl⟩
  refine x_iload_n C 2 rfl rfl dX6_setTrim_4 ?_
  refine x_bipush C (-25) (by decide) dX6_setTrim_5 ?_
  refine x_bipush C 25 (by decide) dX6_setTrim_7 ?_
  refine x_RS [.int qb, .int (-25), .int 25] [] C (k_X6_requireRange l g qb (-25) 25) yS_X6_requireRange wML_X6_38 rfl rfl (nle rfl) (nle rfl) (nle rfl) (nle rfl) (nle rfl) dX6_setTrim_9 (fun hk2 => ?_) (fun hk2 => ?_)
  · exact x_out C hno (nle rfl) (nle rfl) ⟨(by simp only [er_X6_setTrim, if_pos hk1, if_neg hk2]), rfl⟩
  refine x_aload_n C 0 rfl rfl dX6_setTrim_12 ?_
  refine x_EV0 [] [] C (k_X6_saveState l g ap ad r po pn pl tx rp rl rs rm rn rz sv mm hc) rfl yV_X6_saveState wML_X6_42 0 rfl rfl rfl rfl (nle rfl) (nle rfl) (nle rfl) (nle rfl) (nle rfl) dX6_setTrim_13 (fun E w h => h.elim) (fun r0 w h => ?_)
  obtain ⟨rfl, adn, rfl⟩ := h
  refine x_ws (ws' := (wPo g ap ad (sp_spo2 po pn) (sp_spn2 pn) pl ++ (wS0 g ad ++ (wSk g ad r.kp r.ke r.kr r.kt r.kh r.kc ++ (wMx g ad r.xn r.xs r.xv r.xh r.xo r.xc ++ (wSv g ad r.vd r.vn r.vl r.vu r.vs r.vm r.vp r.vt r.va r.vw ++ (wLk g ad r.jd r.jb r.jc r.js r.jl r.jx r.ji r.jf r.jn ++ (wDm g ad r.dq ++ (wPq g ap (adr (svS sv adn r po pn)) (adr mm) tx ++ (wRd g (ap 4) rp rl rs rm rn rz ++ (wPl g (svS sv adn r po pn) 6 ++ wPl g mm 2))))))))))) rfl ?_
  refine x_st (st' := []) rfl ?_
  refine x_aload_n C 0 rfl rfl dX6_setTrim_16 ?_
  refine x_get C 0 6 0 rfl rfl wLy_X6 wFL_X6_10 rfl (by decide) rfl dX6_setTrim_17 ?_
  refine x_get C 1 4 0 rfl rfl wLy_X4 wFL_X6_45 rfl (by decide) rfl dX6_setTrim_20 ?_
  have hk1l := rq_lt hk1 (show (4 : Int32) = nI 4 from rfl) (by decide)
  refine x_iload_n C 1 rfl rfl dX6_setTrim_23 ?_
  refine x_FV (w1 := (List.take 2 (wPo g ap ad (sp_spo2 po pn) (sp_spn2 pn) pl ++ (wS0 g ad ++ (wSk g ad r.kp r.ke r.kr r.kt r.kh r.kc ++ (wMx g ad r.xn r.xs r.xv r.xh r.xo r.xc ++ (wSv g ad r.vd r.vn r.vl r.vu r.vs r.vm r.vp r.vt r.va r.vw ++ (wLk g ad r.jd r.jb r.jc r.js r.jl r.jx r.ji r.jf r.jn ++ (wDm g ad r.dq ++ (wPq g ap (adr (svS sv adn r po pn)) (adr mm) tx ++ (wRd g (ap 4) rp rl rs rm rn rz ++ (wPl g (svS sv adn r po pn) 6 ++ wPl g mm 2)))))))))))) (wc := _) (w2 := (List.drop 7 (wPo g ap ad (sp_spo2 po pn) (sp_spn2 pn) pl ++ (wS0 g ad ++ (wSk g ad r.kp r.ke r.kr r.kt r.kh r.kc ++ (wMx g ad r.xn r.xs r.xv r.xh r.xo r.xc ++ (wSv g ad r.vd r.vn r.vl r.vu r.vs r.vm r.vp r.vt r.va r.vw ++ (wLk g ad r.jd r.jb r.jc r.js r.jl r.jx r.ji r.jf r.jn ++ (wDm g ad r.dq ++ (wPq g ap (adr (svS sv adn r po pn)) (adr mm) tx ++ (wRd g (ap 4) rp rl rs rm rn rz ++ (wPl g (svS sv adn r po pn) 6 ++ wPl g mm 2)))))))))))) [.int qa] [] (wPo g ap ad (sp_spo2 po pn) (sp_spn2 pn) pl ++ (wS0 g ad ++ (wSk g ad r.kp r.ke r.kr r.kt r.kh r.kc ++ (wMx g ad r.xn r.xs r.xv r.xh r.xo r.xc ++ (wSv g ad r.vd r.vn r.vl r.vu r.vs r.vm r.vp r.vt r.va r.vw ++ (wLk g ad r.jd r.jb r.jc r.js r.jl r.jx r.ji r.jf r.jn ++ (wDm g ad r.dq ++ (wPq g ap (adr (svS sv adn r po pn)) (adr mm) tx ++ (wRd g (ap 4) rp rl rs rm rn rz ++ (wPl g (svS sv adn r po pn) 6 ++ wPl g mm 2)))))))))) C (k_X5_slotOf l g ad r.kp r.ke r.kr r.kt r.kh r.kc qa (Int32.toNatClampNeg qa) (rq_nat hk1 (by decide))) rfl yV_X5_slotOf wML_X6_54 rfl 2 rfl rfl rfl rfl (nle rfl) (nle rfl) (nle rfl) (nle rfl) (nle rfl) dX6_setTrim_24 ?_
  refine x_istore_n C [(3, .int (sp_X5_slotOf r.kh (Int32.toNatClampNeg qa))), (0, .ref (ap 0)), (1, .int qa), (2, .int qb)] rfl rfl (by decide) dX6_setTrim_27 ?_
  refine x_aload_n C 1 rfl rfl dX6_setTrim_28 ?_
  refine x_get C 0 6 0 rfl rfl wLy_X6 wFL_X6_10 rfl (by decide) rfl dX6_setTrim_29 ?_
  refine x_get C 1 4 0 rfl rfl wLy_X4 wFL_X6_45 rfl (by decide) rfl dX6_setTrim_32 ?_
  refine x_get C 2 5 3 rfl rfl wLy_X5 wFL_X6_58 rfl (by decide) rfl dX6_setTrim_35 ?_
  refine x_iload_n C 0 rfl rfl dX6_setTrim_38 ?_
  refine x_ialdN (f := r.kt) C 6 0 (slN r.kh (Int32.toNatClampNeg qa)) rfl rfl (slot_nat r.kh (Int32.toNatClampNeg qa)) (by first | omega | exact slN_lt _ (by omega)) (by decide) dX6_setTrim_39 ?_
  refine x_istore C [(4, .int (r.kt (slN r.kh (Int32.toNatClampNeg qa)))), (3, .int (sp_X5_slotOf r.kh (Int32.toNatClampNeg qa))), (0, .ref (ap 0)), (1, .int qa), (2, .int qb)] rfl (by decide) dX6_setTrim_40 ?_
  refine x_aload_n C 2 rfl rfl dX6_setTrim_42 ?_
  refine x_get C 0 6 0 rfl rfl wLy_X6 wFL_X6_10 rfl (by decide) rfl dX6_setTrim_43 ?_
  refine x_get C 1 4 0 rfl rfl wLy_X4 wFL_X6_45 rfl (by decide) rfl dX6_setTrim_46 ?_
  refine x_get C 2 5 3 rfl rfl wLy_X5 wFL_X6_58 rfl (by decide) rfl dX6_setTrim_49 ?_
  refine x_iload_n C 1 rfl rfl dX6_setTrim_52 ?_
  refine x_iload_n C 4 rfl rfl dX6_setTrim_53 ?_
  refine x_iastN (f := r.kt) C 6 0 (slN r.kh (Int32.toNatClampNeg qa)) (wPo g ap ad (sp_spo2 po pn) (sp_spn2 pn) pl ++ (wS0 g ad ++ (wSk g ad r.kp r.ke r.kr (upd r.kt (slN r.kh (Int32.toNatClampNeg qa)) qb) r.kh r.kc ++ (wMx g ad r.xn r.xs r.xv r.xh r.xo r.xc ++ (wSv g ad r.vd r.vn r.vl r.vu r.vs r.vm r.vp r.vt r.va r.vw ++ (wLk g ad r.jd r.jb r.jc r.js r.jl r.jx r.ji r.jf r.jn ++ (wDm g ad r.dq ++ (wPq g ap (adr (svS sv adn r po pn)) (adr mm) tx ++ (wRd g (ap 4) rp rl rs rm rn rz ++ (wPl g (svS sv adn r po pn) 6 ++ wPl g mm 2)))))))))) rfl rfl rfl (slot_nat r.kh (Int32.toNatClampNeg qa)) (by first | omega | exact slN_lt _ (by omega)) (by decide) dX6_setTrim_54 ?_
  refine x_iload C 0 rfl dX6_setTrim_55 ?_
  exact x_iret C hr (nle rfl) (nle rfl) dX6_setTrim_57 ⟨(by simp only [er_X6_setTrim, if_pos hk1, if_pos hk2]), rfl, adn, rfl⟩
def er_X6_trim (qa : Int32) : Option String := (if (¬ qa < 0 ∧ qa < 4) then none else some xIO)
set_option maxRecDepth 100000 in
set_option maxHeartbeats 1000000 in
theorem k_X6_trim (l : Launch) (g : xGt) (ap ad : Nat → Nat) (r : xR) (po : Int32) (pn : Int32) (pl : Int32) (tx : Nat → Int32) (rp : Int32) (rl : Int32) (rs : Int32) (rm : Int32) (rn : Int32) (rz : Int32) (sv : xPl) (mm : xPl) (qa : Int32) (hc : clO r po pn) : xM l g.1 (xT g) yX6_trim (ws_ yX6_trim cX6_trim 2 (some .int)) (xRm 7 114 1 6) 1 6 [.ref (ap 0), .int qa] (wCl g ap ad r po pn pl tx rp rl rs rm rn rz sv mm) (fun r9 w9 => (er_X6_trim qa) = none ∧ r9 = some (.int (r.kt (slN r.kh (Int32.toNatClampNeg qa)))) ∧ w9 = (wCl g ap ad r po pn pl tx rp rl rs rm rn rz sv mm)) (fun E w9 => (er_X6_trim qa) = some E ∧ w9 = (wCl g ap ad r po pn pl tx rp rl rs rm rn rz sv mm)) := by
  have h12 := hc.1.2.2.1
  refine x_start (own := RX6) (nm := "trim") rfl rfl (by decide +kernel) rfl (nle rfl) (fun p e σ m args below meth c A C hno hr => ?_)
  refine x_lve (lv' := [(0, .ref (ap 0)), (1, .int qa)]) rfl ?_
  refine x_ws (ws' := (wPo g ap ad po pn pl ++ (wS0 g ad ++ (wSk g ad r.kp r.ke r.kr r.kt r.kh r.kc ++ (wMx g ad r.xn r.xs r.xv r.xh r.xo r.xc ++ (wSv g ad r.vd r.vn r.vl r.vu r.vs r.vm r.vp r.vt r.va r.vw ++ (wLk g ad r.jd r.jb r.jc r.js r.jl r.jx r.ji r.jf r.jn ++ (wDm g ad r.dq ++ (wPq g ap (adr sv) (adr mm) tx ++ (wRd g (ap 4) rp rl rs rm rn rz ++ (wPl g sv 6 ++ wPl g mm 2))))))))))) rfl ?_
  refine x_iload_n C 1 rfl rfl dX6_trim_0 ?_
  refine x_RS [.int qa] [] C (k_X6_requireStick l g qa) yS_X6_requireStick wML_X6_34 rfl rfl (nle rfl) (nle rfl) (nle rfl) (nle rfl) (nle rfl) dX6_trim_1 (fun hk1 => ?_) (fun hk1 => ?_)
  · exact x_out C hno (nle rfl) (nle rfl) ⟨(by simp only [er_X6_trim, if_neg hk1]), rfl⟩
  refine x_aload_n C 0 rfl rfl dX6_trim_4 ?_
  refine x_get C 0 6 0 rfl rfl wLy_X6 wFL_X6_10 rfl (by decide) rfl dX6_trim_5 ?_
  refine x_get C 1 4 0 rfl rfl wLy_X4 wFL_X6_45 rfl (by decide) rfl dX6_trim_8 ?_
  refine x_get C 2 5 3 rfl rfl wLy_X5 wFL_X6_58 rfl (by decide) rfl dX6_trim_11 ?_
  refine x_aload_n C 0 rfl rfl dX6_trim_14 ?_
  refine x_get C 0 6 0 rfl rfl wLy_X6 wFL_X6_10 rfl (by decide) rfl dX6_trim_15 ?_
  refine x_get C 1 4 0 rfl rfl wLy_X4 wFL_X6_45 rfl (by decide) rfl dX6_trim_18 ?_
  have hk1l := rq_lt hk1 (show (4 : Int32) = nI 4 from rfl) (by decide)
  refine x_iload_n C 1 rfl rfl dX6_trim_21 ?_
  refine x_FV (w1 := (List.take 2 (wPo g ap ad po pn pl ++ (wS0 g ad ++ (wSk g ad r.kp r.ke r.kr r.kt r.kh r.kc ++ (wMx g ad r.xn r.xs r.xv r.xh r.xo r.xc ++ (wSv g ad r.vd r.vn r.vl r.vu r.vs r.vm r.vp r.vt r.va r.vw ++ (wLk g ad r.jd r.jb r.jc r.js r.jl r.jx r.ji r.jf r.jn ++ (wDm g ad r.dq ++ (wPq g ap (adr sv) (adr mm) tx ++ (wRd g (ap 4) rp rl rs rm rn rz ++ (wPl g sv 6 ++ wPl g mm 2)))))))))))) (wc := _) (w2 := (List.drop 7 (wPo g ap ad po pn pl ++ (wS0 g ad ++ (wSk g ad r.kp r.ke r.kr r.kt r.kh r.kc ++ (wMx g ad r.xn r.xs r.xv r.xh r.xo r.xc ++ (wSv g ad r.vd r.vn r.vl r.vu r.vs r.vm r.vp r.vt r.va r.vw ++ (wLk g ad r.jd r.jb r.jc r.js r.jl r.jx r.ji r.jf r.jn ++ (wDm g ad r.dq ++ (wPq g ap (adr sv) (adr mm) tx ++ (wRd g (ap 4) rp rl rs rm rn rz ++ (wPl g sv 6 ++ wPl g mm 2)))))))))))) [.int qa] [.ref (ad 5)] (wPo g ap ad po pn pl ++ (wS0 g ad ++ (wSk g ad r.kp r.ke r.kr r.kt r.kh r.kc ++ (wMx g ad r.xn r.xs r.xv r.xh r.xo r.xc ++ (wSv g ad r.vd r.vn r.vl r.vu r.vs r.vm r.vp r.vt r.va r.vw ++ (wLk g ad r.jd r.jb r.jc r.js r.jl r.jx r.ji r.jf r.jn ++ (wDm g ad r.dq ++ (wPq g ap (adr sv) (adr mm) tx ++ (wRd g (ap 4) rp rl rs rm rn rz ++ (wPl g sv 6 ++ wPl g mm 2)))))))))) C (k_X5_slotOf l g ad r.kp r.ke r.kr r.kt r.kh r.kc qa (Int32.toNatClampNeg qa) (rq_nat hk1 (by decide))) rfl yV_X5_slotOf wML_X6_54 rfl 2 rfl rfl rfl rfl (nle rfl) (nle rfl) (nle rfl) (nle rfl) (nle rfl) dX6_trim_22 ?_
  refine x_ialdN (f := r.kt) C 6 0 (slN r.kh (Int32.toNatClampNeg qa)) rfl rfl (slot_nat r.kh (Int32.toNatClampNeg qa)) (by first | omega | exact slN_lt _ (by omega)) (by decide) dX6_trim_25 ?_
  exact x_iret C hr (nle rfl) (nle rfl) dX6_trim_26 ⟨(by simp only [er_X6_trim, if_pos hk1]), rfl, rfl⟩
def er_X6_setRate (qa : Int32) (qb : Int32) : Option String := (if (¬ qa < 0 ∧ qa < 4) then (if (¬ qb < 0 ∧ qb ≤ 125) then none else some xIA) else some xIO)
set_option maxRecDepth 100000 in
set_option maxHeartbeats 1000000 in
theorem k_X6_setRate (l : Launch) (g : xGt) (ap ad : Nat → Nat) (r : xR) (po : Int32) (pn : Int32) (pl : Int32) (tx : Nat → Int32) (rp : Int32) (rl : Int32) (rs : Int32) (rm : Int32) (rn : Int32) (rz : Int32) (sv : xPl) (mm : xPl) (qa : Int32) (qb : Int32) (hc : clO r po pn) : xM l g.1 (xT g) yX6_setRate (ws_ yX6_setRate cX6_setRate 5 (some .int)) (xRm 7 116 27 198) 27 198 [.ref (ap 0), .int qa, .int qb] (wCl g ap ad r po pn pl tx rp rl rs rm rn rz sv mm) (fun r9 w9 => (er_X6_setRate qa qb) = none ∧ r9 = some (.int (r.kr (slN r.kh (Int32.toNatClampNeg qa)))) ∧ ∃ adn : Nat → Nat, w9 = (wCl g ap ad (r.set_kr (upd r.kr (slN r.kh (Int32.toNatClampNeg qa)) qb)) (sp_spo2 po pn) (sp_spn2 pn) pl tx rp rl rs rm rn rz (svS sv adn r po pn) mm)) (fun E w9 => (er_X6_setRate qa qb) = some E ∧ w9 = (wCl g ap ad r po pn pl tx rp rl rs rm rn rz sv mm)) := by
  have h12 := hc.1.2.2.1
  refine x_start (own := RX6) (nm := "setRate") rfl rfl (by decide +kernel) rfl (nle rfl) (fun p e σ m args below meth c A C hno hr => ?_)
  refine x_lve (lv' := [(0, .ref (ap 0)), (1, .int qa), (2, .int qb)]) rfl ?_
  refine x_ws (ws' := (wPo g ap ad po pn pl ++ (wS0 g ad ++ (wSk g ad r.kp r.ke r.kr r.kt r.kh r.kc ++ (wMx g ad r.xn r.xs r.xv r.xh r.xo r.xc ++ (wSv g ad r.vd r.vn r.vl r.vu r.vs r.vm r.vp r.vt r.va r.vw ++ (wLk g ad r.jd r.jb r.jc r.js r.jl r.jx r.ji r.jf r.jn ++ (wDm g ad r.dq ++ (wPq g ap (adr sv) (adr mm) tx ++ (wRd g (ap 4) rp rl rs rm rn rz ++ (wPl g sv 6 ++ wPl g mm 2))))))))))) rfl ?_
  refine x_iload_n C 1 rfl rfl dX6_setRate_0 ?_
  refine x_RS [.int qa] [] C (k_X6_requireStick l g qa) yS_X6_requireStick wML_X6_34 rfl rfl (nle rfl) (nle rfl) (nle rfl) (nle rfl) (nle rfl) dX6_setRate_1 (fun hk1 => ?_) (fun hk1 => ?_)
  · exact x_out C hno (nle rfl) (nle rfl) ⟨(by simp only [er_X6_setRate, if_neg hk1]), rfl⟩
  refine x_iload_n C 2 rfl rfl dX6_setRate_4 ?_
  refine x_iconst C 0 (by decide) dX6_setRate_5 ?_
  refine x_bipush C 125 (by decide) dX6_setRate_6 ?_
  refine x_RS [.int qb, .int 0, .int 125] [] C (k_X6_requireRange l g qb 0 125) yS_X6_requireRange wML_X6_38 rfl rfl (nle rfl) (nle rfl) (nle rfl) (nle rfl) (nle rfl) dX6_setRate_8 (fun hk2 => ?_) (fun hk2 => ?_)
  · exact x_out C hno (nle rfl) (nle rfl) ⟨(by simp only [er_X6_setRate, if_pos hk1, if_neg hk2]), rfl⟩
  refine x_aload_n C 0 rfl rfl dX6_setRate_11 ?_
  refine x_EV0 [] [] C (k_X6_saveState l g ap ad r po pn pl tx rp rl rs rm rn rz sv mm hc) rfl yV_X6_saveState wML_X6_42 0 rfl rfl rfl rfl (nle rfl) (nle rfl) (nle rfl) (nle rfl) (nle rfl) dX6_setRate_12 (fun E w h => h.elim) (fun r0 w h => ?_)
  obtain ⟨rfl, adn, rfl⟩ := h
  refine x_ws (ws' := (wPo g ap ad (sp_spo2 po pn) (sp_spn2 pn) pl ++ (wS0 g ad ++ (wSk g ad r.kp r.ke r.kr r.kt r.kh r.kc ++ (wMx g ad r.xn r.xs r.xv r.xh r.xo r.xc ++ (wSv g ad r.vd r.vn r.vl r.vu r.vs r.vm r.vp r.vt r.va r.vw ++ (wLk g ad r.jd r.jb r.jc r.js r.jl r.jx r.ji r.jf r.jn ++ (wDm g ad r.dq ++ (wPq g ap (adr (svS sv adn r po pn)) (adr mm) tx ++ (wRd g (ap 4) rp rl rs rm rn rz ++ (wPl g (svS sv adn r po pn) 6 ++ wPl g mm 2))))))))))) rfl ?_
  refine x_st (st' := []) rfl ?_
  refine x_aload_n C 0 rfl rfl dX6_setRate_15 ?_
  refine x_get C 0 6 0 rfl rfl wLy_X6 wFL_X6_10 rfl (by decide) rfl dX6_setRate_16 ?_
  refine x_get C 1 4 0 rfl rfl wLy_X4 wFL_X6_45 rfl (by decide) rfl dX6_setRate_19 ?_
  have hk1l := rq_lt hk1 (show (4 : Int32) = nI 4 from rfl) (by decide)
  refine x_iload_n C 1 rfl rfl dX6_setRate_22 ?_
  refine x_FV (w1 := (List.take 2 (wPo g ap ad (sp_spo2 po pn) (sp_spn2 pn) pl ++ (wS0 g ad ++ (wSk g ad r.kp r.ke r.kr r.kt r.kh r.kc ++ (wMx g ad r.xn r.xs r.xv r.xh r.xo r.xc ++ (wSv g ad r.vd r.vn r.vl r.vu r.vs r.vm r.vp r.vt r.va r.vw ++ (wLk g ad r.jd r.jb r.jc r.js r.jl r.jx r.ji r.jf r.jn ++ (wDm g ad r.dq ++ (wPq g ap (adr (svS sv adn r po pn)) (adr mm) tx ++ (wRd g (ap 4) rp rl rs rm rn rz ++ (wPl g (svS sv adn r po pn) 6 ++ wPl g mm 2)))))))))))) (wc := _) (w2 := (List.drop 7 (wPo g ap ad (sp_spo2 po pn) (sp_spn2 pn) pl ++ (wS0 g ad ++ (wSk g ad r.kp r.ke r.kr r.kt r.kh r.kc ++ (wMx g ad r.xn r.xs r.xv r.xh r.xo r.xc ++ (wSv g ad r.vd r.vn r.vl r.vu r.vs r.vm r.vp r.vt r.va r.vw ++ (wLk g ad r.jd r.jb r.jc r.js r.jl r.jx r.ji r.jf r.jn ++ (wDm g ad r.dq ++ (wPq g ap (adr (svS sv adn r po pn)) (adr mm) tx ++ (wRd g (ap 4) rp rl rs rm rn rz ++ (wPl g (svS sv adn r po pn) 6 ++ wPl g mm 2)))))))))))) [.int qa] [] (wPo g ap ad (sp_spo2 po pn) (sp_spn2 pn) pl ++ (wS0 g ad ++ (wSk g ad r.kp r.ke r.kr r.kt r.kh r.kc ++ (wMx g ad r.xn r.xs r.xv r.xh r.xo r.xc ++ (wSv g ad r.vd r.vn r.vl r.vu r.vs r.vm r.vp r.vt r.va r.vw ++ (wLk g ad r.jd r.jb r.jc r.js r.jl r.jx r.ji r.jf r.jn ++ (wDm g ad r.dq ++ (wPq g ap (adr (svS sv adn r po pn)) (adr mm) tx ++ (wRd g (ap 4) rp rl rs rm rn rz ++ (wPl g (svS sv adn r po pn) 6 ++ wPl g mm 2)))))))))) C (k_X5_slotOf l g ad r.kp r.ke r.kr r.kt r.kh r.kc qa (Int32.toNatClampNeg qa) (rq_nat hk1 (by decide))) rfl yV_X5_slotOf wML_X6_54 rfl 2 rfl rfl rfl rfl (nle rfl) (nle rfl) (nle rfl) (nle rfl) (nle rfl) dX6_setRate_23 ?_
  refine x_istore_n C [(3, .int (sp_X5_slotOf r.kh (Int32.toNatClampNeg qa))), (0, .ref (ap 0)), (1, .int qa), (2, .int qb)] rfl rfl (by decide) dX6_setRate_26 ?_
  refine x_aload_n C 1 rfl rfl dX6_setRate_27 ?_
  refine x_get C 0 6 0 rfl rfl wLy_X6 wFL_X6_10 rfl (by decide) rfl dX6_setRate_28 ?_
  refine x_get C 1 4 0 rfl rfl wLy_X4 wFL_X6_45 rfl (by decide) rfl dX6_setRate_31 ?_
  refine x_get C 2 5 2 rfl rfl wLy_X5 wFL_X6_61 rfl (by decide) rfl dX6_setRate_34 ?_
  refine x_iload_n C 0 rfl rfl dX6_setRate_37 ?_
  refine x_ialdN (f := r.kr) C 5 0 (slN r.kh (Int32.toNatClampNeg qa)) rfl rfl (slot_nat r.kh (Int32.toNatClampNeg qa)) (by first | omega | exact slN_lt _ (by omega)) (by decide) dX6_setRate_38 ?_
  refine x_istore C [(4, .int (r.kr (slN r.kh (Int32.toNatClampNeg qa)))), (3, .int (sp_X5_slotOf r.kh (Int32.toNatClampNeg qa))), (0, .ref (ap 0)), (1, .int qa), (2, .int qb)] rfl (by decide) dX6_setRate_39 ?_
  refine x_aload_n C 2 rfl rfl dX6_setRate_41 ?_
  refine x_get C 0 6 0 rfl rfl wLy_X6 wFL_X6_10 rfl (by decide) rfl dX6_setRate_42 ?_
  refine x_get C 1 4 0 rfl rfl wLy_X4 wFL_X6_45 rfl (by decide) rfl dX6_setRate_45 ?_
  refine x_get C 2 5 2 rfl rfl wLy_X5 wFL_X6_61 rfl (by decide) rfl dX6_setRate_48 ?_
  refine x_iload_n C 1 rfl rfl dX6_setRate_51 ?_
  have hk2l := rq_le hk2 (by decide) (show (125 : Int32) = nI 125 from rfl) (by decide)
  refine x_iload_n C 4 rfl rfl dX6_setRate_52 ?_
  refine x_iastN (f := r.kr) C 5 0 (slN r.kh (Int32.toNatClampNeg qa)) (wPo g ap ad (sp_spo2 po pn) (sp_spn2 pn) pl ++ (wS0 g ad ++ (wSk g ad r.kp r.ke (upd r.kr (slN r.kh (Int32.toNatClampNeg qa)) qb) r.kt r.kh r.kc ++ (wMx g ad r.xn r.xs r.xv r.xh r.xo r.xc ++ (wSv g ad r.vd r.vn r.vl r.vu r.vs r.vm r.vp r.vt r.va r.vw ++ (wLk g ad r.jd r.jb r.jc r.js r.jl r.jx r.ji r.jf r.jn ++ (wDm g ad r.dq ++ (wPq g ap (adr (svS sv adn r po pn)) (adr mm) tx ++ (wRd g (ap 4) rp rl rs rm rn rz ++ (wPl g (svS sv adn r po pn) 6 ++ wPl g mm 2)))))))))) rfl rfl rfl (slot_nat r.kh (Int32.toNatClampNeg qa)) (by first | omega | exact slN_lt _ (by omega)) (by decide) dX6_setRate_53 ?_
  refine x_iload C 0 rfl dX6_setRate_54 ?_
  exact x_iret C hr (nle rfl) (nle rfl) dX6_setRate_56 ⟨(by simp only [er_X6_setRate, if_pos hk1, if_pos hk2]), rfl, adn, rfl⟩
def er_X6_rate (qa : Int32) : Option String := (if (¬ qa < 0 ∧ qa < 4) then none else some xIO)
set_option maxRecDepth 100000 in
set_option maxHeartbeats 1000000 in
theorem k_X6_rate (l : Launch) (g : xGt) (ap ad : Nat → Nat) (r : xR) (po : Int32) (pn : Int32) (pl : Int32) (tx : Nat → Int32) (rp : Int32) (rl : Int32) (rs : Int32) (rm : Int32) (rn : Int32) (rz : Int32) (sv : xPl) (mm : xPl) (qa : Int32) (hc : clO r po pn) : xM l g.1 (xT g) yX6_rate (ws_ yX6_rate cX6_rate 2 (some .int)) (xRm 7 114 1 6) 1 6 [.ref (ap 0), .int qa] (wCl g ap ad r po pn pl tx rp rl rs rm rn rz sv mm) (fun r9 w9 => (er_X6_rate qa) = none ∧ r9 = some (.int (r.kr (slN r.kh (Int32.toNatClampNeg qa)))) ∧ w9 = (wCl g ap ad r po pn pl tx rp rl rs rm rn rz sv mm)) (fun E w9 => (er_X6_rate qa) = some E ∧ w9 = (wCl g ap ad r po pn pl tx rp rl rs rm rn rz sv mm)) := by
  have h12 := hc.1.2.2.1
  refine x_start (own := RX6) (nm := "rate") rfl rfl (by decide +kernel) rfl (nle rfl) (fun p e σ m args below meth c A C hno hr => ?_)
  refine x_lve (lv' := [(0, .ref (ap 0)), (1, .int qa)]) rfl ?_
  refine x_ws (ws' := (wPo g ap ad po pn pl ++ (wS0 g ad ++ (wSk g ad r.kp r.ke r.kr r.kt r.kh r.kc ++ (wMx g ad r.xn r.xs r.xv r.xh r.xo r.xc ++ (wSv g ad r.vd r.vn r.vl r.vu r.vs r.vm r.vp r.vt r.va r.vw ++ (wLk g ad r.jd r.jb r.jc r.js r.jl r.jx r.ji r.jf r.jn ++ (wDm g ad r.dq ++ (wPq g ap (adr sv) (adr mm) tx ++ (wRd g (ap 4) rp rl rs rm rn rz ++ (wPl g sv 6 ++ wPl g mm 2))))))))))) rfl ?_
  refine x_iload_n C 1 rfl rfl dX6_rate_0 ?_
  refine x_RS [.int qa] [] C (k_X6_requireStick l g qa) yS_X6_requireStick wML_X6_34 rfl rfl (nle rfl) (nle rfl) (nle rfl) (nle rfl) (nle rfl) dX6_rate_1 (fun hk1 => ?_) (fun hk1 => ?_)
  · exact x_out C hno (nle rfl) (nle rfl) ⟨(by simp only [er_X6_rate, if_neg hk1]), rfl⟩
  refine x_aload_n C 0 rfl rfl dX6_rate_4 ?_
  refine x_get C 0 6 0 rfl rfl wLy_X6 wFL_X6_10 rfl (by decide) rfl dX6_rate_5 ?_
  refine x_get C 1 4 0 rfl rfl wLy_X4 wFL_X6_45 rfl (by decide) rfl dX6_rate_8 ?_
  refine x_get C 2 5 2 rfl rfl wLy_X5 wFL_X6_61 rfl (by decide) rfl dX6_rate_11 ?_
  refine x_aload_n C 0 rfl rfl dX6_rate_14 ?_
  refine x_get C 0 6 0 rfl rfl wLy_X6 wFL_X6_10 rfl (by decide) rfl dX6_rate_15 ?_
  refine x_get C 1 4 0 rfl rfl wLy_X4 wFL_X6_45 rfl (by decide) rfl dX6_rate_18 ?_
  have hk1l := rq_lt hk1 (show (4 : Int32) = nI 4 from rfl) (by decide)
  refine x_iload_n C 1 rfl rfl dX6_rate_21 ?_
  refine x_FV (w1 := (List.take 2 (wPo g ap ad po pn pl ++ (wS0 g ad ++ (wSk g ad r.kp r.ke r.kr r.kt r.kh r.kc ++ (wMx g ad r.xn r.xs r.xv r.xh r.xo r.xc ++ (wSv g ad r.vd r.vn r.vl r.vu r.vs r.vm r.vp r.vt r.va r.vw ++ (wLk g ad r.jd r.jb r.jc r.js r.jl r.jx r.ji r.jf r.jn ++ (wDm g ad r.dq ++ (wPq g ap (adr sv) (adr mm) tx ++ (wRd g (ap 4) rp rl rs rm rn rz ++ (wPl g sv 6 ++ wPl g mm 2)))))))))))) (wc := _) (w2 := (List.drop 7 (wPo g ap ad po pn pl ++ (wS0 g ad ++ (wSk g ad r.kp r.ke r.kr r.kt r.kh r.kc ++ (wMx g ad r.xn r.xs r.xv r.xh r.xo r.xc ++ (wSv g ad r.vd r.vn r.vl r.vu r.vs r.vm r.vp r.vt r.va r.vw ++ (wLk g ad r.jd r.jb r.jc r.js r.jl r.jx r.ji r.jf r.jn ++ (wDm g ad r.dq ++ (wPq g ap (adr sv) (adr mm) tx ++ (wRd g (ap 4) rp rl rs rm rn rz ++ (wPl g sv 6 ++ wPl g mm 2)))))))))))) [.int qa] [.ref (ad 4)] (wPo g ap ad po pn pl ++ (wS0 g ad ++ (wSk g ad r.kp r.ke r.kr r.kt r.kh r.kc ++ (wMx g ad r.xn r.xs r.xv r.xh r.xo r.xc ++ (wSv g ad r.vd r.vn r.vl r.vu r.vs r.vm r.vp r.vt r.va r.vw ++ (wLk g ad r.jd r.jb r.jc r.js r.jl r.jx r.ji r.jf r.jn ++ (wDm g ad r.dq ++ (wPq g ap (adr sv) (adr mm) tx ++ (wRd g (ap 4) rp rl rs rm rn rz ++ (wPl g sv 6 ++ wPl g mm 2)))))))))) C (k_X5_slotOf l g ad r.kp r.ke r.kr r.kt r.kh r.kc qa (Int32.toNatClampNeg qa) (rq_nat hk1 (by decide))) rfl yV_X5_slotOf wML_X6_54 rfl 2 rfl rfl rfl rfl (nle rfl) (nle rfl) (nle rfl) (nle rfl) (nle rfl) dX6_rate_22 ?_
  refine x_ialdN (f := r.kr) C 5 0 (slN r.kh (Int32.toNatClampNeg qa)) rfl rfl (slot_nat r.kh (Int32.toNatClampNeg qa)) (by first | omega | exact slN_lt _ (by omega)) (by decide) dX6_rate_25 ?_
  exact x_iret C hr (nle rfl) (nle rfl) dX6_rate_26 ⟨(by simp only [er_X6_rate, if_pos hk1]), rfl, rfl⟩
def er_X6_setExpo (qa : Int32) (qb : Int32) : Option String := (if (¬ qa < 0 ∧ qa < 4) then (if (¬ qb < 0 ∧ qb ≤ 100) then none else some xIA) else some xIO)
set_option maxRecDepth 100000 in
set_option maxHeartbeats 1000000 in
theorem k_X6_setExpo (l : Launch) (g : xGt) (ap ad : Nat → Nat) (r : xR) (po : Int32) (pn : Int32) (pl : Int32) (tx : Nat → Int32) (rp : Int32) (rl : Int32) (rs : Int32) (rm : Int32) (rn : Int32) (rz : Int32) (sv : xPl) (mm : xPl) (qa : Int32) (qb : Int32) (hc : clO r po pn) : xM l g.1 (xT g) yX6_setExpo (ws_ yX6_setExpo cX6_setExpo 4 (some .int)) (xRm 7 116 27 198) 27 198 [.ref (ap 0), .int qa, .int qb] (wCl g ap ad r po pn pl tx rp rl rs rm rn rz sv mm) (fun r9 w9 => (er_X6_setExpo qa qb) = none ∧ r9 = some (.int (r.ke (Int32.toNatClampNeg qa))) ∧ ∃ adn : Nat → Nat, w9 = (wCl g ap ad (r.set_ke (upd r.ke (Int32.toNatClampNeg qa) qb)) (sp_spo2 po pn) (sp_spn2 pn) pl tx rp rl rs rm rn rz (svS sv adn r po pn) mm)) (fun E w9 => (er_X6_setExpo qa qb) = some E ∧ w9 = (wCl g ap ad r po pn pl tx rp rl rs rm rn rz sv mm)) := by
  have h12 := hc.1.2.2.1
  refine x_start (own := RX6) (nm := "setExpo") rfl rfl (by decide +kernel) rfl (nle rfl) (fun p e σ m args below meth c A C hno hr => ?_)
  refine x_lve (lv' := [(0, .ref (ap 0)), (1, .int qa), (2, .int qb)]) rfl ?_
  refine x_ws (ws' := (wPo g ap ad po pn pl ++ (wS0 g ad ++ (wSk g ad r.kp r.ke r.kr r.kt r.kh r.kc ++ (wMx g ad r.xn r.xs r.xv r.xh r.xo r.xc ++ (wSv g ad r.vd r.vn r.vl r.vu r.vs r.vm r.vp r.vt r.va r.vw ++ (wLk g ad r.jd r.jb r.jc r.js r.jl r.jx r.ji r.jf r.jn ++ (wDm g ad r.dq ++ (wPq g ap (adr sv) (adr mm) tx ++ (wRd g (ap 4) rp rl rs rm rn rz ++ (wPl g sv 6 ++ wPl g mm 2))))))))))) rfl ?_
  refine x_iload_n C 1 rfl rfl dX6_setExpo_0 ?_
  refine x_RS [.int qa] [] C (k_X6_requireStick l g qa) yS_X6_requireStick wML_X6_34 rfl rfl (nle rfl) (nle rfl) (nle rfl) (nle rfl) (nle rfl) dX6_setExpo_1 (fun hk1 => ?_) (fun hk1 => ?_)
  · exact x_out C hno (nle rfl) (nle rfl) ⟨(by simp only [er_X6_setExpo, if_neg hk1]), rfl⟩
  refine x_iload_n C 2 rfl rfl dX6_setExpo_4 ?_
  refine x_iconst C 0 (by decide) dX6_setExpo_5 ?_
  refine x_bipush C 100 (by decide) dX6_setExpo_6 ?_
  refine x_RS [.int qb, .int 0, .int 100] [] C (k_X6_requireRange l g qb 0 100) yS_X6_requireRange wML_X6_38 rfl rfl (nle rfl) (nle rfl) (nle rfl) (nle rfl) (nle rfl) dX6_setExpo_8 (fun hk2 => ?_) (fun hk2 => ?_)
  · exact x_out C hno (nle rfl) (nle rfl) ⟨(by simp only [er_X6_setExpo, if_pos hk1, if_neg hk2]), rfl⟩
  refine x_aload_n C 0 rfl rfl dX6_setExpo_11 ?_
  refine x_EV0 [] [] C (k_X6_saveState l g ap ad r po pn pl tx rp rl rs rm rn rz sv mm hc) rfl yV_X6_saveState wML_X6_42 0 rfl rfl rfl rfl (nle rfl) (nle rfl) (nle rfl) (nle rfl) (nle rfl) dX6_setExpo_12 (fun E w h => h.elim) (fun r0 w h => ?_)
  obtain ⟨rfl, adn, rfl⟩ := h
  refine x_ws (ws' := (wPo g ap ad (sp_spo2 po pn) (sp_spn2 pn) pl ++ (wS0 g ad ++ (wSk g ad r.kp r.ke r.kr r.kt r.kh r.kc ++ (wMx g ad r.xn r.xs r.xv r.xh r.xo r.xc ++ (wSv g ad r.vd r.vn r.vl r.vu r.vs r.vm r.vp r.vt r.va r.vw ++ (wLk g ad r.jd r.jb r.jc r.js r.jl r.jx r.ji r.jf r.jn ++ (wDm g ad r.dq ++ (wPq g ap (adr (svS sv adn r po pn)) (adr mm) tx ++ (wRd g (ap 4) rp rl rs rm rn rz ++ (wPl g (svS sv adn r po pn) 6 ++ wPl g mm 2))))))))))) rfl ?_
  refine x_st (st' := []) rfl ?_
  refine x_aload_n C 0 rfl rfl dX6_setExpo_15 ?_
  refine x_get C 0 6 0 rfl rfl wLy_X6 wFL_X6_10 rfl (by decide) rfl dX6_setExpo_16 ?_
  refine x_get C 1 4 0 rfl rfl wLy_X4 wFL_X6_45 rfl (by decide) rfl dX6_setExpo_19 ?_
  refine x_get C 2 5 1 rfl rfl wLy_X5 wFL_X6_64 rfl (by decide) rfl dX6_setExpo_22 ?_
  have hk1l := rq_lt hk1 (show (4 : Int32) = nI 4 from rfl) (by decide)
  refine x_iload_n C 1 rfl rfl dX6_setExpo_25 ?_
  refine x_ialdN (f := r.ke) C 4 0 (Int32.toNatClampNeg qa) rfl rfl (rq_nat hk1 (by decide)) (by first | omega | exact slN_lt _ (by omega)) (by decide) dX6_setExpo_26 ?_
  refine x_istore_n C [(3, .int (r.ke (Int32.toNatClampNeg qa))), (0, .ref (ap 0)), (1, .int qa), (2, .int qb)] rfl rfl (by decide) dX6_setExpo_27 ?_
  refine x_aload_n C 1 rfl rfl dX6_setExpo_28 ?_
  refine x_get C 0 6 0 rfl rfl wLy_X6 wFL_X6_10 rfl (by decide) rfl dX6_setExpo_29 ?_
  refine x_get C 1 4 0 rfl rfl wLy_X4 wFL_X6_45 rfl (by decide) rfl dX6_setExpo_32 ?_
  refine x_get C 2 5 1 rfl rfl wLy_X5 wFL_X6_64 rfl (by decide) rfl dX6_setExpo_35 ?_
  have hk1l := rq_lt hk1 (show (4 : Int32) = nI 4 from rfl) (by decide)
  refine x_iload_n C 2 rfl rfl dX6_setExpo_38 ?_
  have hk2l := rq_le hk2 (by decide) (show (100 : Int32) = nI 100 from rfl) (by decide)
  refine x_iload_n C 3 rfl rfl dX6_setExpo_39 ?_
  refine x_iastN (f := r.ke) C 4 0 (Int32.toNatClampNeg qa) (wPo g ap ad (sp_spo2 po pn) (sp_spn2 pn) pl ++ (wS0 g ad ++ (wSk g ad r.kp (upd r.ke (Int32.toNatClampNeg qa) qb) r.kr r.kt r.kh r.kc ++ (wMx g ad r.xn r.xs r.xv r.xh r.xo r.xc ++ (wSv g ad r.vd r.vn r.vl r.vu r.vs r.vm r.vp r.vt r.va r.vw ++ (wLk g ad r.jd r.jb r.jc r.js r.jl r.jx r.ji r.jf r.jn ++ (wDm g ad r.dq ++ (wPq g ap (adr (svS sv adn r po pn)) (adr mm) tx ++ (wRd g (ap 4) rp rl rs rm rn rz ++ (wPl g (svS sv adn r po pn) 6 ++ wPl g mm 2)))))))))) rfl rfl rfl (rq_nat hk1 (by decide)) (by first | omega | exact slN_lt _ (by omega)) (by decide) dX6_setExpo_40 ?_
  refine x_iload_n C 0 rfl rfl dX6_setExpo_41 ?_
  exact x_iret C hr (nle rfl) (nle rfl) dX6_setExpo_42 ⟨(by simp only [er_X6_setExpo, if_pos hk1, if_pos hk2]), rfl, adn, rfl⟩
def er_X6_expo (qa : Int32) : Option String := (if (¬ qa < 0 ∧ qa < 4) then none else some xIO)
set_option maxRecDepth 100000 in
set_option maxHeartbeats 1000000 in
theorem k_X6_expo (l : Launch) (g : xGt) (ap ad : Nat → Nat) (r : xR) (po : Int32) (pn : Int32) (pl : Int32) (tx : Nat → Int32) (rp : Int32) (rl : Int32) (rs : Int32) (rm : Int32) (rn : Int32) (rz : Int32) (sv : xPl) (mm : xPl) (qa : Int32) (hc : clO r po pn) : xM l g.1 (xT g) yX6_expo (ws_ yX6_expo cX6_expo 2 (some .int)) (xRm 7 114 1 6) 1 6 [.ref (ap 0), .int qa] (wCl g ap ad r po pn pl tx rp rl rs rm rn rz sv mm) (fun r9 w9 => (er_X6_expo qa) = none ∧ r9 = some (.int (r.ke (Int32.toNatClampNeg qa))) ∧ w9 = (wCl g ap ad r po pn pl tx rp rl rs rm rn rz sv mm)) (fun E w9 => (er_X6_expo qa) = some E ∧ w9 = (wCl g ap ad r po pn pl tx rp rl rs rm rn rz sv mm)) := by
  have h12 := hc.1.2.2.1
  refine x_start (own := RX6) (nm := "expo") rfl rfl (by decide +kernel) rfl (nle rfl) (fun p e σ m args below meth c A C hno hr => ?_)
  refine x_lve (lv' := [(0, .ref (ap 0)), (1, .int qa)]) rfl ?_
  refine x_ws (ws' := (wPo g ap ad po pn pl ++ (wS0 g ad ++ (wSk g ad r.kp r.ke r.kr r.kt r.kh r.kc ++ (wMx g ad r.xn r.xs r.xv r.xh r.xo r.xc ++ (wSv g ad r.vd r.vn r.vl r.vu r.vs r.vm r.vp r.vt r.va r.vw ++ (wLk g ad r.jd r.jb r.jc r.js r.jl r.jx r.ji r.jf r.jn ++ (wDm g ad r.dq ++ (wPq g ap (adr sv) (adr mm) tx ++ (wRd g (ap 4) rp rl rs rm rn rz ++ (wPl g sv 6 ++ wPl g mm 2))))))))))) rfl ?_
  refine x_iload_n C 1 rfl rfl dX6_expo_0 ?_
  refine x_RS [.int qa] [] C (k_X6_requireStick l g qa) yS_X6_requireStick wML_X6_34 rfl rfl (nle rfl) (nle rfl) (nle rfl) (nle rfl) (nle rfl) dX6_expo_1 (fun hk1 => ?_) (fun hk1 => ?_)
  · exact x_out C hno (nle rfl) (nle rfl) ⟨(by simp only [er_X6_expo, if_neg hk1]), rfl⟩
  refine x_aload_n C 0 rfl rfl dX6_expo_4 ?_
  refine x_get C 0 6 0 rfl rfl wLy_X6 wFL_X6_10 rfl (by decide) rfl dX6_expo_5 ?_
  refine x_get C 1 4 0 rfl rfl wLy_X4 wFL_X6_45 rfl (by decide) rfl dX6_expo_8 ?_
  refine x_get C 2 5 1 rfl rfl wLy_X5 wFL_X6_64 rfl (by decide) rfl dX6_expo_11 ?_
  have hk1l := rq_lt hk1 (show (4 : Int32) = nI 4 from rfl) (by decide)
  refine x_iload_n C 1 rfl rfl dX6_expo_14 ?_
  refine x_ialdN (f := r.ke) C 4 0 (Int32.toNatClampNeg qa) rfl rfl (rq_nat hk1 (by decide)) (by first | omega | exact slN_lt _ (by omega)) (by decide) dX6_expo_15 ?_
  exact x_iret C hr (nle rfl) (nle rfl) dX6_expo_16 ⟨(by simp only [er_X6_expo, if_pos hk1]), rfl, rfl⟩
def sp_X6_switchRates (r : xR) : Int32 := (if r.kh = 0 then (1 : Int32) else 0)
def sp_X6_switchRates_kh (r : xR) : Int32 := (if r.kh = 0 then (1 : Int32) else 0)
set_option maxRecDepth 100000 in
set_option maxHeartbeats 1000000 in
theorem k_X6_switchRates (l : Launch) (g : xGt) (ap ad : Nat → Nat) (r : xR) (po : Int32) (pn : Int32) (pl : Int32) (tx : Nat → Int32) (rp : Int32) (rl : Int32) (rs : Int32) (rm : Int32) (rn : Int32) (rz : Int32) (sv : xPl) (mm : xPl) (hc : clO r po pn) : xM l g.1 (xT g) yX6_switchRates (ws_ yX6_switchRates cX6_switchRates 1 (some .boolean)) (xRm 4 87 25 186) 25 186 [.ref (ap 0)] (wCl g ap ad r po pn pl tx rp rl rs rm rn rz sv mm) (fun r9 w9 => r9 = some (.int (sp_X6_switchRates r)) ∧ ∃ adn : Nat → Nat, w9 = (wCl g ap ad (r.set_kh (sp_X6_switchRates_kh r)) (sp_spo2 po pn) (sp_spn2 pn) pl tx rp rl rs rm rn rz (svS sv adn r po pn) mm)) (fun _ _ => False) := by
  have h12 := hc.1.2.2.1
  refine x_start (own := RX6) (nm := "switchRates") rfl rfl (by decide +kernel) rfl (nle rfl) (fun p e σ m args below meth c A C hno hr => ?_)
  refine x_lve (lv' := [(0, .ref (ap 0))]) rfl ?_
  refine x_ws (ws' := (wPo g ap ad po pn pl ++ (wS0 g ad ++ (wSk g ad r.kp r.ke r.kr r.kt r.kh r.kc ++ (wMx g ad r.xn r.xs r.xv r.xh r.xo r.xc ++ (wSv g ad r.vd r.vn r.vl r.vu r.vs r.vm r.vp r.vt r.va r.vw ++ (wLk g ad r.jd r.jb r.jc r.js r.jl r.jx r.ji r.jf r.jn ++ (wDm g ad r.dq ++ (wPq g ap (adr sv) (adr mm) tx ++ (wRd g (ap 4) rp rl rs rm rn rz ++ (wPl g sv 6 ++ wPl g mm 2))))))))))) rfl ?_
  refine x_aload_n C 0 rfl rfl dX6_switchRates_0 ?_
  refine x_EV0 [] [] C (k_X6_saveState l g ap ad r po pn pl tx rp rl rs rm rn rz sv mm hc) rfl yV_X6_saveState wML_X6_42 0 rfl rfl rfl rfl (nle rfl) (nle rfl) (nle rfl) (nle rfl) (nle rfl) dX6_switchRates_1 (fun E w h => h.elim) (fun r0 w h => ?_)
  obtain ⟨rfl, adn, rfl⟩ := h
  refine x_ws (ws' := (wPo g ap ad (sp_spo2 po pn) (sp_spn2 pn) pl ++ (wS0 g ad ++ (wSk g ad r.kp r.ke r.kr r.kt r.kh r.kc ++ (wMx g ad r.xn r.xs r.xv r.xh r.xo r.xc ++ (wSv g ad r.vd r.vn r.vl r.vu r.vs r.vm r.vp r.vt r.va r.vw ++ (wLk g ad r.jd r.jb r.jc r.js r.jl r.jx r.ji r.jf r.jn ++ (wDm g ad r.dq ++ (wPq g ap (adr (svS sv adn r po pn)) (adr mm) tx ++ (wRd g (ap 4) rp rl rs rm rn rz ++ (wPl g (svS sv adn r po pn) 6 ++ wPl g mm 2))))))))))) rfl ?_
  refine x_st (st' := []) rfl ?_
  refine x_aload_n C 0 rfl rfl dX6_switchRates_4 ?_
  refine x_get C 0 6 0 rfl rfl wLy_X6 wFL_X6_10 rfl (by decide) rfl dX6_switchRates_5 ?_
  refine x_get C 1 4 0 rfl rfl wLy_X4 wFL_X6_45 rfl (by decide) rfl dX6_switchRates_8 ?_
  refine x_aload_n C 0 rfl rfl dX6_switchRates_11 ?_
  refine x_get C 0 6 0 rfl rfl wLy_X6 wFL_X6_10 rfl (by decide) rfl dX6_switchRates_12 ?_
  refine x_get C 1 4 0 rfl rfl wLy_X4 wFL_X6_45 rfl (by decide) rfl dX6_switchRates_15 ?_
  refine x_get C 2 5 4 rfl rfl wLy_X5 wFL_X6_67 rfl (by decide) rfl dX6_switchRates_18 ?_
  suffices K2 : xW p l e _ σ m args below meth c g.1 A 1 25 186 _ (wPo g ap ad (sp_spo2 po pn) (sp_spn2 pn) pl ++ (wS0 g ad ++ (wSk g ad r.kp r.ke r.kr r.kt r.kh r.kc ++ (wMx g ad r.xn r.xs r.xv r.xh r.xo r.xc ++ (wSv g ad r.vd r.vn r.vl r.vu r.vs r.vm r.vp r.vt r.va r.vw ++ (wLk g ad r.jd r.jb r.jc r.js r.jl r.jx r.ji r.jf r.jn ++ (wDm g ad r.dq ++ (wPq g ap (adr (svS sv adn r po pn)) (adr mm) tx ++ (wRd g (ap 4) rp rl rs rm rn rz ++ (wPl g (svS sv adn r po pn) 6 ++ wPl g mm 2)))))))))) [(0, .ref (ap 0))] 29 [.int (if r.kh = 0 then (1 : Int32) else 0), .ref (ad 1)] by
    refine x_if_ne C 28 (by decide) dX6_switchRates_21 (fun h1 => ?_) (fun h1 => ?_)
    · refine x_iconst C 0 (by decide) dX6_switchRates_28 ?_
      refine x_st (st' := [.int (if r.kh = 0 then (1 : Int32) else 0), .ref (ad 1)]) (by simp only [if_neg h1]) ?_
      exact K2
    · refine x_iconst C 1 (by decide) dX6_switchRates_24 ?_
      refine x_goto C 29 (by decide) dX6_switchRates_25 ?_
      refine x_st (st' := [.int (if r.kh = 0 then (1 : Int32) else 0), .ref (ad 1)]) (by simp only [if_pos h1]) ?_
      exact K2
  refine x_put C 2 5 4 tyX5 (wPo g ap ad (sp_spo2 po pn) (sp_spn2 pn) pl ++ (wS0 g ad ++ (wSk g ad r.kp r.ke r.kr r.kt (if r.kh = 0 then (1 : Int32) else 0) r.kc ++ (wMx g ad r.xn r.xs r.xv r.xh r.xo r.xc ++ (wSv g ad r.vd r.vn r.vl r.vu r.vs r.vm r.vp r.vt r.va r.vw ++ (wLk g ad r.jd r.jb r.jc r.js r.jl r.jx r.ji r.jf r.jn ++ (wDm g ad r.dq ++ (wPq g ap (adr (svS sv adn r po pn)) (adr mm) tx ++ (wRd g (ap 4) rp rl rs rm rn rz ++ (wPl g (svS sv adn r po pn) 6 ++ wPl g mm 2)))))))))) rfl rfl rfl wLy_X5 tyX5_ok nmX5 wFL_X6_67 rfl (by decide) rfl rfl (xnz (bool_ite (Or.inr rfl) (Or.inl rfl))) (xfz (bool_ite (Or.inr rfl) (Or.inl rfl))) (nlt rfl) dX6_switchRates_29 ?_
  refine x_aload_n C 0 rfl rfl dX6_switchRates_32 ?_
  refine x_get C 0 6 0 rfl rfl wLy_X6 wFL_X6_10 rfl (by decide) rfl dX6_switchRates_33 ?_
  refine x_get C 1 4 0 rfl rfl wLy_X4 wFL_X6_45 rfl (by decide) rfl dX6_switchRates_36 ?_
  refine x_get C 2 5 4 rfl rfl wLy_X5 wFL_X6_67 rfl (by decide) rfl dX6_switchRates_39 ?_
  exact x_zret C hr (xnz (bool_ite (Or.inr rfl) (Or.inl rfl))) (nle rfl) (nle rfl) dX6_switchRates_42 ⟨(by first | (simp only [sp_X6_switchRates]; done) | (simp only [sp_X6_switchRates]; rfl)), adn, (by first | (simp only [sp_X6_switchRates_kh]; done) | (simp only [sp_X6_switchRates_kh]; rfl))⟩
set_option maxRecDepth 100000 in
set_option maxHeartbeats 1000000 in
theorem k_X6_isHigh (l : Launch) (g : xGt) (ap ad : Nat → Nat) (r : xR) (po : Int32) (pn : Int32) (pl : Int32) (tx : Nat → Int32) (rp : Int32) (rl : Int32) (rs : Int32) (rm : Int32) (rn : Int32) (rz : Int32) (sv : xPl) (mm : xPl) (hc : clO r po pn) : xM l g.1 (xT g) yX6_isHigh (ws_ yX6_isHigh cX6_isHigh 1 (some .boolean)) (xRm 0 0 0 0) 0 0 [.ref (ap 0)] (wCl g ap ad r po pn pl tx rp rl rs rm rn rz sv mm) (fun r9 w9 => r9 = some (.int r.kh) ∧ w9 = (wCl g ap ad r po pn pl tx rp rl rs rm rn rz sv mm)) (fun _ _ => False) := by
  have h12 := hc.1.2.2.1
  refine x_start (own := RX6) (nm := "isHigh") rfl rfl (by decide +kernel) rfl (nle rfl) (fun p e σ m args below meth c A C hno hr => ?_)
  refine x_lve (lv' := [(0, .ref (ap 0))]) rfl ?_
  refine x_ws (ws' := (wPo g ap ad po pn pl ++ (wS0 g ad ++ (wSk g ad r.kp r.ke r.kr r.kt r.kh r.kc ++ (wMx g ad r.xn r.xs r.xv r.xh r.xo r.xc ++ (wSv g ad r.vd r.vn r.vl r.vu r.vs r.vm r.vp r.vt r.va r.vw ++ (wLk g ad r.jd r.jb r.jc r.js r.jl r.jx r.ji r.jf r.jn ++ (wDm g ad r.dq ++ (wPq g ap (adr sv) (adr mm) tx ++ (wRd g (ap 4) rp rl rs rm rn rz ++ (wPl g sv 6 ++ wPl g mm 2))))))))))) rfl ?_
  refine x_aload_n C 0 rfl rfl dX6_isHigh_0 ?_
  refine x_get C 0 6 0 rfl rfl wLy_X6 wFL_X6_10 rfl (by decide) rfl dX6_isHigh_1 ?_
  refine x_get C 1 4 0 rfl rfl wLy_X4 wFL_X6_45 rfl (by decide) rfl dX6_isHigh_4 ?_
  refine x_get C 2 5 4 rfl rfl wLy_X5 wFL_X6_67 rfl (by decide) rfl dX6_isHigh_7 ?_
  exact x_zret C hr (xnz hc.1.1) (nle rfl) (nle rfl) dX6_isHigh_10 ⟨rfl, rfl⟩
set_option maxRecDepth 100000 in
set_option maxHeartbeats 1000000 in
theorem k_X6_cutThrottle (l : Launch) (g : xGt) (ap ad : Nat → Nat) (r : xR) (po : Int32) (pn : Int32) (pl : Int32) (tx : Nat → Int32) (rp : Int32) (rl : Int32) (rs : Int32) (rm : Int32) (rn : Int32) (rz : Int32) (sv : xPl) (mm : xPl) (z : Int32) (b_z : z = 0 ∨ z = 1) (hc : clO r po pn) : xM l g.1 (xT g) yX6_cutThrottle (ws_ yX6_cutThrottle cX6_cutThrottle 3 (some .boolean)) (xRm 4 87 25 186) 25 186 [.ref (ap 0), .int z] (wCl g ap ad r po pn pl tx rp rl rs rm rn rz sv mm) (fun r9 w9 => r9 = some (.int r.kc) ∧ ∃ adn : Nat → Nat, w9 = (wCl g ap ad (r.set_kc z) (sp_spo2 po pn) (sp_spn2 pn) pl tx rp rl rs rm rn rz (svS sv adn r po pn) mm)) (fun _ _ => False) := by
  have h12 := hc.1.2.2.1
  refine x_start (own := RX6) (nm := "cutThrottle") rfl rfl (by decide +kernel) rfl (nle rfl) (fun p e σ m args below meth c A C hno hr => ?_)
  refine x_lve (lv' := [(0, .ref (ap 0)), (1, .int z)]) rfl ?_
  refine x_ws (ws' := (wPo g ap ad po pn pl ++ (wS0 g ad ++ (wSk g ad r.kp r.ke r.kr r.kt r.kh r.kc ++ (wMx g ad r.xn r.xs r.xv r.xh r.xo r.xc ++ (wSv g ad r.vd r.vn r.vl r.vu r.vs r.vm r.vp r.vt r.va r.vw ++ (wLk g ad r.jd r.jb r.jc r.js r.jl r.jx r.ji r.jf r.jn ++ (wDm g ad r.dq ++ (wPq g ap (adr sv) (adr mm) tx ++ (wRd g (ap 4) rp rl rs rm rn rz ++ (wPl g sv 6 ++ wPl g mm 2))))))))))) rfl ?_
  refine x_aload_n C 0 rfl rfl dX6_cutThrottle_0 ?_
  refine x_EV0 [] [] C (k_X6_saveState l g ap ad r po pn pl tx rp rl rs rm rn rz sv mm hc) rfl yV_X6_saveState wML_X6_42 0 rfl rfl rfl rfl (nle rfl) (nle rfl) (nle rfl) (nle rfl) (nle rfl) dX6_cutThrottle_1 (fun E w h => h.elim) (fun r0 w h => ?_)
  obtain ⟨rfl, adn, rfl⟩ := h
  refine x_ws (ws' := (wPo g ap ad (sp_spo2 po pn) (sp_spn2 pn) pl ++ (wS0 g ad ++ (wSk g ad r.kp r.ke r.kr r.kt r.kh r.kc ++ (wMx g ad r.xn r.xs r.xv r.xh r.xo r.xc ++ (wSv g ad r.vd r.vn r.vl r.vu r.vs r.vm r.vp r.vt r.va r.vw ++ (wLk g ad r.jd r.jb r.jc r.js r.jl r.jx r.ji r.jf r.jn ++ (wDm g ad r.dq ++ (wPq g ap (adr (svS sv adn r po pn)) (adr mm) tx ++ (wRd g (ap 4) rp rl rs rm rn rz ++ (wPl g (svS sv adn r po pn) 6 ++ wPl g mm 2))))))))))) rfl ?_
  refine x_st (st' := []) rfl ?_
  refine x_aload_n C 0 rfl rfl dX6_cutThrottle_4 ?_
  refine x_get C 0 6 0 rfl rfl wLy_X6 wFL_X6_10 rfl (by decide) rfl dX6_cutThrottle_5 ?_
  refine x_get C 1 4 0 rfl rfl wLy_X4 wFL_X6_45 rfl (by decide) rfl dX6_cutThrottle_8 ?_
  refine x_get C 2 5 5 rfl rfl wLy_X5 wFL_X6_71 rfl (by decide) rfl dX6_cutThrottle_11 ?_
  refine x_istore_n C [(2, .int r.kc), (0, .ref (ap 0)), (1, .int z)] rfl rfl (by decide) dX6_cutThrottle_14 ?_
  refine x_aload_n C 1 rfl rfl dX6_cutThrottle_15 ?_
  refine x_get C 0 6 0 rfl rfl wLy_X6 wFL_X6_10 rfl (by decide) rfl dX6_cutThrottle_16 ?_
  refine x_get C 1 4 0 rfl rfl wLy_X4 wFL_X6_45 rfl (by decide) rfl dX6_cutThrottle_19 ?_
  refine x_iload_n C 2 rfl rfl dX6_cutThrottle_22 ?_
  refine x_put C 2 5 5 tyX5 (wPo g ap ad (sp_spo2 po pn) (sp_spn2 pn) pl ++ (wS0 g ad ++ (wSk g ad r.kp r.ke r.kr r.kt r.kh z ++ (wMx g ad r.xn r.xs r.xv r.xh r.xo r.xc ++ (wSv g ad r.vd r.vn r.vl r.vu r.vs r.vm r.vp r.vt r.va r.vw ++ (wLk g ad r.jd r.jb r.jc r.js r.jl r.jx r.ji r.jf r.jn ++ (wDm g ad r.dq ++ (wPq g ap (adr (svS sv adn r po pn)) (adr mm) tx ++ (wRd g (ap 4) rp rl rs rm rn rz ++ (wPl g (svS sv adn r po pn) 6 ++ wPl g mm 2)))))))))) rfl rfl rfl wLy_X5 tyX5_ok nmX5 wFL_X6_71 rfl (by decide) rfl rfl (xnz b_z) (xfz b_z) (nlt rfl) dX6_cutThrottle_23 ?_
  refine x_iload_n C 0 rfl rfl dX6_cutThrottle_26 ?_
  exact x_zret C hr (xnz hc.2.1) (nle rfl) (nle rfl) dX6_cutThrottle_27 ⟨rfl, adn, rfl⟩
set_option maxRecDepth 100000 in
set_option maxHeartbeats 1000000 in
theorem k_X6_isCut (l : Launch) (g : xGt) (ap ad : Nat → Nat) (r : xR) (po : Int32) (pn : Int32) (pl : Int32) (tx : Nat → Int32) (rp : Int32) (rl : Int32) (rs : Int32) (rm : Int32) (rn : Int32) (rz : Int32) (sv : xPl) (mm : xPl) (hc : clO r po pn) : xM l g.1 (xT g) yX6_isCut (ws_ yX6_isCut cX6_isCut 1 (some .boolean)) (xRm 0 0 0 0) 0 0 [.ref (ap 0)] (wCl g ap ad r po pn pl tx rp rl rs rm rn rz sv mm) (fun r9 w9 => r9 = some (.int r.kc) ∧ w9 = (wCl g ap ad r po pn pl tx rp rl rs rm rn rz sv mm)) (fun _ _ => False) := by
  have h12 := hc.1.2.2.1
  refine x_start (own := RX6) (nm := "isCut") rfl rfl (by decide +kernel) rfl (nle rfl) (fun p e σ m args below meth c A C hno hr => ?_)
  refine x_lve (lv' := [(0, .ref (ap 0))]) rfl ?_
  refine x_ws (ws' := (wPo g ap ad po pn pl ++ (wS0 g ad ++ (wSk g ad r.kp r.ke r.kr r.kt r.kh r.kc ++ (wMx g ad r.xn r.xs r.xv r.xh r.xo r.xc ++ (wSv g ad r.vd r.vn r.vl r.vu r.vs r.vm r.vp r.vt r.va r.vw ++ (wLk g ad r.jd r.jb r.jc r.js r.jl r.jx r.ji r.jf r.jn ++ (wDm g ad r.dq ++ (wPq g ap (adr sv) (adr mm) tx ++ (wRd g (ap 4) rp rl rs rm rn rz ++ (wPl g sv 6 ++ wPl g mm 2))))))))))) rfl ?_
  refine x_aload_n C 0 rfl rfl dX6_isCut_0 ?_
  refine x_get C 0 6 0 rfl rfl wLy_X6 wFL_X6_10 rfl (by decide) rfl dX6_isCut_1 ?_
  refine x_get C 1 4 0 rfl rfl wLy_X4 wFL_X6_45 rfl (by decide) rfl dX6_isCut_4 ?_
  refine x_get C 2 5 5 rfl rfl wLy_X5 wFL_X6_71 rfl (by decide) rfl dX6_isCut_7 ?_
  exact x_zret C hr (xnz hc.2.1) (nle rfl) (nle rfl) dX6_isCut_10 ⟨rfl, rfl⟩
def er_X6_command (qa : Int32) : Option String := (if (¬ qa < 0 ∧ qa < 4) then none else some xIO)
set_option maxRecDepth 100000 in
set_option maxHeartbeats 1000000 in
theorem k_X6_command (l : Launch) (g : xGt) (ap ad : Nat → Nat) (r : xR) (po : Int32) (pn : Int32) (pl : Int32) (tx : Nat → Int32) (rp : Int32) (rl : Int32) (rs : Int32) (rm : Int32) (rn : Int32) (rz : Int32) (sv : xPl) (mm : xPl) (qa : Int32) (hc : clO r po pn) : xM l g.1 (xT g) yX6_command (ws_ yX6_command cX6_command 2 (some .int)) (xRm 7 114 1 6) 1 6 [.ref (ap 0), .int qa] (wCl g ap ad r po pn pl tx rp rl rs rm rn rz sv mm) (fun r9 w9 => (er_X6_command qa) = none ∧ r9 = some (.int (sp_X5_commandOf r.kp r.ke r.kr r.kt r.kh r.kc (Int32.toNatClampNeg qa))) ∧ w9 = (wCl g ap ad r po pn pl tx rp rl rs rm rn rz sv mm)) (fun E w9 => (er_X6_command qa) = some E ∧ w9 = (wCl g ap ad r po pn pl tx rp rl rs rm rn rz sv mm)) := by
  have h12 := hc.1.2.2.1
  refine x_start (own := RX6) (nm := "command") rfl rfl (by decide +kernel) rfl (nle rfl) (fun p e σ m args below meth c A C hno hr => ?_)
  refine x_lve (lv' := [(0, .ref (ap 0)), (1, .int qa)]) rfl ?_
  refine x_ws (ws' := (wPo g ap ad po pn pl ++ (wS0 g ad ++ (wSk g ad r.kp r.ke r.kr r.kt r.kh r.kc ++ (wMx g ad r.xn r.xs r.xv r.xh r.xo r.xc ++ (wSv g ad r.vd r.vn r.vl r.vu r.vs r.vm r.vp r.vt r.va r.vw ++ (wLk g ad r.jd r.jb r.jc r.js r.jl r.jx r.ji r.jf r.jn ++ (wDm g ad r.dq ++ (wPq g ap (adr sv) (adr mm) tx ++ (wRd g (ap 4) rp rl rs rm rn rz ++ (wPl g sv 6 ++ wPl g mm 2))))))))))) rfl ?_
  refine x_iload_n C 1 rfl rfl dX6_command_0 ?_
  refine x_RS [.int qa] [] C (k_X6_requireStick l g qa) yS_X6_requireStick wML_X6_34 rfl rfl (nle rfl) (nle rfl) (nle rfl) (nle rfl) (nle rfl) dX6_command_1 (fun hk1 => ?_) (fun hk1 => ?_)
  · exact x_out C hno (nle rfl) (nle rfl) ⟨(by simp only [er_X6_command, if_neg hk1]), rfl⟩
  refine x_aload_n C 0 rfl rfl dX6_command_4 ?_
  refine x_get C 0 6 0 rfl rfl wLy_X6 wFL_X6_10 rfl (by decide) rfl dX6_command_5 ?_
  refine x_get C 1 4 0 rfl rfl wLy_X4 wFL_X6_45 rfl (by decide) rfl dX6_command_8 ?_
  have hk1l := rq_lt hk1 (show (4 : Int32) = nI 4 from rfl) (by decide)
  refine x_iload_n C 1 rfl rfl dX6_command_11 ?_
  refine x_FV (w1 := (List.take 2 (wPo g ap ad po pn pl ++ (wS0 g ad ++ (wSk g ad r.kp r.ke r.kr r.kt r.kh r.kc ++ (wMx g ad r.xn r.xs r.xv r.xh r.xo r.xc ++ (wSv g ad r.vd r.vn r.vl r.vu r.vs r.vm r.vp r.vt r.va r.vw ++ (wLk g ad r.jd r.jb r.jc r.js r.jl r.jx r.ji r.jf r.jn ++ (wDm g ad r.dq ++ (wPq g ap (adr sv) (adr mm) tx ++ (wRd g (ap 4) rp rl rs rm rn rz ++ (wPl g sv 6 ++ wPl g mm 2)))))))))))) (wc := _) (w2 := (List.drop 7 (wPo g ap ad po pn pl ++ (wS0 g ad ++ (wSk g ad r.kp r.ke r.kr r.kt r.kh r.kc ++ (wMx g ad r.xn r.xs r.xv r.xh r.xo r.xc ++ (wSv g ad r.vd r.vn r.vl r.vu r.vs r.vm r.vp r.vt r.va r.vw ++ (wLk g ad r.jd r.jb r.jc r.js r.jl r.jx r.ji r.jf r.jn ++ (wDm g ad r.dq ++ (wPq g ap (adr sv) (adr mm) tx ++ (wRd g (ap 4) rp rl rs rm rn rz ++ (wPl g sv 6 ++ wPl g mm 2)))))))))))) [.int qa] [] (wPo g ap ad po pn pl ++ (wS0 g ad ++ (wSk g ad r.kp r.ke r.kr r.kt r.kh r.kc ++ (wMx g ad r.xn r.xs r.xv r.xh r.xo r.xc ++ (wSv g ad r.vd r.vn r.vl r.vu r.vs r.vm r.vp r.vt r.va r.vw ++ (wLk g ad r.jd r.jb r.jc r.js r.jl r.jx r.ji r.jf r.jn ++ (wDm g ad r.dq ++ (wPq g ap (adr sv) (adr mm) tx ++ (wRd g (ap 4) rp rl rs rm rn rz ++ (wPl g sv 6 ++ wPl g mm 2)))))))))) C (k_X5_commandOf l g ad r.kp r.ke r.kr r.kt r.kh r.kc qa (Int32.toNatClampNeg qa) (rq_nat hk1 (by decide)) (by omega)) rfl yV_X5_commandOf wML_X6_74 rfl 2 rfl rfl rfl rfl (nle rfl) (nle rfl) (nle rfl) (nle rfl) (nle rfl) dX6_command_12 ?_
  exact x_iret C hr (nle rfl) (nle rfl) dX6_command_15 ⟨(by simp only [er_X6_command, if_pos hk1]), rfl, rfl⟩
