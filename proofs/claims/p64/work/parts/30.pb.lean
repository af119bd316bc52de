def er_X6_addMix (r : xR) (qa : Int32) (qb : Int32) (qc : Int32) (qd : Int32) (qe : Int32) : Option String := (if (¬ qb < 0 ∧ qb < 6) then (if (¬ qa < 0 ∧ qa ≤ ((nI (4 + (Int32.toNatClampNeg qb))) - 1)) then (if (¬ qc < (-150) ∧ qc ≤ 150) then (if qc = 0 then some xIA else (if (¬ qd < (-50) ∧ qd ≤ 50) then (if (¬ qe < 0 ∧ qe ≤ 2) then (if (r.xn + 1) ≤ 12 then none else some xIS) else some xIA) else some xIA)) else some xIA) else some xIA) else some xIO)
set_option maxRecDepth 100000 in
set_option maxHeartbeats 1000000 in
theorem k_X6_addMix (l : Launch) (g : xGt) (ap ad : Nat → Nat) (r : xR) (po : Int32) (pn : Int32) (pl : Int32) (tx : Nat → Int32) (rp : Int32) (rl : Int32) (rs : Int32) (rm : Int32) (rn : Int32) (rz : Int32) (sv : xPl) (mm : xPl) (qa : Int32) (qb : Int32) (qc : Int32) (qd : Int32) (qe : Int32) (hc : clO r po pn) : xM l g.1 (xT g) yX6_addMix (ws_ yX6_addMix cX6_addMix 6 (some .int)) (xRm 7 116 31 222) 31 222 [.ref (ap 0), .int qa, .int qb, .int qc, .int qd, .int qe] (wCl g ap ad r po pn pl tx rp rl rs rm rn rz sv mm) (fun r9 w9 => (er_X6_addMix r qa qb qc qd qe) = none ∧ r9 = some (.int ((sp_X2_put_xn r.xn) - 1)) ∧ ∃ adn : Nat → Nat, w9 = (wCl g ap ad (xRk r.kp r.ke r.kr r.kt r.kh r.kc (sp_X2_put_xn r.xn) (sp_X2_put_xs r.xn r.xs qa) (sp_X2_put_xv r.xn r.xv qb) (sp_X2_put_xh r.xn r.xh qc) (sp_X2_put_xo r.xn r.xo qd) (sp_X2_put_xc r.xn r.xc qe) r.vd r.vn r.vl r.vu r.vs r.vm r.vp r.vt r.va r.vw r.jd r.jb r.jc r.js r.jl r.jx r.ji r.jf r.jn r.dq) (sp_spo2 po pn) (sp_spn2 pn) pl tx rp rl rs rm rn rz (svS sv adn r po pn) mm)) (fun E w9 => (er_X6_addMix r qa qb qc qd qe) = some E ∧ w9 = (wCl g ap ad r po pn pl tx rp rl rs rm rn rz sv mm)) := by
  have h12 := hc.1.2.2.1
  refine x_start (own := RX6) (nm := "addMix") rfl rfl (by decide +kernel) rfl (nle rfl) (fun p e σ m args below meth c A C hno hr => ?_)
  refine x_lve (lv' := [(0, .ref (ap 0)), (1, .int qa), (2, .int qb), (3, .int qc), (4, .int qd), (5, .int qe)]) rfl ?_
  refine x_ws (ws' := (wPo g ap ad po pn pl ++ (wS0 g ad ++ (wSk g ad r.kp r.ke r.kr r.kt r.kh r.kc ++ (wMx g ad r.xn r.xs r.xv r.xh r.xo r.xc ++ (wSv g ad r.vd r.vn r.vl r.vu r.vs r.vm r.vp r.vt r.va r.vw ++ (wLk g ad r.jd r.jb r.jc r.js r.jl r.jx r.ji r.jf r.jn ++ (wDm g ad r.dq ++ (wPq g ap (adr sv) (adr mm) tx ++ (wRd g (ap 4) rp rl rs rm rn rz ++ (wPl g sv 6 ++ wPl g mm 2))))))))))) rfl ?_
  refine x_iload_n C 2 rfl rfl dX6_addMix_0 ?_
  refine x_RS [.int qb] [] C (k_X6_requireServo l g qb) yS_X6_requireServo wML_X6_77 rfl rfl (nle rfl) (nle rfl) (nle rfl) (nle rfl) (nle rfl) dX6_addMix_1 (fun hk1 => ?_) (fun hk1 => ?_)
  · exact x_out C hno (nle rfl) (nle rfl) ⟨(by simp only [er_X6_addMix, if_neg hk1]), rfl⟩
  refine x_iload_n C 1 rfl rfl dX6_addMix_4 ?_
  refine x_iconst C 0 (by decide) dX6_addMix_5 ?_
  refine x_iconst C 4 (by decide) dX6_addMix_6 ?_
  have hk1l := rq_lt hk1 (show (6 : Int32) = nI 6 from rfl) (by decide)
  refine x_iload_n C 2 rfl rfl dX6_addMix_7 ?_
  refine x_iaddN C 4 (Int32.toNatClampNeg qb) rfl (rq_nat hk1 (by decide)) dX6_addMix_8 ?_
  refine x_iconst C 1 (by decide) dX6_addMix_9 ?_
  refine x_isub C dX6_addMix_10 ?_
  refine x_RS [.int qa, .int 0, .int ((nI (4 + (Int32.toNatClampNeg qb))) - 1)] [] C (k_X6_requireRange l g qa 0 ((nI (4 + (Int32.toNatClampNeg qb))) - 1)) yS_X6_requireRange wML_X6_38 rfl rfl (nle rfl) (nle rfl) (nle rfl) (nle rfl) (nle rfl) dX6_addMix_11 (fun hk2 => ?_) (fun hk2 => ?_)
  · exact x_out C hno (nle rfl) (nle rfl) ⟨(by simp only [er_X6_addMix, if_pos hk1, if_neg hk2]), rfl⟩
  refine x_iload_n C 3 rfl rfl dX6_addMix_14 ?_
  refine x_sipush C (-150) (by decide) dX6_addMix_15 ?_
  refine x_sipush C 150 (by decide) dX6_addMix_18 ?_
  refine x_RS [.int qc, .int (-150), .int 150] [] C (k_X6_requireRange l g qc (-150) 150) yS_X6_requireRange wML_X6_38 rfl rfl (nle rfl) (nle rfl) (nle rfl) (nle rfl) (nle rfl) dX6_addMix_21 (fun hk3 => ?_) (fun hk3 => ?_)
  · exact x_out C hno (nle rfl) (nle rfl) ⟨(by simp only [er_X6_addMix, if_pos hk1, if_pos hk2, if_neg hk3]), rfl⟩
  refine x_iload_n C 3 rfl rfl dX6_addMix_24 ?_
  refine x_if_ne C 38 (by decide) dX6_addMix_25 (fun h4 => ?_) (fun h4 => ?_)
  · refine x_iload C 4 rfl dX6_addMix_38 ?_
    refine x_bipush C (-50) (by decide) dX6_addMix_40 ?_
    refine x_bipush C 50 (by decide) dX6_addMix_42 ?_
    refine x_RS [.int qd, .int (-50), .int 50] [] C (k_X6_requireRange l g qd (-50) 50) yS_X6_requireRange wML_X6_38 rfl rfl (nle rfl) (nle rfl) (nle rfl) (nle rfl) (nle rfl) dX6_addMix_44 (fun hk5 => ?_) (fun hk5 => ?_)
    · exact x_out C hno (nle rfl) (nle rfl) ⟨(by simp only [er_X6_addMix, if_pos hk1, if_pos hk2, if_pos hk3, if_neg h4, if_neg hk5]), rfl⟩
    refine x_iload C 5 rfl dX6_addMix_47 ?_
    refine x_iconst C 0 (by decide) dX6_addMix_49 ?_
    refine x_iconst C 2 (by decide) dX6_addMix_50 ?_
    refine x_RS [.int qe, .int 0, .int 2] [] C (k_X6_requireRange l g qe 0 2) yS_X6_requireRange wML_X6_38 rfl rfl (nle rfl) (nle rfl) (nle rfl) (nle rfl) (nle rfl) dX6_addMix_51 (fun hk6 => ?_) (fun hk6 => ?_)
    · exact x_out C hno (nle rfl) (nle rfl) ⟨(by simp only [er_X6_addMix, if_pos hk1, if_pos hk2, if_pos hk3, if_neg h4, if_pos hk5, if_neg hk6]), rfl⟩
    refine x_aload_n C 0 rfl rfl dX6_addMix_54 ?_
    refine x_iconst C 1 (by decide) dX6_addMix_55 ?_
    refine x_RV0 [.int 1] [] C (k_X6_requireRoomForMixes l g ap ad r po pn pl tx rp rl rs rm rn rz sv mm 1) rfl yV_X6_requireRoomForMixes wML_X6_87 0 rfl rfl rfl rfl (nle rfl) (nle rfl) (nle rfl) (nle rfl) (nle rfl) dX6_addMix_56 (fun hk7 => ?_) (fun hk7 => ?_)
    · exact x_out C hno (nle rfl) (nle rfl) ⟨(by simp only [er_X6_addMix, if_pos hk1, if_pos hk2, if_pos hk3, if_neg h4, if_pos hk5, if_pos hk6, if_neg hk7]), rfl⟩
    refine x_aload_n C 0 rfl rfl dX6_addMix_59 ?_
    refine x_EV0 [] [] C (k_X6_saveState l g ap ad r po pn pl tx rp rl rs rm rn rz sv mm hc) rfl yV_X6_saveState wML_X6_42 0 rfl rfl rfl rfl (nle rfl) (nle rfl) (nle rfl) (nle rfl) (nle rfl) dX6_addMix_60 (fun E w h => h.elim) (fun r0 w h => ?_)
    obtain ⟨rfl, adn, rfl⟩ := h
    refine x_ws (ws' := (wPo g ap ad (sp_spo2 po pn) (sp_spn2 pn) pl ++ (wS0 g ad ++ (wSk g ad r.kp r.ke r.kr r.kt r.kh r.kc ++ (wMx g ad r.xn r.xs r.xv r.xh r.xo r.xc ++ (wSv g ad r.vd r.vn r.vl r.vu r.vs r.vm r.vp r.vt r.va r.vw ++ (wLk g ad r.jd r.jb r.jc r.js r.jl r.jx r.ji r.jf r.jn ++ (wDm g ad r.dq ++ (wPq g ap (adr (svS sv adn r po pn)) (adr mm) tx ++ (wRd g (ap 4) rp rl rs rm rn rz ++ (wPl g (svS sv adn r po pn) 6 ++ wPl g mm 2))))))))))) rfl ?_
    refine x_st (st' := []) rfl ?_
    refine x_aload_n C 0 rfl rfl dX6_addMix_63 ?_
    refine x_get C 0 6 0 rfl rfl wLy_X6 wFL_X6_10 rfl (by decide) rfl dX6_addMix_64 ?_
    refine x_get C 1 4 1 rfl rfl wLy_X4 wFL_X6_90 rfl (by decide) rfl dX6_addMix_67 ?_
    refine x_iload_n C 1 rfl rfl dX6_addMix_70 ?_
    have hk1l := rq_lt hk1 (show (6 : Int32) = nI 6 from rfl) (by decide)
    refine x_iload_n C 2 rfl rfl dX6_addMix_71 ?_
    refine x_iload_n C 3 rfl rfl dX6_addMix_72 ?_
    refine x_iload C 4 rfl dX6_addMix_73 ?_
    have hk6l := rq_le hk6 (by decide) (show (2 : Int32) = nI 2 from rfl) (by decide)
    refine x_iload C 5 rfl dX6_addMix_75 ?_
    refine x_GV (w1 := (List.take 7 (wPo g ap ad (sp_spo2 po pn) (sp_spn2 pn) pl ++ (wS0 g ad ++ (wSk g ad r.kp r.ke r.kr r.kt r.kh r.kc ++ (wMx g ad r.xn r.xs r.xv r.xh r.xo r.xc ++ (wSv g ad r.vd r.vn r.vl r.vu r.vs r.vm r.vp r.vt r.va r.vw ++ (wLk g ad r.jd r.jb r.jc r.js r.jl r.jx r.ji r.jf r.jn ++ (wDm g ad r.dq ++ (wPq g ap (adr (svS sv adn r po pn)) (adr mm) tx ++ (wRd g (ap 4) rp rl rs rm rn rz ++ (wPl g (svS sv adn r po pn) 6 ++ wPl g mm 2)))))))))))) (wc := _) (w2 := (List.drop 13 (wPo g ap ad (sp_spo2 po pn) (sp_spn2 pn) pl ++ (wS0 g ad ++ (wSk g ad r.kp r.ke r.kr r.kt r.kh r.kc ++ (wMx g ad r.xn r.xs r.xv r.xh r.xo r.xc ++ (wSv g ad r.vd r.vn r.vl r.vu r.vs r.vm r.vp r.vt r.va r.vw ++ (wLk g ad r.jd r.jb r.jc r.js r.jl r.jx r.ji r.jf r.jn ++ (wDm g ad r.dq ++ (wPq g ap (adr (svS sv adn r po pn)) (adr mm) tx ++ (wRd g (ap 4) rp rl rs rm rn rz ++ (wPl g (svS sv adn r po pn) 6 ++ wPl g mm 2)))))))))))) [.int qa, .int qb, .int qc, .int qd, .int qe] [] (wPo g ap ad (sp_spo2 po pn) (sp_spn2 pn) pl ++ (wS0 g ad ++ (wSk g ad r.kp r.ke r.kr r.kt r.kh r.kc ++ (wMx g ad (sp_X2_put_xn r.xn) (sp_X2_put_xs r.xn r.xs qa) (sp_X2_put_xv r.xn r.xv qb) (sp_X2_put_xh r.xn r.xh qc) (sp_X2_put_xo r.xn r.xo qd) (sp_X2_put_xc r.xn r.xc qe) ++ (wSv g ad r.vd r.vn r.vl r.vu r.vs r.vm r.vp r.vt r.va r.vw ++ (wLk g ad r.jd r.jb r.jc r.js r.jl r.jx r.ji r.jf r.jn ++ (wDm g ad r.dq ++ (wPq g ap (adr (svS sv adn r po pn)) (adr mm) tx ++ (wRd g (ap 4) rp rl rs rm rn rz ++ (wPl g (svS sv adn r po pn) 6 ++ wPl g mm 2)))))))))) C (k_X2_put l g ad r.xn r.xs r.xv r.xh r.xo r.xc qa qb qc qd qe hc.1.2.1) rfl yV_X2_put wML_X6_94 rfl 7 rfl rfl rfl rfl (nle rfl) (nle rfl) (nle rfl) (nle rfl) (nle rfl) dX6_addMix_77 ?_
    refine x_aload_n C 0 rfl rfl dX6_addMix_80 ?_
    refine x_get C 0 6 0 rfl rfl wLy_X6 wFL_X6_10 rfl (by decide) rfl dX6_addMix_81 ?_
    refine x_get C 1 4 1 rfl rfl wLy_X4 wFL_X6_90 rfl (by decide) rfl dX6_addMix_84 ?_
    refine x_get C 7 2 0 rfl rfl wLy_X2 wFL_X6_100 rfl (by decide) rfl dX6_addMix_87 ?_
    refine x_iconst C 1 (by decide) dX6_addMix_90 ?_
    refine x_isub C dX6_addMix_91 ?_
    exact x_iret C hr (nle rfl) (nle rfl) dX6_addMix_92 ⟨(by simp only [er_X6_addMix, if_pos hk1, if_pos hk2, if_pos hk3, if_neg h4, if_pos hk5, if_pos hk6, if_pos hk7]), rfl, adn, rfl⟩
  · exact x_throw C hno (by decide +kernel) wCL_X6_80 wIn_IllegalArgumentException (by decide +kernel) (show (82, "A share is not 0.") ∈ xSs by decide +kernel) tw1_xIA tw2_xIA tw3_xIA dX6_addMix_28 dX6_addMix_31 dX6_addMix_32 dX6_addMix_34 dX6_addMix_37 (nlt rfl) (nle rfl) (nle rfl) (nle rfl) (nle rfl) (nle rfl) ⟨(by simp only [er_X6_addMix, if_pos hk1, if_pos hk2, if_pos hk3, if_pos h4]), rfl⟩
def sp_X6_removeMix_xs (r : xR) (qa : Int32) : Nat → Int32 := (sp_dra (Int32.toNatClampNeg qa) r.xs r.xv r.xh r.xo r.xc ((Int32.toNatClampNeg r.xn - 1) - (Int32.toNatClampNeg qa))).1
def sp_X6_removeMix_xv (r : xR) (qa : Int32) : Nat → Int32 := (sp_dra (Int32.toNatClampNeg qa) r.xs r.xv r.xh r.xo r.xc ((Int32.toNatClampNeg r.xn - 1) - (Int32.toNatClampNeg qa))).2.1
def sp_X6_removeMix_xh (r : xR) (qa : Int32) : Nat → Int32 := (sp_dra (Int32.toNatClampNeg qa) r.xs r.xv r.xh r.xo r.xc ((Int32.toNatClampNeg r.xn - 1) - (Int32.toNatClampNeg qa))).2.2.1
def sp_X6_removeMix_xo (r : xR) (qa : Int32) : Nat → Int32 := (sp_dra (Int32.toNatClampNeg qa) r.xs r.xv r.xh r.xo r.xc ((Int32.toNatClampNeg r.xn - 1) - (Int32.toNatClampNeg qa))).2.2.2.1
def sp_X6_removeMix_xc (r : xR) (qa : Int32) : Nat → Int32 := (sp_dra (Int32.toNatClampNeg qa) r.xs r.xv r.xh r.xo r.xc ((Int32.toNatClampNeg r.xn - 1) - (Int32.toNatClampNeg qa))).2.2.2.2
def er_X6_removeMix (r : xR) (qa : Int32) : Option String := (if (¬ qa < 0 ∧ qa < r.xn) then none else some xIO)
set_option maxRecDepth 100000 in
set_option maxHeartbeats 1000000 in
theorem k_X6_removeMix (l : Launch) (g : xGt) (ap ad : Nat → Nat) (r : xR) (po : Int32) (pn : Int32) (pl : Int32) (tx : Nat → Int32) (rp : Int32) (rl : Int32) (rs : Int32) (rm : Int32) (rn : Int32) (rz : Int32) (sv : xPl) (mm : xPl) (qa : Int32) (hc : clO r po pn) : xM l g.1 (xT g) yX6_removeMix (ws_ yX6_removeMix cX6_removeMix 2 (some .int)) (xRm 7 115 26 192) 26 192 [.ref (ap 0), .int qa] (wCl g ap ad r po pn pl tx rp rl rs rm rn rz sv mm) (fun r9 w9 => (er_X6_removeMix r qa) = none ∧ r9 = some (.int (r.xn - 1)) ∧ ∃ adn : Nat → Nat, w9 = (wCl g ap ad (xRk r.kp r.ke r.kr r.kt r.kh r.kc (r.xn - 1) (sp_X6_removeMix_xs r qa) (sp_X6_removeMix_xv r qa) (sp_X6_removeMix_xh r qa) (sp_X6_removeMix_xo r qa) (sp_X6_removeMix_xc r qa) r.vd r.vn r.vl r.vu r.vs r.vm r.vp r.vt r.va r.vw r.jd r.jb r.jc r.js r.jl r.jx r.ji r.jf r.jn r.dq) (sp_spo2 po pn) (sp_spn2 pn) pl tx rp rl rs rm rn rz (svS sv adn r po pn) mm)) (fun E w9 => (er_X6_removeMix r qa) = some E ∧ w9 = (wCl g ap ad r po pn pl tx rp rl rs rm rn rz sv mm)) := by
  have h12 := hc.1.2.2.1
  refine x_start (own := RX6) (nm := "removeMix") rfl rfl (by decide +kernel) rfl (nle rfl) (fun p e σ m args below meth c A C hno hr => ?_)
  refine x_lve (lv' := [(0, .ref (ap 0)), (1, .int qa)]) rfl ?_
  refine x_ws (ws' := (wPo g ap ad po pn pl ++ (wS0 g ad ++ (wSk g ad r.kp r.ke r.kr r.kt r.kh r.kc ++ (wMx g ad r.xn r.xs r.xv r.xh r.xo r.xc ++ (wSv g ad r.vd r.vn r.vl r.vu r.vs r.vm r.vp r.vt r.va r.vw ++ (wLk g ad r.jd r.jb r.jc r.js r.jl r.jx r.ji r.jf r.jn ++ (wDm g ad r.dq ++ (wPq g ap (adr sv) (adr mm) tx ++ (wRd g (ap 4) rp rl rs rm rn rz ++ (wPl g sv 6 ++ wPl g mm 2))))))))))) rfl ?_
  refine x_aload_n C 0 rfl rfl dX6_removeMix_0 ?_
  refine x_iload_n C 1 rfl rfl dX6_removeMix_1 ?_
  refine x_RV0 [.int qa] [] C (k_X6_requireMix l g ap ad r po pn pl tx rp rl rs rm rn rz sv mm qa) rfl yV_X6_requireMix wML_X6_104 0 rfl rfl rfl rfl (nle rfl) (nle rfl) (nle rfl) (nle rfl) (nle rfl) dX6_removeMix_2 (fun hk1 => ?_) (fun hk1 => ?_)
  · exact x_out C hno (nle rfl) (nle rfl) ⟨(by simp only [er_X6_removeMix, if_neg hk1]), rfl⟩
  refine x_aload_n C 0 rfl rfl dX6_removeMix_5 ?_
  refine x_EV0 [] [] C (k_X6_saveState l g ap ad r po pn pl tx rp rl rs rm rn rz sv mm hc) rfl yV_X6_saveState wML_X6_42 0 rfl rfl rfl rfl (nle rfl) (nle rfl) (nle rfl) (nle rfl) (nle rfl) dX6_removeMix_6 (fun E w h => h.elim) (fun r0 w h => ?_)
  obtain ⟨rfl, adn, rfl⟩ := h
  refine x_ws (ws' := (wPo g ap ad (sp_spo2 po pn) (sp_spn2 pn) pl ++ (wS0 g ad ++ (wSk g ad r.kp r.ke r.kr r.kt r.kh r.kc ++ (wMx g ad r.xn r.xs r.xv r.xh r.xo r.xc ++ (wSv g ad r.vd r.vn r.vl r.vu r.vs r.vm r.vp r.vt r.va r.vw ++ (wLk g ad r.jd r.jb r.jc r.js r.jl r.jx r.ji r.jf r.jn ++ (wDm g ad r.dq ++ (wPq g ap (adr (svS sv adn r po pn)) (adr mm) tx ++ (wRd g (ap 4) rp rl rs rm rn rz ++ (wPl g (svS sv adn r po pn) 6 ++ wPl g mm 2))))))))))) rfl ?_
  refine x_st (st' := []) rfl ?_
  refine x_aload_n C 0 rfl rfl dX6_removeMix_9 ?_
  refine x_get C 0 6 0 rfl rfl wLy_X6 wFL_X6_10 rfl (by decide) rfl dX6_removeMix_10 ?_
  refine x_get C 1 4 1 rfl rfl wLy_X4 wFL_X6_90 rfl (by decide) rfl dX6_removeMix_13 ?_
  have hk1l := rq_lt hk1 hc.1.2.1 (Int32.toNatClampNeg_lt _)
  refine x_iload_n C 1 rfl rfl dX6_removeMix_16 ?_
  refine x_GV (w1 := (List.take 7 (wPo g ap ad (sp_spo2 po pn) (sp_spn2 pn) pl ++ (wS0 g ad ++ (wSk g ad r.kp r.ke r.kr r.kt r.kh r.kc ++ (wMx g ad r.xn r.xs r.xv r.xh r.xo r.xc ++ (wSv g ad r.vd r.vn r.vl r.vu r.vs r.vm r.vp r.vt r.va r.vw ++ (wLk g ad r.jd r.jb r.jc r.js r.jl r.jx r.ji r.jf r.jn ++ (wDm g ad r.dq ++ (wPq g ap (adr (svS sv adn r po pn)) (adr mm) tx ++ (wRd g (ap 4) rp rl rs rm rn rz ++ (wPl g (svS sv adn r po pn) 6 ++ wPl g mm 2)))))))))))) (wc := _) (w2 := (List.drop 13 (wPo g ap ad (sp_spo2 po pn) (sp_spn2 pn) pl ++ (wS0 g ad ++ (wSk g ad r.kp r.ke r.kr r.kt r.kh r.kc ++ (wMx g ad r.xn r.xs r.xv r.xh r.xo r.xc ++ (wSv g ad r.vd r.vn r.vl r.vu r.vs r.vm r.vp r.vt r.va r.vw ++ (wLk g ad r.jd r.jb r.jc r.js r.jl r.jx r.ji r.jf r.jn ++ (wDm g ad r.dq ++ (wPq g ap (adr (svS sv adn r po pn)) (adr mm) tx ++ (wRd g (ap 4) rp rl rs rm rn rz ++ (wPl g (svS sv adn r po pn) 6 ++ wPl g mm 2)))))))))))) [.int qa] [] (wPo g ap ad (sp_spo2 po pn) (sp_spn2 pn) pl ++ (wS0 g ad ++ (wSk g ad r.kp r.ke r.kr r.kt r.kh r.kc ++ (wMx g ad (r.xn - 1) ((sp_dra (Int32.toNatClampNeg qa) r.xs r.xv r.xh r.xo r.xc ((Int32.toNatClampNeg r.xn - 1) - (Int32.toNatClampNeg qa))).1) ((sp_dra (Int32.toNatClampNeg qa) r.xs r.xv r.xh r.xo r.xc ((Int32.toNatClampNeg r.xn - 1) - (Int32.toNatClampNeg qa))).2.1) ((sp_dra (Int32.toNatClampNeg qa) r.xs r.xv r.xh r.xo r.xc ((Int32.toNatClampNeg r.xn - 1) - (Int32.toNatClampNeg qa))).2.2.1) ((sp_dra (Int32.toNatClampNeg qa) r.xs r.xv r.xh r.xo r.xc ((Int32.toNatClampNeg r.xn - 1) - (Int32.toNatClampNeg qa))).2.2.2.1) ((sp_dra (Int32.toNatClampNeg qa) r.xs r.xv r.xh r.xo r.xc ((Int32.toNatClampNeg r.xn - 1) - (Int32.toNatClampNeg qa))).2.2.2.2) ++ (wSv g ad r.vd r.vn r.vl r.vu r.vs r.vm r.vp r.vt r.va r.vw ++ (wLk g ad r.jd r.jb r.jc r.js r.jl r.jx r.ji r.jf r.jn ++ (wDm g ad r.dq ++ (wPq g ap (adr (svS sv adn r po pn)) (adr mm) tx ++ (wRd g (ap 4) rp rl rs rm rn rz ++ (wPl g (svS sv adn r po pn) 6 ++ wPl g mm 2)))))))))) C (k_X2_dropAt l g ad r.xn r.xs r.xv r.xh r.xo r.xc qa (Int32.toNatClampNeg qa) (rq_nat hk1 (by decide)) hc.1.2.1 hc.1.2.2.1 (by omega)) rfl yV_X2_dropAt wML_X6_107 rfl 7 rfl rfl rfl rfl (nle rfl) (nle rfl) (nle rfl) (nle rfl) (nle rfl) dX6_removeMix_17 ?_
  refine x_aload_n C 0 rfl rfl dX6_removeMix_20 ?_
  refine x_get C 0 6 0 rfl rfl wLy_X6 wFL_X6_10 rfl (by decide) rfl dX6_removeMix_21 ?_
  refine x_get C 1 4 1 rfl rfl wLy_X4 wFL_X6_90 rfl (by decide) rfl dX6_removeMix_24 ?_
  refine x_get C 7 2 0 rfl rfl wLy_X2 wFL_X6_100 rfl (by decide) rfl dX6_removeMix_27 ?_
  exact x_iret C hr (nle rfl) (nle rfl) dX6_removeMix_30 ⟨(by simp only [er_X6_removeMix, if_pos hk1]), rfl, adn, (by first | (simp only [sp_X6_removeMix_xs, sp_X6_removeMix_xv, sp_X6_removeMix_xh, sp_X6_removeMix_xo, sp_X6_removeMix_xc, if_pos hk1]; done) | (simp only [sp_X6_removeMix_xs, sp_X6_removeMix_xv, sp_X6_removeMix_xh, sp_X6_removeMix_xo, sp_X6_removeMix_xc, if_pos hk1]; rfl))⟩
def er_X6_clearMixes (qa : Int32) : Option String := (if (¬ qa < 0 ∧ qa < 6) then none else some xIO)
set_option maxRecDepth 100000 in
set_option maxHeartbeats 1000000 in
theorem k_X6_clearMixes (l : Launch) (g : xGt) (ap ad : Nat → Nat) (r : xR) (po : Int32) (pn : Int32) (pl : Int32) (tx : Nat → Int32) (rp : Int32) (rl : Int32) (rs : Int32) (rm : Int32) (rn : Int32) (rz : Int32) (sv : xPl) (mm : xPl) (qa : Int32) (hc : clO r po pn) : xM l g.1 (xT g) yX6_clearMixes (ws_ yX6_clearMixes cX6_clearMixes 2 (some .int)) (xRm 7 114 26 192) 26 192 [.ref (ap 0), .int qa] (wCl g ap ad r po pn pl tx rp rl rs rm rn rz sv mm) (fun r9 w9 => (er_X6_clearMixes qa) = none ∧ r9 = some (.int (r.xn - ((sp_dal qa r.xs r.xv r.xh r.xo r.xc 0 (Int32.toNatClampNeg r.xn)).2.2.2.2.2))) ∧ ∃ adn : Nat → Nat, w9 = (wCl g ap ad (xRk r.kp r.ke r.kr r.kt r.kh r.kc ((sp_dal qa r.xs r.xv r.xh r.xo r.xc 0 (Int32.toNatClampNeg r.xn)).2.2.2.2.2) ((sp_dal qa r.xs r.xv r.xh r.xo r.xc 0 (Int32.toNatClampNeg r.xn)).1) ((sp_dal qa r.xs r.xv r.xh r.xo r.xc 0 (Int32.toNatClampNeg r.xn)).2.1) ((sp_dal qa r.xs r.xv r.xh r.xo r.xc 0 (Int32.toNatClampNeg r.xn)).2.2.1) ((sp_dal qa r.xs r.xv r.xh r.xo r.xc 0 (Int32.toNatClampNeg r.xn)).2.2.2.1) ((sp_dal qa r.xs r.xv r.xh r.xo r.xc 0 (Int32.toNatClampNeg r.xn)).2.2.2.2.1) r.vd r.vn r.vl r.vu r.vs r.vm r.vp r.vt r.va r.vw r.jd r.jb r.jc r.js r.jl r.jx r.ji r.jf r.jn r.dq) (sp_spo2 po pn) (sp_spn2 pn) pl tx rp rl rs rm rn rz (svS sv adn r po pn) mm)) (fun E w9 => (er_X6_clearMixes qa) = some E ∧ w9 = (wCl g ap ad r po pn pl tx rp rl rs rm rn rz sv mm)) := by
  have h12 := hc.1.2.2.1
  refine x_start (own := RX6) (nm := "clearMixes") rfl rfl (by decide +kernel) rfl (nle rfl) (fun p e σ m args below meth c A C hno hr => ?_)
  refine x_lve (lv' := [(0, .ref (ap 0)), (1, .int qa)]) rfl ?_
  refine x_ws (ws' := (wPo g ap ad po pn pl ++ (wS0 g ad ++ (wSk g ad r.kp r.ke r.kr r.kt r.kh r.kc ++ (wMx g ad r.xn r.xs r.xv r.xh r.xo r.xc ++ (wSv g ad r.vd r.vn r.vl r.vu r.vs r.vm r.vp r.vt r.va r.vw ++ (wLk g ad r.jd r.jb r.jc r.js r.jl r.jx r.ji r.jf r.jn ++ (wDm g ad r.dq ++ (wPq g ap (adr sv) (adr mm) tx ++ (wRd g (ap 4) rp rl rs rm rn rz ++ (wPl g sv 6 ++ wPl g mm 2))))))))))) rfl ?_
  refine x_iload_n C 1 rfl rfl dX6_clearMixes_0 ?_
  refine x_RS [.int qa] [] C (k_X6_requireServo l g qa) yS_X6_requireServo wML_X6_77 rfl rfl (nle rfl) (nle rfl) (nle rfl) (nle rfl) (nle rfl) dX6_clearMixes_1 (fun hk1 => ?_) (fun hk1 => ?_)
  · exact x_out C hno (nle rfl) (nle rfl) ⟨(by simp only [er_X6_clearMixes, if_neg hk1]), rfl⟩
  refine x_aload_n C 0 rfl rfl dX6_clearMixes_4 ?_
  refine x_EV0 [] [] C (k_X6_saveState l g ap ad r po pn pl tx rp rl rs rm rn rz sv mm hc) rfl yV_X6_saveState wML_X6_42 0 rfl rfl rfl rfl (nle rfl) (nle rfl) (nle rfl) (nle rfl) (nle rfl) dX6_clearMixes_5 (fun E w h => h.elim) (fun r0 w h => ?_)
  obtain ⟨rfl, adn, rfl⟩ := h
  refine x_ws (ws' := (wPo g ap ad (sp_spo2 po pn) (sp_spn2 pn) pl ++ (wS0 g ad ++ (wSk g ad r.kp r.ke r.kr r.kt r.kh r.kc ++ (wMx g ad r.xn r.xs r.xv r.xh r.xo r.xc ++ (wSv g ad r.vd r.vn r.vl r.vu r.vs r.vm r.vp r.vt r.va r.vw ++ (wLk g ad r.jd r.jb r.jc r.js r.jl r.jx r.ji r.jf r.jn ++ (wDm g ad r.dq ++ (wPq g ap (adr (svS sv adn r po pn)) (adr mm) tx ++ (wRd g (ap 4) rp rl rs rm rn rz ++ (wPl g (svS sv adn r po pn) 6 ++ wPl g mm 2))))))))))) rfl ?_
  refine x_st (st' := []) rfl ?_
  refine x_aload_n C 0 rfl rfl dX6_clearMixes_8 ?_
  refine x_get C 0 6 0 rfl rfl wLy_X6 wFL_X6_10 rfl (by decide) rfl dX6_clearMixes_9 ?_
  refine x_get C 1 4 1 rfl rfl wLy_X4 wFL_X6_90 rfl (by decide) rfl dX6_clearMixes_12 ?_
  have hk1l := rq_lt hk1 (show (6 : Int32) = nI 6 from rfl) (by decide)
  refine x_iload_n C 1 rfl rfl dX6_clearMixes_15 ?_
  refine x_FV (w1 := (List.take 7 (wPo g ap ad (sp_spo2 po pn) (sp_spn2 pn) pl ++ (wS0 g ad ++ (wSk g ad r.kp r.ke r.kr r.kt r.kh r.kc ++ (wMx g ad r.xn r.xs r.xv r.xh r.xo r.xc ++ (wSv g ad r.vd r.vn r.vl r.vu r.vs r.vm r.vp r.vt r.va r.vw ++ (wLk g ad r.jd r.jb r.jc r.js r.jl r.jx r.ji r.jf r.jn ++ (wDm g ad r.dq ++ (wPq g ap (adr (svS sv adn r po pn)) (adr mm) tx ++ (wRd g (ap 4) rp rl rs rm rn rz ++ (wPl g (svS sv adn r po pn) 6 ++ wPl g mm 2)))))))))))) (wc := _) (w2 := (List.drop 13 (wPo g ap ad (sp_spo2 po pn) (sp_spn2 pn) pl ++ (wS0 g ad ++ (wSk g ad r.kp r.ke r.kr r.kt r.kh r.kc ++ (wMx g ad r.xn r.xs r.xv r.xh r.xo r.xc ++ (wSv g ad r.vd r.vn r.vl r.vu r.vs r.vm r.vp r.vt r.va r.vw ++ (wLk g ad r.jd r.jb r.jc r.js r.jl r.jx r.ji r.jf r.jn ++ (wDm g ad r.dq ++ (wPq g ap (adr (svS sv adn r po pn)) (adr mm) tx ++ (wRd g (ap 4) rp rl rs rm rn rz ++ (wPl g (svS sv adn r po pn) 6 ++ wPl g mm 2)))))))))))) [.int qa] [] (wPo g ap ad (sp_spo2 po pn) (sp_spn2 pn) pl ++ (wS0 g ad ++ (wSk g ad r.kp r.ke r.kr r.kt r.kh r.kc ++ (wMx g ad ((sp_dal qa r.xs r.xv r.xh r.xo r.xc 0 (Int32.toNatClampNeg r.xn)).2.2.2.2.2) ((sp_dal qa r.xs r.xv r.xh r.xo r.xc 0 (Int32.toNatClampNeg r.xn)).1) ((sp_dal qa r.xs r.xv r.xh r.xo r.xc 0 (Int32.toNatClampNeg r.xn)).2.1) ((sp_dal qa r.xs r.xv r.xh r.xo r.xc 0 (Int32.toNatClampNeg r.xn)).2.2.1) ((sp_dal qa r.xs r.xv r.xh r.xo r.xc 0 (Int32.toNatClampNeg r.xn)).2.2.2.1) ((sp_dal qa r.xs r.xv r.xh r.xo r.xc 0 (Int32.toNatClampNeg r.xn)).2.2.2.2.1) ++ (wSv g ad r.vd r.vn r.vl r.vu r.vs r.vm r.vp r.vt r.va r.vw ++ (wLk g ad r.jd r.jb r.jc r.js r.jl r.jx r.ji r.jf r.jn ++ (wDm g ad r.dq ++ (wPq g ap (adr (svS sv adn r po pn)) (adr mm) tx ++ (wRd g (ap 4) rp rl rs rm rn rz ++ (wPl g (svS sv adn r po pn) 6 ++ wPl g mm 2)))))))))) C (k_X2_dropAllOf l g ad r.xn r.xs r.xv r.xh r.xo r.xc qa hc.1.2.1 hc.1.2.2.1) rfl yV_X2_dropAllOf wML_X6_110 rfl 7 rfl rfl rfl rfl (nle rfl) (nle rfl) (nle rfl) (nle rfl) (nle rfl) dX6_clearMixes_16 ?_
  exact x_iret C hr (nle rfl) (nle rfl) dX6_clearMixes_19 ⟨(by simp only [er_X6_clearMixes, if_pos hk1]), rfl, adn, rfl⟩
set_option maxRecDepth 100000 in
set_option maxHeartbeats 1000000 in
theorem k_X6_mixes (l : Launch) (g : xGt) (ap ad : Nat → Nat) (r : xR) (po : Int32) (pn : Int32) (pl : Int32) (tx : Nat → Int32) (rp : Int32) (rl : Int32) (rs : Int32) (rm : Int32) (rn : Int32) (rz : Int32) (sv : xPl) (mm : xPl) (hc : clO r po pn) : xM l g.1 (xT g) yX6_mixes (ws_ yX6_mixes cX6_mixes 1 (some .int)) (xRm 0 0 0 0) 0 0 [.ref (ap 0)] (wCl g ap ad r po pn pl tx rp rl rs rm rn rz sv mm) (fun r9 w9 => r9 = some (.int r.xn) ∧ w9 = (wCl g ap ad r po pn pl tx rp rl rs rm rn rz sv mm)) (fun _ _ => False) := by
  have h12 := hc.1.2.2.1
  refine x_start (own := RX6) (nm := "mixes") rfl rfl (by decide +kernel) rfl (nle rfl) (fun p e σ m args below meth c A C hno hr => ?_)
  refine x_lve (lv' := [(0, .ref (ap 0))]) rfl ?_
  refine x_ws (ws' := (wPo g ap ad po pn pl ++ (wS0 g ad ++ (wSk g ad r.kp r.ke r.kr r.kt r.kh r.kc ++ (wMx g ad r.xn r.xs r.xv r.xh r.xo r.xc ++ (wSv g ad r.vd r.vn r.vl r.vu r.vs r.vm r.vp r.vt r.va r.vw ++ (wLk g ad r.jd r.jb r.jc r.js r.jl r.jx r.ji r.jf r.jn ++ (wDm g ad r.dq ++ (wPq g ap (adr sv) (adr mm) tx ++ (wRd g (ap 4) rp rl rs rm rn rz ++ (wPl g sv 6 ++ wPl g mm 2))))))))))) rfl ?_
  refine x_aload_n C 0 rfl rfl dX6_mixes_0 ?_
  refine x_get C 0 6 0 rfl rfl wLy_X6 wFL_X6_10 rfl (by decide) rfl dX6_mixes_1 ?_
  refine x_get C 1 4 1 rfl rfl wLy_X4 wFL_X6_90 rfl (by decide) rfl dX6_mixes_4 ?_
  refine x_get C 7 2 0 rfl rfl wLy_X2 wFL_X6_100 rfl (by decide) rfl dX6_mixes_7 ?_
  exact x_iret C hr (nle rfl) (nle rfl) dX6_mixes_10 ⟨rfl, rfl⟩
def er_X6_mixSource (r : xR) (qa : Int32) : Option String := (if (¬ qa < 0 ∧ qa < r.xn) then none else some xIO)
set_option maxRecDepth 100000 in
set_option maxHeartbeats 1000000 in
theorem k_X6_mixSource (l : Launch) (g : xGt) (ap ad : Nat → Nat) (r : xR) (po : Int32) (pn : Int32) (pl : Int32) (tx : Nat → Int32) (rp : Int32) (rl : Int32) (rs : Int32) (rm : Int32) (rn : Int32) (rz : Int32) (sv : xPl) (mm : xPl) (qa : Int32) (hc : clO r po pn) : xM l g.1 (xT g) yX6_mixSource (ws_ yX6_mixSource cX6_mixSource 2 (some .int)) (xRm 7 115 1 6) 1 6 [.ref (ap 0), .int qa] (wCl g ap ad r po pn pl tx rp rl rs rm rn rz sv mm) (fun r9 w9 => (er_X6_mixSource r qa) = none ∧ r9 = some (.int (r.xs (Int32.toNatClampNeg qa))) ∧ w9 = (wCl g ap ad r po pn pl tx rp rl rs rm rn rz sv mm)) (fun E w9 => (er_X6_mixSource r qa) = some E ∧ w9 = (wCl g ap ad r po pn pl tx rp rl rs rm rn rz sv mm)) := by
  have h12 := hc.1.2.2.1
  refine x_start (own := RX6) (nm := "mixSource") rfl rfl (by decide +kernel) rfl (nle rfl) (fun p e σ m args below meth c A C hno hr => ?_)
  refine x_lve (lv' := [(0, .ref (ap 0)), (1, .int qa)]) rfl ?_
  refine x_ws (ws' := (wPo g ap ad po pn pl ++ (wS0 g ad ++ (wSk g ad r.kp r.ke r.kr r.kt r.kh r.kc ++ (wMx g ad r.xn r.xs r.xv r.xh r.xo r.xc ++ (wSv g ad r.vd r.vn r.vl r.vu r.vs r.vm r.vp r.vt r.va r.vw ++ (wLk g ad r.jd r.jb r.jc r.js r.jl r.jx r.ji r.jf r.jn ++ (wDm g ad r.dq ++ (wPq g ap (adr sv) (adr mm) tx ++ (wRd g (ap 4) rp rl rs rm rn rz ++ (wPl g sv 6 ++ wPl g mm 2))))))))))) rfl ?_
  refine x_aload_n C 0 rfl rfl dX6_mixSource_0 ?_
  refine x_iload_n C 1 rfl rfl dX6_mixSource_1 ?_
  refine x_RV0 [.int qa] [] C (k_X6_requireMix l g ap ad r po pn pl tx rp rl rs rm rn rz sv mm qa) rfl yV_X6_requireMix wML_X6_104 0 rfl rfl rfl rfl (nle rfl) (nle rfl) (nle rfl) (nle rfl) (nle rfl) dX6_mixSource_2 (fun hk1 => ?_) (fun hk1 => ?_)
  · exact x_out C hno (nle rfl) (nle rfl) ⟨(by simp only [er_X6_mixSource, if_neg hk1]), rfl⟩
  refine x_aload_n C 0 rfl rfl dX6_mixSource_5 ?_
  refine x_get C 0 6 0 rfl rfl wLy_X6 wFL_X6_10 rfl (by decide) rfl dX6_mixSource_6 ?_
  refine x_get C 1 4 1 rfl rfl wLy_X4 wFL_X6_90 rfl (by decide) rfl dX6_mixSource_9 ?_
  refine x_get C 7 2 1 rfl rfl wLy_X2 wFL_X6_115 rfl (by decide) rfl dX6_mixSource_12 ?_
  have hk1l := rq_lt hk1 hc.1.2.1 (Int32.toNatClampNeg_lt _)
  refine x_iload_n C 1 rfl rfl dX6_mixSource_15 ?_
  refine x_ialdN (f := r.xs) C 8 0 (Int32.toNatClampNeg qa) rfl rfl (rq_nat hk1 (by decide)) (by first | omega | exact slN_lt _ (by omega)) (by decide) dX6_mixSource_16 ?_
  exact x_iret C hr (nle rfl) (nle rfl) dX6_mixSource_17 ⟨(by simp only [er_X6_mixSource, if_pos hk1]), rfl, rfl⟩
def er_X6_mixServo (r : xR) (qa : Int32) : Option String := (if (¬ qa < 0 ∧ qa < r.xn) then none else some xIO)
set_option maxRecDepth 100000 in
set_option maxHeartbeats 1000000 in
theorem k_X6_mixServo (l : Launch) (g : xGt) (ap ad : Nat → Nat) (r : xR) (po : Int32) (pn : Int32) (pl : Int32) (tx : Nat → Int32) (rp : Int32) (rl : Int32) (rs : Int32) (rm : Int32) (rn : Int32) (rz : Int32) (sv : xPl) (mm : xPl) (qa : Int32) (hc : clO r po pn) : xM l g.1 (xT g) yX6_mixServo (ws_ yX6_mixServo cX6_mixServo 2 (some .int)) (xRm 7 115 1 6) 1 6 [.ref (ap 0), .int qa] (wCl g ap ad r po pn pl tx rp rl rs rm rn rz sv mm) (fun r9 w9 => (er_X6_mixServo r qa) = none ∧ r9 = some (.int (r.xv (Int32.toNatClampNeg qa))) ∧ w9 = (wCl g ap ad r po pn pl tx rp rl rs rm rn rz sv mm)) (fun E w9 => (er_X6_mixServo r qa) = some E ∧ w9 = (wCl g ap ad r po pn pl tx rp rl rs rm rn rz sv mm)) := by
  have h12 := hc.1.2.2.1
  refine x_start (own := RX6) (nm := "mixServo") rfl rfl (by decide +kernel) rfl (nle rfl) (fun p e σ m args below meth c A C hno hr => ?_)
  refine x_lve (lv' := [(0, .ref (ap 0)), (1, .int qa)]) rfl ?_
  refine x_ws (ws' := (wPo g ap ad po pn pl ++ (wS0 g ad ++ (wSk g ad r.kp r.ke r.kr r.kt r.kh r.kc ++ (wMx g ad r.xn r.xs r.xv r.xh r.xo r.xc ++ (wSv g ad r.vd r.vn r.vl r.vu r.vs r.vm r.vp r.vt r.va r.vw ++ (wLk g ad r.jd r.jb r.jc r.js r.jl r.jx r.ji r.jf r.jn ++ (wDm g ad r.dq ++ (wPq g ap (adr sv) (adr mm) tx ++ (wRd g (ap 4) rp rl rs rm rn rz ++ (wPl g sv 6 ++ wPl g mm 2))))))))))) rfl ?_
  refine x_aload_n C 0 rfl rfl dX6_mixServo_0 ?_
  refine x_iload_n C 1 rfl rfl dX6_mixServo_1 ?_
  refine x_RV0 [.int qa] [] C (k_X6_requireMix l g ap ad r po pn pl tx rp rl rs rm rn rz sv mm qa) rfl yV_X6_requireMix wML_X6_104 0 rfl rfl rfl rfl (nle rfl) (nle rfl) (nle rfl) (nle rfl) (nle rfl) dX6_mixServo_2 (fun hk1 => ?_) (fun hk1 => ?_)
  · exact x_out C hno (nle rfl) (nle rfl) ⟨(by simp only [er_X6_mixServo, if_neg hk1]), rfl⟩
  refine x_aload_n C 0 rfl rfl dX6_mixServo_5 ?_
  refine x_get C 0 6 0 rfl rfl wLy_X6 wFL_X6_10 rfl (by decide) rfl dX6_mixServo_6 ?_
  refine x_get C 1 4 1 rfl rfl wLy_X4 wFL_X6_90 rfl (by decide) rfl dX6_mixServo_9 ?_
  refine x_get C 7 2 2 rfl rfl wLy_X2 wFL_X6_118 rfl (by decide) rfl dX6_mixServo_12 ?_
  have hk1l := rq_lt hk1 hc.1.2.1 (Int32.toNatClampNeg_lt _)
  refine x_iload_n C 1 rfl rfl dX6_mixServo_15 ?_
  refine x_ialdN (f := r.xv) C 9 0 (Int32.toNatClampNeg qa) rfl rfl (rq_nat hk1 (by decide)) (by first | omega | exact slN_lt _ (by omega)) (by decide) dX6_mixServo_16 ?_
  exact x_iret C hr (nle rfl) (nle rfl) dX6_mixServo_17 ⟨(by simp only [er_X6_mixServo, if_pos hk1]), rfl, rfl⟩
def sp_X6_mixValue (r : xR) (qa : Int32) : Int32 := (sp_X4_valueOf r.kp r.ke r.kr r.kt r.kh r.kc r.xs r.xh r.xo r.xc (sp_cdm r.kp r.ke r.kr r.kt r.kh r.kc r.xn r.xs r.xv r.xh r.xo r.xc r.dq 6) (Int32.toNatClampNeg qa))
def er_X6_mixValue (r : xR) (qa : Int32) : Option String := (if (¬ qa < 0 ∧ qa < r.xn) then none else some xIO)
set_option maxRecDepth 100000 in
set_option maxHeartbeats 1000000 in
theorem k_X6_mixValue (l : Launch) (g : xGt) (ap ad : Nat → Nat) (r : xR) (po : Int32) (pn : Int32) (pl : Int32) (tx : Nat → Int32) (rp : Int32) (rl : Int32) (rs : Int32) (rm : Int32) (rn : Int32) (rz : Int32) (sv : xPl) (mm : xPl) (qa : Int32) (hc : clO r po pn) : xM l g.1 (xT g) yX6_mixValue (ws_ yX6_mixValue cX6_mixValue 2 (some .int)) (xRm 7 115 1 6) 1 6 [.ref (ap 0), .int qa] (wCl g ap ad r po pn pl tx rp rl rs rm rn rz sv mm) (fun r9 w9 => (er_X6_mixValue r qa) = none ∧ r9 = some (.int (sp_X6_mixValue r qa)) ∧ w9 = (wCl g ap ad (r.set_dq (sp_cdm r.kp r.ke r.kr r.kt r.kh r.kc r.xn r.xs r.xv r.xh r.xo r.xc r.dq 6)) po pn pl tx rp rl rs rm rn rz sv mm)) (fun E w9 => (er_X6_mixValue r qa) = some E ∧ w9 = (wCl g ap ad r po pn pl tx rp rl rs rm rn rz sv mm)) := by
  have h12 := hc.1.2.2.1
  refine x_start (own := RX6) (nm := "mixValue") rfl rfl (by decide +kernel) rfl (nle rfl) (fun p e σ m args below meth c A C hno hr => ?_)
  refine x_lve (lv' := [(0, .ref (ap 0)), (1, .int qa)]) rfl ?_
  refine x_ws (ws' := (wPo g ap ad po pn pl ++ (wS0 g ad ++ (wSk g ad r.kp r.ke r.kr r.kt r.kh r.kc ++ (wMx g ad r.xn r.xs r.xv r.xh r.xo r.xc ++ (wSv g ad r.vd r.vn r.vl r.vu r.vs r.vm r.vp r.vt r.va r.vw ++ (wLk g ad r.jd r.jb r.jc r.js r.jl r.jx r.ji r.jf r.jn ++ (wDm g ad r.dq ++ (wPq g ap (adr sv) (adr mm) tx ++ (wRd g (ap 4) rp rl rs rm rn rz ++ (wPl g sv 6 ++ wPl g mm 2))))))))))) rfl ?_
  refine x_aload_n C 0 rfl rfl dX6_mixValue_0 ?_
  refine x_iload_n C 1 rfl rfl dX6_mixValue_1 ?_
  refine x_RV0 [.int qa] [] C (k_X6_requireMix l g ap ad r po pn pl tx rp rl rs rm rn rz sv mm qa) rfl yV_X6_requireMix wML_X6_104 0 rfl rfl rfl rfl (nle rfl) (nle rfl) (nle rfl) (nle rfl) (nle rfl) dX6_mixValue_2 (fun hk1 => ?_) (fun hk1 => ?_)
  · exact x_out C hno (nle rfl) (nle rfl) ⟨(by simp only [er_X6_mixValue, if_neg hk1]), rfl⟩
  refine x_aload_n C 0 rfl rfl dX6_mixValue_5 ?_
  refine x_get C 0 6 0 rfl rfl wLy_X6 wFL_X6_10 rfl (by decide) rfl dX6_mixValue_6 ?_
  refine x_GV (w1 := (List.take 1 (wPo g ap ad po pn pl ++ (wS0 g ad ++ (wSk g ad r.kp r.ke r.kr r.kt r.kh r.kc ++ (wMx g ad r.xn r.xs r.xv r.xh r.xo r.xc ++ (wSv g ad r.vd r.vn r.vl r.vu r.vs r.vm r.vp r.vt r.va r.vw ++ (wLk g ad r.jd r.jb r.jc r.js r.jl r.jx r.ji r.jf r.jn ++ (wDm g ad r.dq ++ (wPq g ap (adr sv) (adr mm) tx ++ (wRd g (ap 4) rp rl rs rm rn rz ++ (wPl g sv 6 ++ wPl g mm 2)))))))))))) (wc := _) (w2 := (List.drop 26 (wPo g ap ad po pn pl ++ (wS0 g ad ++ (wSk g ad r.kp r.ke r.kr r.kt r.kh r.kc ++ (wMx g ad r.xn r.xs r.xv r.xh r.xo r.xc ++ (wSv g ad r.vd r.vn r.vl r.vu r.vs r.vm r.vp r.vt r.va r.vw ++ (wLk g ad r.jd r.jb r.jc r.js r.jl r.jx r.ji r.jf r.jn ++ (wDm g ad r.dq ++ (wPq g ap (adr sv) (adr mm) tx ++ (wRd g (ap 4) rp rl rs rm rn rz ++ (wPl g sv 6 ++ wPl g mm 2)))))))))))) [] [] (wPo g ap ad po pn pl ++ (wS0 g ad ++ (wSk g ad r.kp r.ke r.kr r.kt r.kh r.kc ++ (wMx g ad r.xn r.xs r.xv r.xh r.xo r.xc ++ (wSv g ad r.vd r.vn r.vl r.vu r.vs r.vm r.vp r.vt r.va r.vw ++ (wLk g ad r.jd r.jb r.jc r.js r.jl r.jx r.ji r.jf r.jn ++ (wDm g ad (sp_cdm r.kp r.ke r.kr r.kt r.kh r.kc r.xn r.xs r.xv r.xh r.xo r.xc r.dq 6) ++ (wPq g ap (adr sv) (adr mm) tx ++ (wRd g (ap 4) rp rl rs rm rn rz ++ (wPl g sv 6 ++ wPl g mm 2)))))))))) C (k_X4_computeDemands l g ad r.kp r.ke r.kr r.kt r.kh r.kc r.xn r.xs r.xv r.xh r.xo r.xc r.vd r.vn r.vl r.vu r.vs r.vm r.vp r.vt r.va r.vw r.jd r.jb r.jc r.js r.jl r.jx r.ji r.jf r.jn r.dq hc.1) rfl yV_X4_computeDemands wML_X6_121 rfl 1 rfl rfl rfl rfl (nle rfl) (nle rfl) (nle rfl) (nle rfl) (nle rfl) dX6_mixValue_9 ?_
  refine x_aload_n C 0 rfl rfl dX6_mixValue_12 ?_
  refine x_get C 0 6 0 rfl rfl wLy_X6 wFL_X6_10 rfl (by decide) rfl dX6_mixValue_13 ?_
  have hk1l := rq_lt hk1 hc.1.2.1 (Int32.toNatClampNeg_lt _)
  refine x_iload_n C 1 rfl rfl dX6_mixValue_16 ?_
  refine x_FV (w1 := (List.take 1 (wPo g ap ad po pn pl ++ (wS0 g ad ++ (wSk g ad r.kp r.ke r.kr r.kt r.kh r.kc ++ (wMx g ad r.xn r.xs r.xv r.xh r.xo r.xc ++ (wSv g ad r.vd r.vn r.vl r.vu r.vs r.vm r.vp r.vt r.va r.vw ++ (wLk g ad r.jd r.jb r.jc r.js r.jl r.jx r.ji r.jf r.jn ++ (wDm g ad (sp_cdm r.kp r.ke r.kr r.kt r.kh r.kc r.xn r.xs r.xv r.xh r.xo r.xc r.dq 6) ++ (wPq g ap (adr sv) (adr mm) tx ++ (wRd g (ap 4) rp rl rs rm rn rz ++ (wPl g sv 6 ++ wPl g mm 2)))))))))))) (wc := _) (w2 := (List.drop 26 (wPo g ap ad po pn pl ++ (wS0 g ad ++ (wSk g ad r.kp r.ke r.kr r.kt r.kh r.kc ++ (wMx g ad r.xn r.xs r.xv r.xh r.xo r.xc ++ (wSv g ad r.vd r.vn r.vl r.vu r.vs r.vm r.vp r.vt r.va r.vw ++ (wLk g ad r.jd r.jb r.jc r.js r.jl r.jx r.ji r.jf r.jn ++ (wDm g ad (sp_cdm r.kp r.ke r.kr r.kt r.kh r.kc r.xn r.xs r.xv r.xh r.xo r.xc r.dq 6) ++ (wPq g ap (adr sv) (adr mm) tx ++ (wRd g (ap 4) rp rl rs rm rn rz ++ (wPl g sv 6 ++ wPl g mm 2)))))))))))) [.int qa] [] (wPo g ap ad po pn pl ++ (wS0 g ad ++ (wSk g ad r.kp r.ke r.kr r.kt r.kh r.kc ++ (wMx g ad r.xn r.xs r.xv r.xh r.xo r.xc ++ (wSv g ad r.vd r.vn r.vl r.vu r.vs r.vm r.vp r.vt r.va r.vw ++ (wLk g ad r.jd r.jb r.jc r.js r.jl r.jx r.ji r.jf r.jn ++ (wDm g ad (sp_cdm r.kp r.ke r.kr r.kt r.kh r.kc r.xn r.xs r.xv r.xh r.xo r.xc r.dq 6) ++ (wPq g ap (adr sv) (adr mm) tx ++ (wRd g (ap 4) rp rl rs rm rn rz ++ (wPl g sv 6 ++ wPl g mm 2)))))))))) C (k_X4_valueOf l g ad r.kp r.ke r.kr r.kt r.kh r.kc r.xn r.xs r.xv r.xh r.xo r.xc r.vd r.vn r.vl r.vu r.vs r.vm r.vp r.vt r.va r.vw r.jd r.jb r.jc r.js r.jl r.jx r.ji r.jf r.jn (sp_cdm r.kp r.ke r.kr r.kt r.kh r.kc r.xn r.xs r.xv r.xh r.xo r.xc r.dq 6) qa (Int32.toNatClampNeg qa) (rq_nat hk1 (by decide)) hc.1 (by omega)) rfl yV_X4_valueOf wML_X6_124 rfl 1 rfl rfl rfl rfl (nle rfl) (nle rfl) (nle rfl) (nle rfl) (nle rfl) dX6_mixValue_17 ?_
  exact x_iret C hr (nle rfl) (nle rfl) dX6_mixValue_20 ⟨(by simp only [er_X6_mixValue, if_pos hk1]), (by first | (simp only [sp_X6_mixValue, if_pos hk1]; done) | (simp only [sp_X6_mixValue, if_pos hk1]; rfl)), rfl⟩
def er_X6_isActive (r : xR) (qa : Int32) : Option String := (if (¬ qa < 0 ∧ qa < r.xn) then none else some xIO)
set_option maxRecDepth 100000 in
set_option maxHeartbeats 1000000 in
theorem k_X6_isActive (l : Launch) (g : xGt) (ap ad : Nat → Nat) (r : xR) (po : Int32) (pn : Int32) (pl : Int32) (tx : Nat → Int32) (rp : Int32) (rl : Int32) (rs : Int32) (rm : Int32) (rn : Int32) (rz : Int32) (sv : xPl) (mm : xPl) (qa : Int32) (hc : clO r po pn) : xM l g.1 (xT g) yX6_isActive (ws_ yX6_isActive cX6_isActive 2 (some .boolean)) (xRm 7 115 1 6) 1 6 [.ref (ap 0), .int qa] (wCl g ap ad r po pn pl tx rp rl rs rm rn rz sv mm) (fun r9 w9 => (er_X6_isActive r qa) = none ∧ r9 = some (.int (sp_X2_holds r.xc (Int32.toNatClampNeg qa) r.kh)) ∧ w9 = (wCl g ap ad r po pn pl tx rp rl rs rm rn rz sv mm)) (fun E w9 => (er_X6_isActive r qa) = some E ∧ w9 = (wCl g ap ad r po pn pl tx rp rl rs rm rn rz sv mm)) := by
  have h12 := hc.1.2.2.1
  refine x_start (own := RX6) (nm := "isActive") rfl rfl (by decide +kernel) rfl (nle rfl) (fun p e σ m args below meth c A C hno hr => ?_)
  refine x_lve (lv' := [(0, .ref (ap 0)), (1, .int qa)]) rfl ?_
  refine x_ws (ws' := (wPo g ap ad po pn pl ++ (wS0 g ad ++ (wSk g ad r.kp r.ke r.kr r.kt r.kh r.kc ++ (wMx g ad r.xn r.xs r.xv r.xh r.xo r.xc ++ (wSv g ad r.vd r.vn r.vl r.vu r.vs r.vm r.vp r.vt r.va r.vw ++ (wLk g ad r.jd r.jb r.jc r.js r.jl r.jx r.ji r.jf r.jn ++ (wDm g ad r.dq ++ (wPq g ap (adr sv) (adr mm) tx ++ (wRd g (ap 4) rp rl rs rm rn rz ++ (wPl g sv 6 ++ wPl g mm 2))))))))))) rfl ?_
  refine x_aload_n C 0 rfl rfl dX6_isActive_0 ?_
  refine x_iload_n C 1 rfl rfl dX6_isActive_1 ?_
  refine x_RV0 [.int qa] [] C (k_X6_requireMix l g ap ad r po pn pl tx rp rl rs rm rn rz sv mm qa) rfl yV_X6_requireMix wML_X6_104 0 rfl rfl rfl rfl (nle rfl) (nle rfl) (nle rfl) (nle rfl) (nle rfl) dX6_isActive_2 (fun hk1 => ?_) (fun hk1 => ?_)
  · exact x_out C hno (nle rfl) (nle rfl) ⟨(by simp only [er_X6_isActive, if_neg hk1]), rfl⟩
  refine x_aload_n C 0 rfl rfl dX6_isActive_5 ?_
  refine x_get C 0 6 0 rfl rfl wLy_X6 wFL_X6_10 rfl (by decide) rfl dX6_isActive_6 ?_
  refine x_get C 1 4 1 rfl rfl wLy_X4 wFL_X6_90 rfl (by decide) rfl dX6_isActive_9 ?_
  have hk1l := rq_lt hk1 hc.1.2.1 (Int32.toNatClampNeg_lt _)
  refine x_iload_n C 1 rfl rfl dX6_isActive_12 ?_
  refine x_aload_n C 0 rfl rfl dX6_isActive_13 ?_
  refine x_get C 0 6 0 rfl rfl wLy_X6 wFL_X6_10 rfl (by decide) rfl dX6_isActive_14 ?_
  refine x_get C 1 4 0 rfl rfl wLy_X4 wFL_X6_45 rfl (by decide) rfl dX6_isActive_17 ?_
  refine x_get C 2 5 4 rfl rfl wLy_X5 wFL_X6_67 rfl (by decide) rfl dX6_isActive_20 ?_
  refine x_FV (w1 := (List.take 7 (wPo g ap ad po pn pl ++ (wS0 g ad ++ (wSk g ad r.kp r.ke r.kr r.kt r.kh r.kc ++ (wMx g ad r.xn r.xs r.xv r.xh r.xo r.xc ++ (wSv g ad r.vd r.vn r.vl r.vu r.vs r.vm r.vp r.vt r.va r.vw ++ (wLk g ad r.jd r.jb r.jc r.js r.jl r.jx r.ji r.jf r.jn ++ (wDm g ad r.dq ++ (wPq g ap (adr sv) (adr mm) tx ++ (wRd g (ap 4) rp rl rs rm rn rz ++ (wPl g sv 6 ++ wPl g mm 2)))))))))))) (wc := _) (w2 := (List.drop 13 (wPo g ap ad po pn pl ++ (wS0 g ad ++ (wSk g ad r.kp r.ke r.kr r.kt r.kh r.kc ++ (wMx g ad r.xn r.xs r.xv r.xh r.xo r.xc ++ (wSv g ad r.vd r.vn r.vl r.vu r.vs r.vm r.vp r.vt r.va r.vw ++ (wLk g ad r.jd r.jb r.jc r.js r.jl r.jx r.ji r.jf r.jn ++ (wDm g ad r.dq ++ (wPq g ap (adr sv) (adr mm) tx ++ (wRd g (ap 4) rp rl rs rm rn rz ++ (wPl g sv 6 ++ wPl g mm 2)))))))))))) [.int qa, .int r.kh] [] (wPo g ap ad po pn pl ++ (wS0 g ad ++ (wSk g ad r.kp r.ke r.kr r.kt r.kh r.kc ++ (wMx g ad r.xn r.xs r.xv r.xh r.xo r.xc ++ (wSv g ad r.vd r.vn r.vl r.vu r.vs r.vm r.vp r.vt r.va r.vw ++ (wLk g ad r.jd r.jb r.jc r.js r.jl r.jx r.ji r.jf r.jn ++ (wDm g ad r.dq ++ (wPq g ap (adr sv) (adr mm) tx ++ (wRd g (ap 4) rp rl rs rm rn rz ++ (wPl g sv 6 ++ wPl g mm 2)))))))))) C (k_X2_holds l g ad r.xn r.xs r.xv r.xh r.xo r.xc qa (Int32.toNatClampNeg qa) (rq_nat hk1 (by decide)) r.kh hc.1.1 (by omega)) rfl yV_X2_holds wML_X6_127 rfl 7 rfl rfl rfl rfl (nle rfl) (nle rfl) (nle rfl) (nle rfl) (nle rfl) dX6_isActive_23 ?_
  exact x_zret C hr (xnz (spb_X2_holds r.xc (Int32.toNatClampNeg qa) r.kh hc.1.1)) (nle rfl) (nle rfl) dX6_isActive_26 ⟨(by simp only [er_X6_isActive, if_pos hk1]), rfl, rfl⟩
def sp_X6_reverse (r : xR) (qa : Int32) : Int32 := (if 0 ≤ ((upd r.vd (Int32.toNatClampNeg qa) (-(r.vd (Int32.toNatClampNeg qa)))) (Int32.toNatClampNeg qa)) then (0 : Int32) else 1)
def er_X6_reverse (qa : Int32) : Option String := (if (¬ qa < 0 ∧ qa < 6) then none else some xIO)
set_option maxRecDepth 100000 in
set_option maxHeartbeats 1000000 in
theorem k_X6_reverse (l : Launch) (g : xGt) (ap ad : Nat → Nat) (r : xR) (po : Int32) (pn : Int32) (pl : Int32) (tx : Nat → Int32) (rp : Int32) (rl : Int32) (rs : Int32) (rm : Int32) (rn : Int32) (rz : Int32) (sv : xPl) (mm : xPl) (qa : Int32) (hc : clO r po pn) : xM l g.1 (xT g) yX6_reverse (ws_ yX6_reverse cX6_reverse 2 (some .boolean)) (xRm 7 114 26 192) 26 192 [.ref (ap 0), .int qa] (wCl g ap ad r po pn pl tx rp rl rs rm rn rz sv mm) (fun r9 w9 => (er_X6_reverse qa) = none ∧ r9 = some (.int (sp_X6_reverse r qa)) ∧ ∃ adn : Nat → Nat, w9 = (wCl g ap ad (r.set_vd (upd r.vd (Int32.toNatClampNeg qa) (-(r.vd (Int32.toNatClampNeg qa))))) (sp_spo2 po pn) (sp_spn2 pn) pl tx rp rl rs rm rn rz (svS sv adn r po pn) mm)) (fun E w9 => (er_X6_reverse qa) = some E ∧ w9 = (wCl g ap ad r po pn pl tx rp rl rs rm rn rz sv mm)) := by
  have h12 := hc.1.2.2.1
  refine x_start (own := RX6) (nm := "reverse") rfl rfl (by decide +kernel) rfl (nle rfl) (fun p e σ m args below meth c A C hno hr => ?_)
  refine x_lve (lv' := [(0, .ref (ap 0)), (1, .int qa)]) rfl ?_
  refine x_ws (ws' := (wPo g ap ad po pn pl ++ (wS0 g ad ++ (wSk g ad r.kp r.ke r.kr r.kt r.kh r.kc ++ (wMx g ad r.xn r.xs r.xv r.xh r.xo r.xc ++ (wSv g ad r.vd r.vn r.vl r.vu r.vs r.vm r.vp r.vt r.va r.vw ++ (wLk g ad r.jd r.jb r.jc r.js r.jl r.jx r.ji r.jf r.jn ++ (wDm g ad r.dq ++ (wPq g ap (adr sv) (adr mm) tx ++ (wRd g (ap 4) rp rl rs rm rn rz ++ (wPl g sv 6 ++ wPl g mm 2))))))))))) rfl ?_
  refine x_iload_n C 1 rfl rfl dX6_reverse_0 ?_
  refine x_RS [.int qa] [] C (k_X6_requireServo l g qa) yS_X6_requireServo wML_X6_77 rfl rfl (nle rfl) (nle rfl) (nle rfl) (nle rfl) (nle rfl) dX6_reverse_1 (fun hk1 => ?_) (fun hk1 => ?_)
  · exact x_out C hno (nle rfl) (nle rfl) ⟨(by simp only [er_X6_reverse, if_neg hk1]), rfl⟩
  refine x_aload_n C 0 rfl rfl dX6_reverse_4 ?_
  refine x_EV0 [] [] C (k_X6_saveState l g ap ad r po pn pl tx rp rl rs rm rn rz sv mm hc) rfl yV_X6_saveState wML_X6_42 0 rfl rfl rfl rfl (nle rfl) (nle rfl) (nle rfl) (nle rfl) (nle rfl) dX6_reverse_5 (fun E w h => h.elim) (fun r0 w h => ?_)
  obtain ⟨rfl, adn, rfl⟩ := h
  refine x_ws (ws' := (wPo g ap ad (sp_spo2 po pn) (sp_spn2 pn) pl ++ (wS0 g ad ++ (wSk g ad r.kp r.ke r.kr r.kt r.kh r.kc ++ (wMx g ad r.xn r.xs r.xv r.xh r.xo r.xc ++ (wSv g ad r.vd r.vn r.vl r.vu r.vs r.vm r.vp r.vt r.va r.vw ++ (wLk g ad r.jd r.jb r.jc r.js r.jl r.jx r.ji r.jf r.jn ++ (wDm g ad r.dq ++ (wPq g ap (adr (svS sv adn r po pn)) (adr mm) tx ++ (wRd g (ap 4) rp rl rs rm rn rz ++ (wPl g (svS sv adn r po pn) 6 ++ wPl g mm 2))))))))))) rfl ?_
  refine x_st (st' := []) rfl ?_
  refine x_aload_n C 0 rfl rfl dX6_reverse_8 ?_
  refine x_get C 0 6 0 rfl rfl wLy_X6 wFL_X6_10 rfl (by decide) rfl dX6_reverse_9 ?_
  refine x_get C 1 4 2 rfl rfl wLy_X4 wFL_X6_131 rfl (by decide) rfl dX6_reverse_12 ?_
  refine x_get C 13 3 0 rfl rfl wLy_X3 wFL_X6_135 rfl (by decide) rfl dX6_reverse_15 ?_
  have hk1l := rq_lt hk1 (show (6 : Int32) = nI 6 from rfl) (by decide)
  refine x_iload_n C 1 rfl rfl dX6_reverse_18 ?_
  refine x_aload_n C 0 rfl rfl dX6_reverse_19 ?_
  refine x_get C 0 6 0 rfl rfl wLy_X6 wFL_X6_10 rfl (by decide) rfl dX6_reverse_20 ?_
  refine x_get C 1 4 2 rfl rfl wLy_X4 wFL_X6_131 rfl (by decide) rfl dX6_reverse_23 ?_
  refine x_get C 13 3 0 rfl rfl wLy_X3 wFL_X6_135 rfl (by decide) rfl dX6_reverse_26 ?_
  have hk1l := rq_lt hk1 (show (6 : Int32) = nI 6 from rfl) (by decide)
  refine x_iload_n C 1 rfl rfl dX6_reverse_29 ?_
  refine x_ialdN (f := r.vd) C 14 0 (Int32.toNatClampNeg qa) rfl rfl (rq_nat hk1 (by decide)) (by first | omega | exact slN_lt _ (by omega)) (by decide) dX6_reverse_30 ?_
  refine x_ineg C dX6_reverse_31 ?_
  refine x_iastN (f := r.vd) C 14 0 (Int32.toNatClampNeg qa) (wPo g ap ad (sp_spo2 po pn) (sp_spn2 pn) pl ++ (wS0 g ad ++ (wSk g ad r.kp r.ke r.kr r.kt r.kh r.kc ++ (wMx g ad r.xn r.xs r.xv r.xh r.xo r.xc ++ (wSv g ad (upd r.vd (Int32.toNatClampNeg qa) (-(r.vd (Int32.toNatClampNeg qa)))) r.vn r.vl r.vu r.vs r.vm r.vp r.vt r.va r.vw ++ (wLk g ad r.jd r.jb r.jc r.js r.jl r.jx r.ji r.jf r.jn ++ (wDm g ad r.dq ++ (wPq g ap (adr (svS sv adn r po pn)) (adr mm) tx ++ (wRd g (ap 4) rp rl rs rm rn rz ++ (wPl g (svS sv adn r po pn) 6 ++ wPl g mm 2)))))))))) rfl rfl rfl (rq_nat hk1 (by decide)) (by first | omega | exact slN_lt _ (by omega)) (by decide) dX6_reverse_32 ?_
  refine x_aload_n C 0 rfl rfl dX6_reverse_33 ?_
  refine x_get C 0 6 0 rfl rfl wLy_X6 wFL_X6_10 rfl (by decide) rfl dX6_reverse_34 ?_
  refine x_get C 1 4 2 rfl rfl wLy_X4 wFL_X6_131 rfl (by decide) rfl dX6_reverse_37 ?_
  refine x_get C 13 3 0 rfl rfl wLy_X3 wFL_X6_135 rfl (by decide) rfl dX6_reverse_40 ?_
  have hk1l := rq_lt hk1 (show (6 : Int32) = nI 6 from rfl) (by decide)
  refine x_iload_n C 1 rfl rfl dX6_reverse_43 ?_
  refine x_ialdN (f := (upd r.vd (Int32.toNatClampNeg qa) (-(r.vd (Int32.toNatClampNeg qa))))) C 14 0 (Int32.toNatClampNeg qa) rfl rfl (rq_nat hk1 (by decide)) (by first | omega | exact slN_lt _ (by omega)) (by decide) dX6_reverse_44 ?_
  suffices K3 : xW p l e _ σ m args below meth c g.1 A 2 26 192 _ (wPo g ap ad (sp_spo2 po pn) (sp_spn2 pn) pl ++ (wS0 g ad ++ (wSk g ad r.kp r.ke r.kr r.kt r.kh r.kc ++ (wMx g ad r.xn r.xs r.xv r.xh r.xo r.xc ++ (wSv g ad (upd r.vd (Int32.toNatClampNeg qa) (-(r.vd (Int32.toNatClampNeg qa)))) r.vn r.vl r.vu r.vs r.vm r.vp r.vt r.va r.vw ++ (wLk g ad r.jd r.jb r.jc r.js r.jl r.jx r.ji r.jf r.jn ++ (wDm g ad r.dq ++ (wPq g ap (adr (svS sv adn r po pn)) (adr mm) tx ++ (wRd g (ap 4) rp rl rs rm rn rz ++ (wPl g (svS sv adn r po pn) 6 ++ wPl g mm 2)))))))))) [(0, .ref (ap 0)), (1, .int qa)] 53 [.int (if 0 ≤ ((upd r.vd (Int32.toNatClampNeg qa) (-(r.vd (Int32.toNatClampNeg qa)))) (Int32.toNatClampNeg qa)) then (0 : Int32) else 1)] by
    refine x_if_ge C 52 (by decide) dX6_reverse_45 (fun h2 => ?_) (fun h2 => ?_)
    · refine x_iconst C 0 (by decide) dX6_reverse_52 ?_
      refine x_st (st' := [.int (if 0 ≤ ((upd r.vd (Int32.toNatClampNeg qa) (-(r.vd (Int32.toNatClampNeg qa)))) (Int32.toNatClampNeg qa)) then (0 : Int32) else 1)]) (by simp only [if_pos h2]) ?_
      exact K3
    · refine x_iconst C 1 (by decide) dX6_reverse_48 ?_
      refine x_goto C 53 (by decide) dX6_reverse_49 ?_
      refine x_st (st' := [.int (if 0 ≤ ((upd r.vd (Int32.toNatClampNeg qa) (-(r.vd (Int32.toNatClampNeg qa)))) (Int32.toNatClampNeg qa)) then (0 : Int32) else 1)]) (by simp only [if_neg h2]) ?_
      exact K3
  exact x_zret C hr (xnz (bool_ite (Or.inl rfl) (Or.inr rfl))) (nle rfl) (nle rfl) dX6_reverse_53 ⟨(by simp only [er_X6_reverse, if_pos hk1]), (by first | (simp only [sp_X6_reverse, if_pos hk1]; done) | (simp only [sp_X6_reverse, if_pos hk1]; rfl)), adn, rfl⟩
def er_X6_setNeutral (qa : Int32) (qb : Int32) : Option String := (if (¬ qa < 0 ∧ qa < 6) then (if (¬ qb < (-50) ∧ qb ≤ 50) then none else some xIA) else some xIO)
set_option maxRecDepth 100000 in
set_option maxHeartbeats 1000000 in
theorem k_X6_setNeutral (l : Launch) (g : xGt) (ap ad : Nat → Nat) (r : xR) (po : Int32) (pn : Int32) (pl : Int32) (tx : Nat → Int32) (rp : Int32) (rl : Int32) (rs : Int32) (rm : Int32) (rn : Int32) (rz : Int32) (sv : xPl) (mm : xPl) (qa : Int32) (qb : Int32) (hc : clO r po pn) : xM l g.1 (xT g) yX6_setNeutral (ws_ yX6_setNeutral cX6_setNeutral 4 (some .int)) (xRm 7 116 27 198) 27 198 [.ref (ap 0), .int qa, .int qb] (wCl g ap ad r po pn pl tx rp rl rs rm rn rz sv mm) (fun r9 w9 => (er_X6_setNeutral qa qb) = none ∧ r9 = some (.int (r.vn (Int32.toNatClampNeg qa))) ∧ ∃ adn : Nat → Nat, w9 = (wCl g ap ad (r.set_vn (upd r.vn (Int32.toNatClampNeg qa) qb)) (sp_spo2 po pn) (sp_spn2 pn) pl tx rp rl rs rm rn rz (svS sv adn r po pn) mm)) (fun E w9 => (er_X6_setNeutral qa qb) = some E ∧ w9 = (wCl g ap ad r po pn pl tx rp rl rs rm rn rz sv mm)) := by
  have h12 := hc.1.2.2.1
  refine x_start (own := RX6) (nm := "setNeutral") rfl rfl (by decide +kernel) rfl (nle rfl) (fun p e σ m args below meth c A C hno hr => ?_)
  refine x_lve (lv' := [(0, .ref (ap 0)), (1, .int qa), (2, .int qb)]) rfl ?_
  refine x_ws (ws' := (wPo g ap ad po pn pl ++ (wS0 g ad ++ (wSk g ad r.kp r.ke r.kr r.kt r.kh r.kc ++ (wMx g ad r.xn r.xs r.xv r.xh r.xo r.xc ++ (wSv g ad r.vd r.vn r.vl r.vu r.vs r.vm r.vp r.vt r.va r.vw ++ (wLk g ad r.jd r.jb r.jc r.js r.jl r.jx r.ji r.jf r.jn ++ (wDm g ad r.dq ++ (wPq g ap (adr sv) (adr mm) tx ++ (wRd g (ap 4) rp rl rs rm rn rz ++ (wPl g sv 6 ++ wPl g mm 2))))))))))) rfl ?_
  refine x_iload_n C 1 rfl rfl dX6_setNeutral_0 ?_
  refine x_RS [.int qa] [] C (k_X6_requireServo l g qa) yS_X6_requireServo wML_X6_77 rfl rfl (nle rfl) (nle rfl) (nle rfl) (nle rfl) (nle rfl) dX6_setNeutral_1 (fun hk1 => ?_) (fun hk1 => ?_)
  · exact x_out C hno (nle rfl) (nle rfl) ⟨(by simp only [er_X6_setNeutral, if_neg hk1]), rfl⟩
  refine x_iload_n C 2 rfl rfl dX6_setNeutral_4 ?_
  refine x_bipush C (-50) (by decide) dX6_setNeutral_5 ?_
  refine x_bipush C 50 (by decide) dX6_setNeutral_7 ?_
  refine x_RS [.int qb, .int (-50), .int 50] [] C (k_X6_requireRange l g qb (-50) 50) yS_X6_requireRange wML_X6_38 rfl rfl (nle rfl) (nle rfl) (nle rfl) (nle rfl) (nle rfl) dX6_setNeutral_9 (fun hk2 => ?_) (fun hk2 => ?_)
  · exact x_out C hno (nle rfl) (nle rfl) ⟨(by simp only [er_X6_setNeutral, if_pos hk1, if_neg hk2]), rfl⟩
  refine x_aload_n C 0 rfl rfl dX6_setNeutral_12 ?_
  refine x_EV0 [] [] C (k_X6_saveState l g ap ad r po pn pl tx rp rl rs rm rn rz sv mm hc) rfl yV_X6_saveState wML_X6_42 0 rfl rfl rfl rfl (nle rfl) (nle rfl) (nle rfl) (nle rfl) (nle rfl) dX6_setNeutral_13 (fun E w h => h.elim) (fun r0 w h => ?_)
  obtain ⟨rfl, adn, rfl⟩ := h
  refine x_ws (ws' := (wPo g ap ad (sp_spo2 po pn) (sp_spn2 pn) pl ++ (wS0 g ad ++ (wSk g ad r.kp r.ke r.kr r.kt r.kh r.kc ++ (wMx g ad r.xn r.xs r.xv r.xh r.xo r.xc ++ (wSv g ad r.vd r.vn r.vl r.vu r.vs r.vm r.vp r.vt r.va r.vw ++ (wLk g ad r.jd r.jb r.jc r.js r.jl r.jx r.ji r.jf r.jn ++ (wDm g ad r.dq ++ (wPq g ap (adr (svS sv adn r po pn)) (adr mm) tx ++ (wRd g (ap 4) rp rl rs rm rn rz ++ (wPl g (svS sv adn r po pn) 6 ++ wPl g mm 2))))))))))) rfl ?_
  refine x_st (st' := []) rfl ?_
  refine x_aload_n C 0 rfl rfl dX6_setNeutral_16 ?_
  refine x_get C 0 6 0 rfl rfl wLy_X6 wFL_X6_10 rfl (by decide) rfl dX6_setNeutral_17 ?_
  refine x_get C 1 4 2 rfl rfl wLy_X4 wFL_X6_131 rfl (by decide) rfl dX6_setNeutral_20 ?_
  refine x_get C 13 3 1 rfl rfl wLy_X3 wFL_X6_140 rfl (by decide) rfl dX6_setNeutral_23 ?_
  have hk1l := rq_lt hk1 (show (6 : Int32) = nI 6 from rfl) (by decide)
  refine x_iload_n C 1 rfl rfl dX6_setNeutral_26 ?_
  refine x_ialdN (f := r.vn) C 15 0 (Int32.toNatClampNeg qa) rfl rfl (rq_nat hk1 (by decide)) (by first | omega | exact slN_lt _ (by omega)) (by decide) dX6_setNeutral_27 ?_
  refine x_istore_n C [(3, .int (r.vn (Int32.toNatClampNeg qa))), (0, .ref (ap 0)), (1, .int qa), (2, .int qb)] rfl rfl (by decide) dX6_setNeutral_28 ?_
  refine x_aload_n C 1 rfl rfl dX6_setNeutral_29 ?_
  refine x_get C 0 6 0 rfl rfl wLy_X6 wFL_X6_10 rfl (by decide) rfl dX6_setNeutral_30 ?_
  refine x_get C 1 4 2 rfl rfl wLy_X4 wFL_X6_131 rfl (by decide) rfl dX6_setNeutral_33 ?_
  refine x_get C 13 3 1 rfl rfl wLy_X3 wFL_X6_140 rfl (by decide) rfl dX6_setNeutral_36 ?_
  have hk1l := rq_lt hk1 (show (6 : Int32) = nI 6 from rfl) (by decide)
  refine x_iload_n C 2 rfl rfl dX6_setNeutral_39 ?_
  refine x_iload_n C 3 rfl rfl dX6_setNeutral_40 ?_
  refine x_iastN (f := r.vn) C 15 0 (Int32.toNatClampNeg qa) (wPo g ap ad (sp_spo2 po pn) (sp_spn2 pn) pl ++ (wS0 g ad ++ (wSk g ad r.kp r.ke r.kr r.kt r.kh r.kc ++ (wMx g ad r.xn r.xs r.xv r.xh r.xo r.xc ++ (wSv g ad r.vd (upd r.vn (Int32.toNatClampNeg qa) qb) r.vl r.vu r.vs r.vm r.vp r.vt r.va r.vw ++ (wLk g ad r.jd r.jb r.jc r.js r.jl r.jx r.ji r.jf r.jn ++ (wDm g ad r.dq ++ (wPq g ap (adr (svS sv adn r po pn)) (adr mm) tx ++ (wRd g (ap 4) rp rl rs rm rn rz ++ (wPl g (svS sv adn r po pn) 6 ++ wPl g mm 2)))))))))) rfl rfl rfl (rq_nat hk1 (by decide)) (by first | omega | exact slN_lt _ (by omega)) (by decide) dX6_setNeutral_41 ?_
  refine x_iload_n C 0 rfl rfl dX6_setNeutral_42 ?_
  exact x_iret C hr (nle rfl) (nle rfl) dX6_setNeutral_43 ⟨(by simp only [er_X6_setNeutral, if_pos hk1, if_pos hk2]), rfl, adn, rfl⟩
def er_X6_setLimits (qa : Int32) (qb : Int32) (qc : Int32) : Option String := (if (¬ qa < 0 ∧ qa < 6) then (if (¬ qb < (-150) ∧ qb ≤ 0) then (if (¬ qc < 0 ∧ qc ≤ 150) then none else some xIA) else some xIA) else some xIO)
set_option maxRecDepth 100000 in
set_option maxHeartbeats 1000000 in
theorem k_X6_setLimits (l : Launch) (g : xGt) (ap ad : Nat → Nat) (r : xR) (po : Int32) (pn : Int32) (pl : Int32) (tx : Nat → Int32) (rp : Int32) (rl : Int32) (rs : Int32) (rm : Int32) (rn : Int32) (rz : Int32) (sv : xPl) (mm : xPl) (qa : Int32) (qb : Int32) (qc : Int32) (hc : clO r po pn) : xM l g.1 (xT g) yX6_setLimits (ws_ yX6_setLimits cX6_setLimits 5 (some .int)) (xRm 7 116 28 204) 28 204 [.ref (ap 0), .int qa, .int qb, .int qc] (wCl g ap ad r po pn pl tx rp rl rs rm rn rz sv mm) (fun r9 w9 => (er_X6_setLimits qa qb qc) = none ∧ r9 = some (.int ((r.vu (Int32.toNatClampNeg qa)) - (r.vl (Int32.toNatClampNeg qa)))) ∧ ∃ adn : Nat → Nat, w9 = (wCl g ap ad (xRk r.kp r.ke r.kr r.kt r.kh r.kc r.xn r.xs r.xv r.xh r.xo r.xc r.vd r.vn (upd r.vl (Int32.toNatClampNeg qa) qb) (upd r.vu (Int32.toNatClampNeg qa) qc) r.vs r.vm r.vp r.vt r.va r.vw r.jd r.jb r.jc r.js r.jl r.jx r.ji r.jf r.jn r.dq) (sp_spo2 po pn) (sp_spn2 pn) pl tx rp rl rs rm rn rz (svS sv adn r po pn) mm)) (fun E w9 => (er_X6_setLimits qa qb qc) = some E ∧ w9 = (wCl g ap ad r po pn pl tx rp rl rs rm rn rz sv mm)) := by
  have h12 := hc.1.2.2.1
  refine x_start (own := RX6) (nm := "setLimits") rfl rfl (by decide +kernel) rfl (nle rfl) (fun p e σ m args below meth c A C hno hr => ?_)
  refine x_lve (lv' := [(0, .ref (ap 0)), (1, .int qa), (2, .int qb), (3, .int qc)]) rfl ?_
  refine x_ws (ws' := (wPo g ap ad po pn pl ++ (wS0 g ad ++ (wSk g ad r.kp r.ke r.kr r.kt r.kh r.kc ++ (wMx g ad r.xn r.xs r.xv r.xh r.xo r.xc ++ (wSv g ad r.vd r.vn r.vl r.vu r.vs r.vm r.vp r.vt r.va r.vw ++ (wLk g ad r.jd r.jb r.jc r.js r.jl r.jx r.ji r.jf r.jn ++ (wDm g ad r.dq ++ (wPq g ap (adr sv) (adr mm) tx ++ (wRd g (ap 4) rp rl rs rm rn rz ++ (wPl g sv 6 ++ wPl g mm 2))))))))))) rfl ?_
  refine x_iload_n C 1 rfl rfl dX6_setLimits_0 ?_
  refine x_RS [.int qa] [] C (k_X6_requireServo l g qa) yS_X6_requireServo wML_X6_77 rfl rfl (nle rfl) (nle rfl) (nle rfl) (nle rfl) (nle rfl) dX6_setLimits_1 (fun hk1 => ?_) (fun hk1 => ?_)
  · exact x_out C hno (nle rfl) (nle rfl) ⟨(by simp only [er_X6_setLimits, if_neg hk1]), rfl⟩
  refine x_iload_n C 2 rfl rfl dX6_setLimits_4 ?_
  refine x_sipush C (-150) (by decide) dX6_setLimits_5 ?_
  refine x_iconst C 0 (by decide) dX6_setLimits_8 ?_
  refine x_RS [.int qb, .int (-150), .int 0] [] C (k_X6_requireRange l g qb (-150) 0) yS_X6_requireRange wML_X6_38 rfl rfl (nle rfl) (nle rfl) (nle rfl) (nle rfl) (nle rfl) dX6_setLimits_9 (fun hk2 => ?_) (fun hk2 => ?_)
  · exact x_out C hno (nle rfl) (nle rfl) ⟨(by simp only [er_X6_setLimits, if_pos hk1, if_neg hk2]), rfl⟩
  refine x_iload_n C 3 rfl rfl dX6_setLimits_12 ?_
  refine x_iconst C 0 (by decide) dX6_setLimits_13 ?_
  refine x_sipush C 150 (by decide) dX6_setLimits_14 ?_
  refine x_RS [.int qc, .int 0, .int 150] [] C (k_X6_requireRange l g qc 0 150) yS_X6_requireRange wML_X6_38 rfl rfl (nle rfl) (nle rfl) (nle rfl) (nle rfl) (nle rfl) dX6_setLimits_17 (fun hk3 => ?_) (fun hk3 => ?_)
  · exact x_out C hno (nle rfl) (nle rfl) ⟨(by simp only [er_X6_setLimits, if_pos hk1, if_pos hk2, if_neg hk3]), rfl⟩
  refine x_aload_n C 0 rfl rfl dX6_setLimits_20 ?_
  refine x_EV0 [] [] C (k_X6_saveState l g ap ad r po pn pl tx rp rl rs rm rn rz sv mm hc) rfl yV_X6_saveState wML_X6_42 0 rfl rfl rfl rfl (nle rfl) (nle rfl) (nle rfl) (nle rfl) (nle rfl) dX6_setLimits_21 (fun E w h => h.elim) (fun r0 w h => ?_)
  obtain ⟨rfl, adn, rfl⟩ := h
  refine x_ws (ws' := (wPo g ap ad (sp_spo2 po pn) (sp_spn2 pn) pl ++ (wS0 g ad ++ (wSk g ad r.kp r.ke r.kr r.kt r.kh r.kc ++ (wMx g ad r.xn r.xs r.xv r.xh r.xo r.xc ++ (wSv g ad r.vd r.vn r.vl r.vu r.vs r.vm r.vp r.vt r.va r.vw ++ (wLk g ad r.jd r.jb r.jc r.js r.jl r.jx r.ji r.jf r.jn ++ (wDm g ad r.dq ++ (wPq g ap (adr (svS sv adn r po pn)) (adr mm) tx ++ (wRd g (ap 4) rp rl rs rm rn rz ++ (wPl g (svS sv adn r po pn) 6 ++ wPl g mm 2))))))))))) rfl ?_
  refine x_st (st' := []) rfl ?_
  refine x_aload_n C 0 rfl rfl dX6_setLimits_24 ?_
  refine x_get C 0 6 0 rfl rfl wLy_X6 wFL_X6_10 rfl (by decide) rfl dX6_setLimits_25 ?_
  refine x_get C 1 4 2 rfl rfl wLy_X4 wFL_X6_131 rfl (by decide) rfl dX6_setLimits_28 ?_
  refine x_get C 13 3 3 rfl rfl wLy_X3 wFL_X6_143 rfl (by decide) rfl dX6_setLimits_31 ?_
  have hk1l := rq_lt hk1 (show (6 : Int32) = nI 6 from rfl) (by decide)
  refine x_iload_n C 1 rfl rfl dX6_setLimits_34 ?_
  refine x_ialdN (f := r.vu) C 17 0 (Int32.toNatClampNeg qa) rfl rfl (rq_nat hk1 (by decide)) (by first | omega | exact slN_lt _ (by omega)) (by decide) dX6_setLimits_35 ?_
  refine x_aload_n C 0 rfl rfl dX6_setLimits_36 ?_
  refine x_get C 0 6 0 rfl rfl wLy_X6 wFL_X6_10 rfl (by decide) rfl dX6_setLimits_37 ?_
  refine x_get C 1 4 2 rfl rfl wLy_X4 wFL_X6_131 rfl (by decide) rfl dX6_setLimits_40 ?_
  refine x_get C 13 3 2 rfl rfl wLy_X3 wFL_X6_146 rfl (by decide) rfl dX6_setLimits_43 ?_
  have hk1l := rq_lt hk1 (show (6 : Int32) = nI 6 from rfl) (by decide)
  refine x_iload_n C 1 rfl rfl dX6_setLimits_46 ?_
  refine x_ialdN (f := r.vl) C 16 0 (Int32.toNatClampNeg qa) rfl rfl (rq_nat hk1 (by decide)) (by first | omega | exact slN_lt _ (by omega)) (by decide) dX6_setLimits_47 ?_
  refine x_isub C dX6_setLimits_48 ?_
  refine x_istore C [(4, .int ((r.vu (Int32.toNatClampNeg qa)) - (r.vl (Int32.toNatClampNeg qa)))), (0, .ref (ap 0)), (1, .int qa), (2, .int qb), (3, .int qc)] rfl (by decide) dX6_setLimits_49 ?_
  refine x_aload_n C 1 rfl rfl dX6_setLimits_51 ?_
  refine x_get C 0 6 0 rfl rfl wLy_X6 wFL_X6_10 rfl (by decide) rfl dX6_setLimits_52 ?_
  refine x_get C 1 4 2 rfl rfl wLy_X4 wFL_X6_131 rfl (by decide) rfl dX6_setLimits_55 ?_
  refine x_get C 13 3 2 rfl rfl wLy_X3 wFL_X6_146 rfl (by decide) rfl dX6_setLimits_58 ?_
  have hk1l := rq_lt hk1 (show (6 : Int32) = nI 6 from rfl) (by decide)
  refine x_iload_n C 2 rfl rfl dX6_setLimits_61 ?_
  refine x_iload_n C 3 rfl rfl dX6_setLimits_62 ?_
  refine x_iastN (f := r.vl) C 16 0 (Int32.toNatClampNeg qa) (wPo g ap ad (sp_spo2 po pn) (sp_spn2 pn) pl ++ (wS0 g ad ++ (wSk g ad r.kp r.ke r.kr r.kt r.kh r.kc ++ (wMx g ad r.xn r.xs r.xv r.xh r.xo r.xc ++ (wSv g ad r.vd r.vn (upd r.vl (Int32.toNatClampNeg qa) qb) r.vu r.vs r.vm r.vp r.vt r.va r.vw ++ (wLk g ad r.jd r.jb r.jc r.js r.jl r.jx r.ji r.jf r.jn ++ (wDm g ad r.dq ++ (wPq g ap (adr (svS sv adn r po pn)) (adr mm) tx ++ (wRd g (ap 4) rp rl rs rm rn rz ++ (wPl g (svS sv adn r po pn) 6 ++ wPl g mm 2)))))))))) rfl rfl rfl (rq_nat hk1 (by decide)) (by first | omega | exact slN_lt _ (by omega)) (by decide) dX6_setLimits_63 ?_
  refine x_aload_n C 1 rfl rfl dX6_setLimits_64 ?_
  refine x_get C 0 6 0 rfl rfl wLy_X6 wFL_X6_10 rfl (by decide) rfl dX6_setLimits_65 ?_
  refine x_get C 1 4 2 rfl rfl wLy_X4 wFL_X6_131 rfl (by decide) rfl dX6_setLimits_68 ?_
  refine x_get C 13 3 3 rfl rfl wLy_X3 wFL_X6_143 rfl (by decide) rfl dX6_setLimits_71 ?_
  have hk1l := rq_lt hk1 (show (6 : Int32) = nI 6 from rfl) (by decide)
  refine x_iload_n C 2 rfl rfl dX6_setLimits_74 ?_
  have hk3l := rq_le hk3 (by decide) (show (150 : Int32) = nI 150 from rfl) (by decide)
  refine x_iload_n C 4 rfl rfl dX6_setLimits_75 ?_
  refine x_iastN (f := r.vu) C 17 0 (Int32.toNatClampNeg qa) (wPo g ap ad (sp_spo2 po pn) (sp_spn2 pn) pl ++ (wS0 g ad ++ (wSk g ad r.kp r.ke r.kr r.kt r.kh r.kc ++ (wMx g ad r.xn r.xs r.xv r.xh r.xo r.xc ++ (wSv g ad r.vd r.vn (upd r.vl (Int32.toNatClampNeg qa) qb) (upd r.vu (Int32.toNatClampNeg qa) qc) r.vs r.vm r.vp r.vt r.va r.vw ++ (wLk g ad r.jd r.jb r.jc r.js r.jl r.jx r.ji r.jf r.jn ++ (wDm g ad r.dq ++ (wPq g ap (adr (svS sv adn r po pn)) (adr mm) tx ++ (wRd g (ap 4) rp rl rs rm rn rz ++ (wPl g (svS sv adn r po pn) 6 ++ wPl g mm 2)))))))))) rfl rfl rfl (rq_nat hk1 (by decide)) (by first | omega | exact slN_lt _ (by omega)) (by decide) dX6_setLimits_76 ?_
  refine x_iload C 0 rfl dX6_setLimits_77 ?_
  exact x_iret C hr (nle rfl) (nle rfl) dX6_setLimits_79 ⟨(by simp only [er_X6_setLimits, if_pos hk1, if_pos hk2, if_pos hk3]), rfl, adn, rfl⟩
def er_X6_setSpeed (qa : Int32) (qb : Int32) : Option String := (if (¬ qa < 0 ∧ qa < 6) then (if (¬ qb < 1 ∧ qb ≤ 300) then none else some xIA) else some xIO)
set_option maxRecDepth 100000 in
set_option maxHeartbeats 1000000 in
theorem k_X6_setSpeed (l : Launch) (g : xGt) (ap ad : Nat → Nat) (r : xR) (po : Int32) (pn : Int32) (pl : Int32) (tx : Nat → Int32) (rp : Int32) (rl : Int32) (rs : Int32) (rm : Int32) (rn : Int32) (rz : Int32) (sv : xPl) (mm : xPl) (qa : Int32) (qb : Int32) (hc : clO r po pn) : xM l g.1 (xT g) yX6_setSpeed (ws_ yX6_setSpeed cX6_setSpeed 4 (some .int)) (xRm 7 116 27 198) 27 198 [.ref (ap 0), .int qa, .int qb] (wCl g ap ad r po pn pl tx rp rl rs rm rn rz sv mm) (fun r9 w9 => (er_X6_setSpeed qa qb) = none ∧ r9 = some (.int (r.vs (Int32.toNatClampNeg qa))) ∧ ∃ adn : Nat → Nat, w9 = (wCl g ap ad (r.set_vs (upd r.vs (Int32.toNatClampNeg qa) qb)) (sp_spo2 po pn) (sp_spn2 pn) pl tx rp rl rs rm rn rz (svS sv adn r po pn) mm)) (fun E w9 => (er_X6_setSpeed qa qb) = some E ∧ w9 = (wCl g ap ad r po pn pl tx rp rl rs rm rn rz sv mm)) := by
  have h12 := hc.1.2.2.1
  refine x_start (own := RX6) (nm := "setSpeed") rfl rfl (by decide +kernel) rfl (nle rfl) (fun p e σ m args below meth c A C hno hr => ?_)
  refine x_lve (lv' := [(0, .ref (ap 0)), (1, .int qa), (2, .int qb)]) rfl ?_
  refine x_ws (ws' := (wPo g ap ad po pn pl ++ (wS0 g ad ++ (wSk g ad r.kp r.ke r.kr r.kt r.kh r.kc ++ (wMx g ad r.xn r.xs r.xv r.xh r.xo r.xc ++ (wSv g ad r.vd r.vn r.vl r.vu r.vs r.vm r.vp r.vt r.va r.vw ++ (wLk g ad r.jd r.jb r.jc r.js r.jl r.jx r.ji r.jf r.jn ++ (wDm g ad r.dq ++ (wPq g ap (adr sv) (adr mm) tx ++ (wRd g (ap 4) rp rl rs rm rn rz ++ (wPl g sv 6 ++ wPl g mm 2))))))))))) rfl ?_
  refine x_iload_n C 1 rfl rfl dX6_setSpeed_0 ?_
  refine x_RS [.int qa] [] C (k_X6_requireServo l g qa) yS_X6_requireServo wML_X6_77 rfl rfl (nle rfl) (nle rfl) (nle rfl) (nle rfl) (nle rfl) dX6_setSpeed_1 (fun hk1 => ?_) (fun hk1 => ?_)
  · exact x_out C hno (nle rfl) (nle rfl) ⟨(by simp only [er_X6_setSpeed, if_neg hk1]), rfl⟩
  refine x_iload_n C 2 rfl rfl dX6_setSpeed_4 ?_
  refine x_iconst C 1 (by decide) dX6_setSpeed_5 ?_
  refine x_sipush C 300 (by decide) dX6_setSpeed_6 ?_
  refine x_RS [.int qb, .int 1, .int 300] [] C (k_X6_requireRange l g qb 1 300) yS_X6_requireRange wML_X6_38 rfl rfl (nle rfl) (nle rfl) (nle rfl) (nle rfl) (nle rfl) dX6_setSpeed_9 (fun hk2 => ?_) (fun hk2 => ?_)
  · exact x_out C hno (nle rfl) (nle rfl) ⟨(by simp only [er_X6_setSpeed, if_pos hk1, if_neg hk2]), rfl⟩
  refine x_aload_n C 0 rfl rfl dX6_setSpeed_12 ?_
  refine x_EV0 [] [] C (k_X6_saveState l g ap ad r po pn pl tx rp rl rs rm rn rz sv mm hc) rfl yV_X6_saveState wML_X6_42 0 rfl rfl rfl rfl (nle rfl) (nle rfl) (nle rfl) (nle rfl) (nle rfl) dX6_setSpeed_13 (fun E w h => h.elim) (fun r0 w h => ?_)
  obtain ⟨rfl, adn, rfl⟩ := h
  refine x_ws (ws' := (wPo g ap ad (sp_spo2 po pn) (sp_spn2 pn) pl ++ (wS0 g ad ++ (wSk g ad r.kp r.ke r.kr r.kt r.kh r.kc ++ (wMx g ad r.xn r.xs r.xv r.xh r.xo r.xc ++ (wSv g ad r.vd r.vn r.vl r.vu r.vs r.vm r.vp r.vt r.va r.vw ++ (wLk g ad r.jd r.jb r.jc r.js r.jl r.jx r.ji r.jf r.jn ++ (wDm g ad r.dq ++ (wPq g ap (adr (svS sv adn r po pn)) (adr mm) tx ++ (wRd g (ap 4) rp rl rs rm rn rz ++ (wPl g (svS sv adn r po pn) 6 ++ wPl g mm 2))))))))))) rfl ?_
  refine x_st (st' := []) rfl ?_
  refine x_aload_n C 0 rfl rfl dX6_setSpeed_16 ?_
  refine x_get C 0 6 0 rfl rfl wLy_X6 wFL_X6_10 rfl (by decide) rfl dX6_setSpeed_17 ?_
  refine x_get C 1 4 2 rfl rfl wLy_X4 wFL_X6_131 rfl (by decide) rfl dX6_setSpeed_20 ?_
  refine x_get C 13 3 4 rfl rfl wLy_X3 wFL_X6_149 rfl (by decide) rfl dX6_setSpeed_23 ?_
  have hk1l := rq_lt hk1 (show (6 : Int32) = nI 6 from rfl) (by decide)
  refine x_iload_n C 1 rfl rfl dX6_setSpeed_26 ?_
  refine x_ialdN (f := r.vs) C 18 0 (Int32.toNatClampNeg qa) rfl rfl (rq_nat hk1 (by decide)) (by first | omega | exact slN_lt _ (by omega)) (by decide) dX6_setSpeed_27 ?_
  refine x_istore_n C [(3, .int (r.vs (Int32.toNatClampNeg qa))), (0, .ref (ap 0)), (1, .int qa), (2, .int qb)] rfl rfl (by decide) dX6_setSpeed_28 ?_
  refine x_aload_n C 1 rfl rfl dX6_setSpeed_29 ?_
  refine x_get C 0 6 0 rfl rfl wLy_X6 wFL_X6_10 rfl (by decide) rfl dX6_setSpeed_30 ?_
  refine x_get C 1 4 2 rfl rfl wLy_X4 wFL_X6_131 rfl (by decide) rfl dX6_setSpeed_33 ?_
  refine x_get C 13 3 4 rfl rfl wLy_X3 wFL_X6_149 rfl (by decide) rfl dX6_setSpeed_36 ?_
  have hk1l := rq_lt hk1 (show (6 : Int32) = nI 6 from rfl) (by decide)
  refine x_iload_n C 2 rfl rfl dX6_setSpeed_39 ?_
  have hk2l := rq_le hk2 (by decide) (show (300 : Int32) = nI 300 from rfl) (by decide)
  refine x_iload_n C 3 rfl rfl dX6_setSpeed_40 ?_
  refine x_iastN (f := r.vs) C 18 0 (Int32.toNatClampNeg qa) (wPo g ap ad (sp_spo2 po pn) (sp_spn2 pn) pl ++ (wS0 g ad ++ (wSk g ad r.kp r.ke r.kr r.kt r.kh r.kc ++ (wMx g ad r.xn r.xs r.xv r.xh r.xo r.xc ++ (wSv g ad r.vd r.vn r.vl r.vu (upd r.vs (Int32.toNatClampNeg qa) qb) r.vm r.vp r.vt r.va r.vw ++ (wLk g ad r.jd r.jb r.jc r.js r.jl r.jx r.ji r.jf r.jn ++ (wDm g ad r.dq ++ (wPq g ap (adr (svS sv adn r po pn)) (adr mm) tx ++ (wRd g (ap 4) rp rl rs rm rn rz ++ (wPl g (svS sv adn r po pn) 6 ++ wPl g mm 2)))))))))) rfl rfl rfl (rq_nat hk1 (by decide)) (by first | omega | exact slN_lt _ (by omega)) (by decide) dX6_setSpeed_41 ?_
  refine x_iload_n C 0 rfl rfl dX6_setSpeed_42 ?_
  exact x_iret C hr (nle rfl) (nle rfl) dX6_setSpeed_43 ⟨(by simp only [er_X6_setSpeed, if_pos hk1, if_pos hk2]), rfl, adn, rfl⟩
def er_X6_setFailsafe (qa : Int32) (qb : Int32) (qc : Int32) : Option String := (if (¬ qa < 0 ∧ qa < 6) then (if (¬ qb < 0 ∧ qb ≤ 2) then (if (¬ qc < (-150) ∧ qc ≤ 150) then none else some xIA) else some xIA) else some xIO)
set_option maxRecDepth 100000 in
set_option maxHeartbeats 1000000 in
theorem k_X6_setFailsafe (l : Launch) (g : xGt) (ap ad : Nat → Nat) (r : xR) (po : Int32) (pn : Int32) (pl : Int32) (tx : Nat → Int32) (rp : Int32) (rl : Int32) (rs : Int32) (rm : Int32) (rn : Int32) (rz : Int32) (sv : xPl) (mm : xPl) (qa : Int32) (qb : Int32) (qc : Int32) (hc : clO r po pn) : xM l g.1 (xT g) yX6_setFailsafe (ws_ yX6_setFailsafe cX6_setFailsafe 5 (some .int)) (xRm 7 116 28 204) 28 204 [.ref (ap 0), .int qa, .int qb, .int qc] (wCl g ap ad r po pn pl tx rp rl rs rm rn rz sv mm) (fun r9 w9 => (er_X6_setFailsafe qa qb qc) = none ∧ r9 = some (.int (r.vm (Int32.toNatClampNeg qa))) ∧ ∃ adn : Nat → Nat, w9 = (wCl g ap ad (xRk r.kp r.ke r.kr r.kt r.kh r.kc r.xn r.xs r.xv r.xh r.xo r.xc r.vd r.vn r.vl r.vu r.vs (upd r.vm (Int32.toNatClampNeg qa) qb) (upd r.vp (Int32.toNatClampNeg qa) qc) r.vt r.va r.vw r.jd r.jb r.jc r.js r.jl r.jx r.ji r.jf r.jn r.dq) (sp_spo2 po pn) (sp_spn2 pn) pl tx rp rl rs rm rn rz (svS sv adn r po pn) mm)) (fun E w9 => (er_X6_setFailsafe qa qb qc) = some E ∧ w9 = (wCl g ap ad r po pn pl tx rp rl rs rm rn rz sv mm)) := by
  have h12 := hc.1.2.2.1
  refine x_start (own := RX6) (nm := "setFailsafe") rfl rfl (by decide +kernel) rfl (nle rfl) (fun p e σ m args below meth c A C hno hr => ?_)
  refine x_lve (lv' := [(0, .ref (ap 0)), (1, .int qa), (2, .int qb), (3, .int qc)]) rfl ?_
  refine x_ws (ws' := (wPo g ap ad po pn pl ++ (wS0 g ad ++ (wSk g ad r.kp r.ke r.kr r.kt r.kh r.kc ++ (wMx g ad r.xn r.xs r.xv r.xh r.xo r.xc ++ (wSv g ad r.vd r.vn r.vl r.vu r.vs r.vm r.vp r.vt r.va r.vw ++ (wLk g ad r.jd r.jb r.jc r.js r.jl r.jx r.ji r.jf r.jn ++ (wDm g ad r.dq ++ (wPq g ap (adr sv) (adr mm) tx ++ (wRd g (ap 4) rp rl rs rm rn rz ++ (wPl g sv 6 ++ wPl g mm 2))))))))))) rfl ?_
  refine x_iload_n C 1 rfl rfl dX6_setFailsafe_0 ?_
  refine x_RS [.int qa] [] C (k_X6_requireServo l g qa) yS_X6_requireServo wML_X6_77 rfl rfl (nle rfl) (nle rfl) (nle rfl) (nle rfl) (nle rfl) dX6_setFailsafe_1 (fun hk1 => ?_) (fun hk1 => ?_)
  · exact x_out C hno (nle rfl) (nle rfl) ⟨(by simp only [er_X6_setFailsafe, if_neg hk1]), rfl⟩
  refine x_iload_n C 2 rfl rfl dX6_setFailsafe_4 ?_
  refine x_iconst C 0 (by decide) dX6_setFailsafe_5 ?_
  refine x_iconst C 2 (by decide) dX6_setFailsafe_6 ?_
  refine x_RS [.int qb, .int 0, .int 2] [] C (k_X6_requireRange l g qb 0 2) yS_X6_requireRange wML_X6_38 rfl rfl (nle rfl) (nle rfl) (nle rfl) (nle rfl) (nle rfl) dX6_setFailsafe_7 (fun hk2 => ?_) (fun hk2 => ?_)
  · exact x_out C hno (nle rfl) (nle rfl) ⟨(by simp only [er_X6_setFailsafe, if_pos hk1, if_neg hk2]), rfl⟩
  refine x_iload_n C 3 rfl rfl dX6_setFailsafe_10 ?_
  refine x_sipush C (-150) (by decide) dX6_setFailsafe_11 ?_
  refine x_sipush C 150 (by decide) dX6_setFailsafe_14 ?_
  refine x_RS [.int qc, .int (-150), .int 150] [] C (k_X6_requireRange l g qc (-150) 150) yS_X6_requireRange wML_X6_38 rfl rfl (nle rfl) (nle rfl) (nle rfl) (nle rfl) (nle rfl) dX6_setFailsafe_17 (fun hk3 => ?_) (fun hk3 => ?_)
  · exact x_out C hno (nle rfl) (nle rfl) ⟨(by simp only [er_X6_setFailsafe, if_pos hk1, if_pos hk2, if_neg hk3]), rfl⟩
  refine x_aload_n C 0 rfl rfl dX6_setFailsafe_20 ?_
  refine x_EV0 [] [] C (k_X6_saveState l g ap ad r po pn pl tx rp rl rs rm rn rz sv mm hc) rfl yV_X6_saveState wML_X6_42 0 rfl rfl rfl rfl (nle rfl) (nle rfl) (nle rfl) (nle rfl) (nle rfl) dX6_setFailsafe_21 (fun E w h => h.elim) (fun r0 w h => ?_)
  obtain ⟨rfl, adn, rfl⟩ := h
  refine x_ws (ws' := (wPo g ap ad (sp_spo2 po pn) (sp_spn2 pn) pl ++ (wS0 g ad ++ (wSk g ad r.kp r.ke r.kr r.kt r.kh r.kc ++ (wMx g ad r.xn r.xs r.xv r.xh r.xo r.xc ++ (wSv g ad r.vd r.vn r.vl r.vu r.vs r.vm r.vp r.vt r.va r.vw ++ (wLk g ad r.jd r.jb r.jc r.js r.jl r.jx r.ji r.jf r.jn ++ (wDm g ad r.dq ++ (wPq g ap (adr (svS sv adn r po pn)) (adr mm) tx ++ (wRd g (ap 4) rp rl rs rm rn rz ++ (wPl g (svS sv adn r po pn) 6 ++ wPl g mm 2))))))))))) rfl ?_
  refine x_st (st' := []) rfl ?_
  refine x_aload_n C 0 rfl rfl dX6_setFailsafe_24 ?_
  refine x_get C 0 6 0 rfl rfl wLy_X6 wFL_X6_10 rfl (by decide) rfl dX6_setFailsafe_25 ?_
  refine x_get C 1 4 2 rfl rfl wLy_X4 wFL_X6_131 rfl (by decide) rfl dX6_setFailsafe_28 ?_
  refine x_get C 13 3 5 rfl rfl wLy_X3 wFL_X6_152 rfl (by decide) rfl dX6_setFailsafe_31 ?_
  have hk1l := rq_lt hk1 (show (6 : Int32) = nI 6 from rfl) (by decide)
  refine x_iload_n C 1 rfl rfl dX6_setFailsafe_34 ?_
  refine x_ialdN (f := r.vm) C 19 0 (Int32.toNatClampNeg qa) rfl rfl (rq_nat hk1 (by decide)) (by first | omega | exact slN_lt _ (by omega)) (by decide) dX6_setFailsafe_35 ?_
  refine x_istore C [(4, .int (r.vm (Int32.toNatClampNeg qa))), (0, .ref (ap 0)), (1, .int qa), (2, .int qb), (3, .int qc)] rfl (by decide) dX6_setFailsafe_36 ?_
  refine x_aload_n C 1 rfl rfl dX6_setFailsafe_38 ?_
  refine x_get C 0 6 0 rfl rfl wLy_X6 wFL_X6_10 rfl (by decide) rfl dX6_setFailsafe_39 ?_
  refine x_get C 1 4 2 rfl rfl wLy_X4 wFL_X6_131 rfl (by decide) rfl dX6_setFailsafe_42 ?_
  refine x_get C 13 3 5 rfl rfl wLy_X3 wFL_X6_152 rfl (by decide) rfl dX6_setFailsafe_45 ?_
  have hk1l := rq_lt hk1 (show (6 : Int32) = nI 6 from rfl) (by decide)
  refine x_iload_n C 2 rfl rfl dX6_setFailsafe_48 ?_
  have hk2l := rq_le hk2 (by decide) (show (2 : Int32) = nI 2 from rfl) (by decide)
  refine x_iload_n C 3 rfl rfl dX6_setFailsafe_49 ?_
  refine x_iastN (f := r.vm) C 19 0 (Int32.toNatClampNeg qa) (wPo g ap ad (sp_spo2 po pn) (sp_spn2 pn) pl ++ (wS0 g ad ++ (wSk g ad r.kp r.ke r.kr r.kt r.kh r.kc ++ (wMx g ad r.xn r.xs r.xv r.xh r.xo r.xc ++ (wSv g ad r.vd r.vn r.vl r.vu r.vs (upd r.vm (Int32.toNatClampNeg qa) qb) r.vp r.vt r.va r.vw ++ (wLk g ad r.jd r.jb r.jc r.js r.jl r.jx r.ji r.jf r.jn ++ (wDm g ad r.dq ++ (wPq g ap (adr (svS sv adn r po pn)) (adr mm) tx ++ (wRd g (ap 4) rp rl rs rm rn rz ++ (wPl g (svS sv adn r po pn) 6 ++ wPl g mm 2)))))))))) rfl rfl rfl (rq_nat hk1 (by decide)) (by first | omega | exact slN_lt _ (by omega)) (by decide) dX6_setFailsafe_50 ?_
  refine x_aload_n C 1 rfl rfl dX6_setFailsafe_51 ?_
  refine x_get C 0 6 0 rfl rfl wLy_X6 wFL_X6_10 rfl (by decide) rfl dX6_setFailsafe_52 ?_
  refine x_get C 1 4 2 rfl rfl wLy_X4 wFL_X6_131 rfl (by decide) rfl dX6_setFailsafe_55 ?_
  refine x_get C 13 3 6 rfl rfl wLy_X3 wFL_X6_155 rfl (by decide) rfl dX6_setFailsafe_58 ?_
  have hk1l := rq_lt hk1 (show (6 : Int32) = nI 6 from rfl) (by decide)
  refine x_iload_n C 2 rfl rfl dX6_setFailsafe_61 ?_
  refine x_iload_n C 4 rfl rfl dX6_setFailsafe_62 ?_
  refine x_iastN (f := r.vp) C 20 0 (Int32.toNatClampNeg qa) (wPo g ap ad (sp_spo2 po pn) (sp_spn2 pn) pl ++ (wS0 g ad ++ (wSk g ad r.kp r.ke r.kr r.kt r.kh r.kc ++ (wMx g ad r.xn r.xs r.xv r.xh r.xo r.xc ++ (wSv g ad r.vd r.vn r.vl r.vu r.vs (upd r.vm (Int32.toNatClampNeg qa) qb) (upd r.vp (Int32.toNatClampNeg qa) qc) r.vt r.va r.vw ++ (wLk g ad r.jd r.jb r.jc r.js r.jl r.jx r.ji r.jf r.jn ++ (wDm g ad r.dq ++ (wPq g ap (adr (svS sv adn r po pn)) (adr mm) tx ++ (wRd g (ap 4) rp rl rs rm rn rz ++ (wPl g (svS sv adn r po pn) 6 ++ wPl g mm 2)))))))))) rfl rfl rfl (rq_nat hk1 (by decide)) (by first | omega | exact slN_lt _ (by omega)) (by decide) dX6_setFailsafe_63 ?_
  refine x_iload C 0 rfl dX6_setFailsafe_64 ?_
  exact x_iret C hr (nle rfl) (nle rfl) dX6_setFailsafe_66 ⟨(by simp only [er_X6_setFailsafe, if_pos hk1, if_pos hk2, if_pos hk3]), rfl, adn, rfl⟩
