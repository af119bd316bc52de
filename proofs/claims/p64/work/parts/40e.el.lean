def sp_el1_xn (r : xR) : Int32 := (sp_X2_put_xn r.xn)
def sp_el1_xs (r : xR) : Nat → Int32 := (sp_X2_put_xs r.xn r.xs 0)
def sp_el1_xv (r : xR) (qa : Int32) : Nat → Int32 := (sp_X2_put_xv r.xn r.xv qa)
def sp_el1_xh (r : xR) (qc : Int32) : Nat → Int32 := (sp_X2_put_xh r.xn r.xh qc)
def sp_el1_xo (r : xR) : Nat → Int32 := (sp_X2_put_xo r.xn r.xo 0)
def sp_el1_xc (r : xR) : Nat → Int32 := (sp_X2_put_xc r.xn r.xc 0)
def sp_el2_xn (r : xR) : Int32 := (sp_X2_put_xn (sp_el1_xn r))
def sp_el2_xs (r : xR) : Nat → Int32 := (sp_X2_put_xs (sp_el1_xn r) (sp_el1_xs r) 1)
def sp_el2_xv (r : xR) (qa : Int32) : Nat → Int32 := (sp_X2_put_xv (sp_el1_xn r) (sp_el1_xv r qa) qa)
def sp_el2_xh (r : xR) (qc : Int32) : Nat → Int32 := (sp_X2_put_xh (sp_el1_xn r) (sp_el1_xh r qc) qc)
def sp_el2_xo (r : xR) : Nat → Int32 := (sp_X2_put_xo (sp_el1_xn r) (sp_el1_xo r) 0)
def sp_el2_xc (r : xR) : Nat → Int32 := (sp_X2_put_xc (sp_el1_xn r) (sp_el1_xc r) 0)
def sp_el3_xn (r : xR) : Int32 := (sp_X2_put_xn (sp_el2_xn r))
def sp_el3_xs (r : xR) : Nat → Int32 := (sp_X2_put_xs (sp_el2_xn r) (sp_el2_xs r) 0)
def sp_el3_xv (r : xR) (qa : Int32) (qb : Int32) : Nat → Int32 := (sp_X2_put_xv (sp_el2_xn r) (sp_el2_xv r qa) qb)
def sp_el3_xh (r : xR) (qc : Int32) : Nat → Int32 := (sp_X2_put_xh (sp_el2_xn r) (sp_el2_xh r qc) (-qc))
def sp_el3_xo (r : xR) : Nat → Int32 := (sp_X2_put_xo (sp_el2_xn r) (sp_el2_xo r) 0)
def sp_el3_xc (r : xR) : Nat → Int32 := (sp_X2_put_xc (sp_el2_xn r) (sp_el2_xc r) 0)
def sp_el4_xn (r : xR) : Int32 := (sp_X2_put_xn (sp_el3_xn r))
def sp_el4_xs (r : xR) : Nat → Int32 := (sp_X2_put_xs (sp_el3_xn r) (sp_el3_xs r) 1)
def sp_el4_xv (r : xR) (qa : Int32) (qb : Int32) : Nat → Int32 := (sp_X2_put_xv (sp_el3_xn r) (sp_el3_xv r qa qb) qb)
def sp_el4_xh (r : xR) (qc : Int32) : Nat → Int32 := (sp_X2_put_xh (sp_el3_xn r) (sp_el3_xh r qc) qc)
def sp_el4_xo (r : xR) : Nat → Int32 := (sp_X2_put_xo (sp_el3_xn r) (sp_el3_xo r) 0)
def sp_el4_xc (r : xR) : Nat → Int32 := (sp_X2_put_xc (sp_el3_xn r) (sp_el3_xc r) 0)
def er_X6_elevons (r : xR) (qa : Int32) (qb : Int32) (qc : Int32) : Option String := (if (¬ qa < 0 ∧ qa < 6) then (if (¬ qb < 0 ∧ qb < 6) then (if qa = qb then some xIA else (if (¬ qc < 1 ∧ qc ≤ 150) then (if (r.xn + 4) ≤ 12 then none else some xIS) else some xIA)) else some xIO) else some xIO)
set_option maxRecDepth 100000 in
set_option maxHeartbeats 16000000 in
theorem k_X6_elevons (l : Launch) (g : xGt) (ap ad : Nat → Nat) (r : xR) (po : Int32) (pn : Int32) (pl : Int32) (tx : Nat → Int32) (rp : Int32) (rl : Int32) (rs : Int32) (rm : Int32) (rn : Int32) (rz : Int32) (sv : xPl) (mm : xPl) (qa : Int32) (qb : Int32) (qc : Int32) (hc : clO r po pn) : xM l g.1 (xT g) yX6_elevons (ws_ yX6_elevons cX6_elevons 4 (some .int)) (xRm 7 116 29 210) 29 210 [.ref (ap 0), .int qa, .int qb, .int qc] (wCl g ap ad r po pn pl tx rp rl rs rm rn rz sv mm) (fun r9 w9 => (er_X6_elevons r qa qb qc) = none ∧ r9 = some (.int (sp_el4_xn r)) ∧ ∃ adn : Nat → Nat, w9 = (wCl g ap ad (xRk r.kp r.ke r.kr r.kt r.kh r.kc (sp_el4_xn r) (sp_el4_xs r) (sp_el4_xv r qa qb) (sp_el4_xh r qc) (sp_el4_xo r) (sp_el4_xc r) r.vd r.vn r.vl r.vu r.vs r.vm r.vp r.vt r.va r.vw r.jd r.jb r.jc r.js r.jl r.jx r.ji r.jf r.jn r.dq) (sp_spo2 po pn) (sp_spn2 pn) pl tx rp rl rs rm rn rz (svS sv adn r po pn) mm)) (fun E w9 => (er_X6_elevons r qa qb qc) = some E ∧ w9 = (wCl g ap ad r po pn pl tx rp rl rs rm rn rz sv mm)) := by
  have h12 := hc.1.2.2.1
  refine x_start (own := RX6) (nm := "elevons") rfl rfl (by decide +kernel) rfl (nle rfl) (fun p e σ m args below meth c A C hno hr => ?_)
  refine x_lve (lv' := [(0, .ref (ap 0)), (1, .int qa), (2, .int qb), (3, .int qc)]) rfl ?_
  refine x_ws (ws' := (wPo g ap ad po pn pl ++ (wS0 g ad ++ (wSk g ad r.kp r.ke r.kr r.kt r.kh r.kc ++ (wMx g ad r.xn r.xs r.xv r.xh r.xo r.xc ++ (wSv g ad r.vd r.vn r.vl r.vu r.vs r.vm r.vp r.vt r.va r.vw ++ (wLk g ad r.jd r.jb r.jc r.js r.jl r.jx r.ji r.jf r.jn ++ (wDm g ad r.dq ++ (wPq g ap (adr sv) (adr mm) tx ++ (wRd g (ap 4) rp rl rs rm rn rz ++ (wPl g sv 6 ++ wPl g mm 2))))))))))) rfl ?_
  refine x_iload_n C 1 rfl rfl dX6_elevons_0 ?_
  refine x_RS [.int qa] [] C (k_X6_requireServo l g qa) yS_X6_requireServo wML_X6_77 rfl rfl (nle rfl) (nle rfl) (nle rfl) (nle rfl) (nle rfl) dX6_elevons_1 (fun hk1 => ?_) (fun hk1 => ?_)
  · exact x_out C hno (nle rfl) (nle rfl) ⟨(by simp only [er_X6_elevons, if_neg hk1]), rfl⟩
  refine x_iload_n C 2 rfl rfl dX6_elevons_4 ?_
  refine x_RS [.int qb] [] C (k_X6_requireServo l g qb) yS_X6_requireServo wML_X6_77 rfl rfl (nle rfl) (nle rfl) (nle rfl) (nle rfl) (nle rfl) dX6_elevons_5 (fun hk2 => ?_) (fun hk2 => ?_)
  · exact x_out C hno (nle rfl) (nle rfl) ⟨(by simp only [er_X6_elevons, if_pos hk1, if_neg hk2]), rfl⟩
  have hk1l := rq_lt hk1 (show (6 : Int32) = nI 6 from rfl) (by decide)
  refine x_iload_n C 1 rfl rfl dX6_elevons_8 ?_
  have hk2l := rq_lt hk2 (show (6 : Int32) = nI 6 from rfl) (by decide)
  refine x_iload_n C 2 rfl rfl dX6_elevons_9 ?_
  refine x_icmp_ne C 23 (by decide) dX6_elevons_10 (fun h3 => ?_) (fun h3 => ?_)
  · refine x_iload_n C 3 rfl rfl dX6_elevons_23 ?_
    refine x_iconst C 1 (by decide) dX6_elevons_24 ?_
    refine x_sipush C 150 (by decide) dX6_elevons_25 ?_
    refine x_RS [.int qc, .int 1, .int 150] [] C (k_X6_requireRange l g qc 1 150) yS_X6_requireRange wML_X6_38 rfl rfl (nle rfl) (nle rfl) (nle rfl) (nle rfl) (nle rfl) dX6_elevons_28 (fun hk4 => ?_) (fun hk4 => ?_)
    · exact x_out C hno (nle rfl) (nle rfl) ⟨(by simp only [er_X6_elevons, if_pos hk1, if_pos hk2, if_neg h3, if_neg hk4]), rfl⟩
    refine x_aload_n C 0 rfl rfl dX6_elevons_31 ?_
    refine x_iconst C 4 (by decide) dX6_elevons_32 ?_
    refine x_RV0 [.int 4] [] C (k_X6_requireRoomForMixes l g ap ad r po pn pl tx rp rl rs rm rn rz sv mm 4) rfl yV_X6_requireRoomForMixes wML_X6_87 0 rfl rfl rfl rfl (nle rfl) (nle rfl) (nle rfl) (nle rfl) (nle rfl) dX6_elevons_33 (fun hk5 => ?_) (fun hk5 => ?_)
    · exact x_out C hno (nle rfl) (nle rfl) ⟨(by simp only [er_X6_elevons, if_pos hk1, if_pos hk2, if_neg h3, if_pos hk4, if_neg hk5]), rfl⟩
    refine x_aload_n C 0 rfl rfl dX6_elevons_36 ?_
    refine x_EV0 [] [] C (k_X6_saveState l g ap ad r po pn pl tx rp rl rs rm rn rz sv mm hc) rfl yV_X6_saveState wML_X6_42 0 rfl rfl rfl rfl (nle rfl) (nle rfl) (nle rfl) (nle rfl) (nle rfl) dX6_elevons_37 (fun E w h => h.elim) (fun r0 w h => ?_)
    obtain ⟨rfl, adn, rfl⟩ := h
    refine x_ws (ws' := (wPo g ap ad (sp_spo2 po pn) (sp_spn2 pn) pl ++ (wS0 g ad ++ (wSk g ad r.kp r.ke r.kr r.kt r.kh r.kc ++ (wMx g ad r.xn r.xs r.xv r.xh r.xo r.xc ++ (wSv g ad r.vd r.vn r.vl r.vu r.vs r.vm r.vp r.vt r.va r.vw ++ (wLk g ad r.jd r.jb r.jc r.js r.jl r.jx r.ji r.jf r.jn ++ (wDm g ad r.dq ++ (wPq g ap (adr (svS sv adn r po pn)) (adr mm) tx ++ (wRd g (ap 4) rp rl rs rm rn rz ++ (wPl g (svS sv adn r po pn) 6 ++ wPl g mm 2))))))))))) rfl ?_
    refine x_st (st' := []) rfl ?_
    refine x_aload_n C 0 rfl rfl dX6_elevons_40 ?_
    refine x_get C 0 6 0 rfl rfl wLy_X6 wFL_X6_10 rfl (by decide) rfl dX6_elevons_41 ?_
    refine x_get C 1 4 1 rfl rfl wLy_X4 wFL_X6_90 rfl (by decide) rfl dX6_elevons_44 ?_
    refine x_iconst C 0 (by decide) dX6_elevons_47 ?_
    have hk1l := rq_lt hk1 (show (6 : Int32) = nI 6 from rfl) (by decide)
    refine x_iload_n C 1 rfl rfl dX6_elevons_48 ?_
    have hk4l := rq_le hk4 (by decide) (show (150 : Int32) = nI 150 from rfl) (by decide)
    refine x_iload_n C 3 rfl rfl dX6_elevons_49 ?_
    refine x_iconst C 0 (by decide) dX6_elevons_50 ?_
    refine x_iconst C 0 (by decide) dX6_elevons_51 ?_
    refine x_GV (w1 := (List.take 7 (wPo g ap ad (sp_spo2 po pn) (sp_spn2 pn) pl ++ (wS0 g ad ++ (wSk g ad r.kp r.ke r.kr r.kt r.kh r.kc ++ (wMx g ad r.xn r.xs r.xv r.xh r.xo r.xc ++ (wSv g ad r.vd r.vn r.vl r.vu r.vs r.vm r.vp r.vt r.va r.vw ++ (wLk g ad r.jd r.jb r.jc r.js r.jl r.jx r.ji r.jf r.jn ++ (wDm g ad r.dq ++ (wPq g ap (adr (svS sv adn r po pn)) (adr mm) tx ++ (wRd g (ap 4) rp rl rs rm rn rz ++ (wPl g (svS sv adn r po pn) 6 ++ wPl g mm 2)))))))))))) (wc := _) (w2 := (List.drop 13 (wPo g ap ad (sp_spo2 po pn) (sp_spn2 pn) pl ++ (wS0 g ad ++ (wSk g ad r.kp r.ke r.kr r.kt r.kh r.kc ++ (wMx g ad r.xn r.xs r.xv r.xh r.xo r.xc ++ (wSv g ad r.vd r.vn r.vl r.vu r.vs r.vm r.vp r.vt r.va r.vw ++ (wLk g ad r.jd r.jb r.jc r.js r.jl r.jx r.ji r.jf r.jn ++ (wDm g ad r.dq ++ (wPq g ap (adr (svS sv adn r po pn)) (adr mm) tx ++ (wRd g (ap 4) rp rl rs rm rn rz ++ (wPl g (svS sv adn r po pn) 6 ++ wPl g mm 2)))))))))))) [.int 0, .int qa, .int qc, .int 0, .int 0] [] (wPo g ap ad (sp_spo2 po pn) (sp_spn2 pn) pl ++ (wS0 g ad ++ (wSk g ad r.kp r.ke r.kr r.kt r.kh r.kc ++ (wMx g ad (sp_X2_put_xn r.xn) (sp_X2_put_xs r.xn r.xs 0) (sp_X2_put_xv r.xn r.xv qa) (sp_X2_put_xh r.xn r.xh qc) (sp_X2_put_xo r.xn r.xo 0) (sp_X2_put_xc r.xn r.xc 0) ++ (wSv g ad r.vd r.vn r.vl r.vu r.vs r.vm r.vp r.vt r.va r.vw ++ (wLk g ad r.jd r.jb r.jc r.js r.jl r.jx r.ji r.jf r.jn ++ (wDm g ad r.dq ++ (wPq g ap (adr (svS sv adn r po pn)) (adr mm) tx ++ (wRd g (ap 4) rp rl rs rm rn rz ++ (wPl g (svS sv adn r po pn) 6 ++ wPl g mm 2)))))))))) C (k_X2_put l g ad r.xn r.xs r.xv r.xh r.xo r.xc 0 qa qc 0 0 hc.1.2.1) rfl yV_X2_put wML_X6_94 rfl 7 rfl rfl rfl rfl (nle rfl) (nle rfl) (nle rfl) (nle rfl) (nle rfl) dX6_elevons_52 ?_
    refine x_ws (ws' := (wPo g ap ad (sp_spo2 po pn) (sp_spn2 pn) pl ++ (wS0 g ad ++ (wSk g ad r.kp r.ke r.kr r.kt r.kh r.kc ++ (wMx g ad (sp_el1_xn r) (sp_el1_xs r) (sp_el1_xv r qa) (sp_el1_xh r qc) (sp_el1_xo r) (sp_el1_xc r) ++ (wSv g ad r.vd r.vn r.vl r.vu r.vs r.vm r.vp r.vt r.va r.vw ++ (wLk g ad r.jd r.jb r.jc r.js r.jl r.jx r.ji r.jf r.jn ++ (wDm g ad r.dq ++ (wPq g ap (adr (svS sv adn r po pn)) (adr mm) tx ++ (wRd g (ap 4) rp rl rs rm rn rz ++ (wPl g (svS sv adn r po pn) 6 ++ wPl g mm 2))))))))))) (by unfold sp_el1_xn sp_el1_xs sp_el1_xv sp_el1_xh sp_el1_xo sp_el1_xc; rfl) ?_
    have hx1 : (sp_el1_xn r) = nI (Int32.toNatClampNeg (sp_el1_xn r)) := by unfold sp_el1_xn; exact putn_ok hc.1.2.1
    refine x_aload_n C 0 rfl rfl dX6_elevons_55 ?_
    refine x_get C 0 6 0 rfl rfl wLy_X6 wFL_X6_10 rfl (by decide) rfl dX6_elevons_56 ?_
    refine x_get C 1 4 1 rfl rfl wLy_X4 wFL_X6_90 rfl (by decide) rfl dX6_elevons_59 ?_
    refine x_iconst C 1 (by decide) dX6_elevons_62 ?_
    have hk1l := rq_lt hk1 (show (6 : Int32) = nI 6 from rfl) (by decide)
    refine x_iload_n C 1 rfl rfl dX6_elevons_63 ?_
    have hk4l := rq_le hk4 (by decide) (show (150 : Int32) = nI 150 from rfl) (by decide)
    refine x_iload_n C 3 rfl rfl dX6_elevons_64 ?_
    refine x_iconst C 0 (by decide) dX6_elevons_65 ?_
    refine x_iconst C 0 (by decide) dX6_elevons_66 ?_
    refine x_GV (w1 := (List.take 7 (wPo g ap ad (sp_spo2 po pn) (sp_spn2 pn) pl ++ (wS0 g ad ++ (wSk g ad r.kp r.ke r.kr r.kt r.kh r.kc ++ (wMx g ad (sp_el1_xn r) (sp_el1_xs r) (sp_el1_xv r qa) (sp_el1_xh r qc) (sp_el1_xo r) (sp_el1_xc r) ++ (wSv g ad r.vd r.vn r.vl r.vu r.vs r.vm r.vp r.vt r.va r.vw ++ (wLk g ad r.jd r.jb r.jc r.js r.jl r.jx r.ji r.jf r.jn ++ (wDm g ad r.dq ++ (wPq g ap (adr (svS sv adn r po pn)) (adr mm) tx ++ (wRd g (ap 4) rp rl rs rm rn rz ++ (wPl g (svS sv adn r po pn) 6 ++ wPl g mm 2)))))))))))) (wc := _) (w2 := (List.drop 13 (wPo g ap ad (sp_spo2 po pn) (sp_spn2 pn) pl ++ (wS0 g ad ++ (wSk g ad r.kp r.ke r.kr r.kt r.kh r.kc ++ (wMx g ad (sp_el1_xn r) (sp_el1_xs r) (sp_el1_xv r qa) (sp_el1_xh r qc) (sp_el1_xo r) (sp_el1_xc r) ++ (wSv g ad r.vd r.vn r.vl r.vu r.vs r.vm r.vp r.vt r.va r.vw ++ (wLk g ad r.jd r.jb r.jc r.js r.jl r.jx r.ji r.jf r.jn ++ (wDm g ad r.dq ++ (wPq g ap (adr (svS sv adn r po pn)) (adr mm) tx ++ (wRd g (ap 4) rp rl rs rm rn rz ++ (wPl g (svS sv adn r po pn) 6 ++ wPl g mm 2)))))))))))) [.int 1, .int qa, .int qc, .int 0, .int 0] [] (wPo g ap ad (sp_spo2 po pn) (sp_spn2 pn) pl ++ (wS0 g ad ++ (wSk g ad r.kp r.ke r.kr r.kt r.kh r.kc ++ (wMx g ad (sp_X2_put_xn (sp_el1_xn r)) (sp_X2_put_xs (sp_el1_xn r) (sp_el1_xs r) 1) (sp_X2_put_xv (sp_el1_xn r) (sp_el1_xv r qa) qa) (sp_X2_put_xh (sp_el1_xn r) (sp_el1_xh r qc) qc) (sp_X2_put_xo (sp_el1_xn r) (sp_el1_xo r) 0) (sp_X2_put_xc (sp_el1_xn r) (sp_el1_xc r) 0) ++ (wSv g ad r.vd r.vn r.vl r.vu r.vs r.vm r.vp r.vt r.va r.vw ++ (wLk g ad r.jd r.jb r.jc r.js r.jl r.jx r.ji r.jf r.jn ++ (wDm g ad r.dq ++ (wPq g ap (adr (svS sv adn r po pn)) (adr mm) tx ++ (wRd g (ap 4) rp rl rs rm rn rz ++ (wPl g (svS sv adn r po pn) 6 ++ wPl g mm 2)))))))))) C (k_X2_put l g ad (sp_el1_xn r) (sp_el1_xs r) (sp_el1_xv r qa) (sp_el1_xh r qc) (sp_el1_xo r) (sp_el1_xc r) 1 qa qc 0 0 hx1) rfl yV_X2_put wML_X6_94 rfl 7 rfl rfl rfl rfl (nle rfl) (nle rfl) (nle rfl) (nle rfl) (nle rfl) dX6_elevons_67 ?_
    refine x_ws (ws' := (wPo g ap ad (sp_spo2 po pn) (sp_spn2 pn) pl ++ (wS0 g ad ++ (wSk g ad r.kp r.ke r.kr r.kt r.kh r.kc ++ (wMx g ad (sp_el2_xn r) (sp_el2_xs r) (sp_el2_xv r qa) (sp_el2_xh r qc) (sp_el2_xo r) (sp_el2_xc r) ++ (wSv g ad r.vd r.vn r.vl r.vu r.vs r.vm r.vp r.vt r.va r.vw ++ (wLk g ad r.jd r.jb r.jc r.js r.jl r.jx r.ji r.jf r.jn ++ (wDm g ad r.dq ++ (wPq g ap (adr (svS sv adn r po pn)) (adr mm) tx ++ (wRd g (ap 4) rp rl rs rm rn rz ++ (wPl g (svS sv adn r po pn) 6 ++ wPl g mm 2))))))))))) (by unfold sp_el2_xn sp_el2_xs sp_el2_xv sp_el2_xh sp_el2_xo sp_el2_xc; rfl) ?_
    have hx2 : (sp_el2_xn r) = nI (Int32.toNatClampNeg (sp_el2_xn r)) := by unfold sp_el2_xn; exact putn_ok hx1
    refine x_aload_n C 0 rfl rfl dX6_elevons_70 ?_
    refine x_get C 0 6 0 rfl rfl wLy_X6 wFL_X6_10 rfl (by decide) rfl dX6_elevons_71 ?_
    refine x_get C 1 4 1 rfl rfl wLy_X4 wFL_X6_90 rfl (by decide) rfl dX6_elevons_74 ?_
    refine x_iconst C 0 (by decide) dX6_elevons_77 ?_
    have hk2l := rq_lt hk2 (show (6 : Int32) = nI 6 from rfl) (by decide)
    refine x_iload_n C 2 rfl rfl dX6_elevons_78 ?_
    have hk4l := rq_le hk4 (by decide) (show (150 : Int32) = nI 150 from rfl) (by decide)
    refine x_iload_n C 3 rfl rfl dX6_elevons_79 ?_
    refine x_ineg C dX6_elevons_80 ?_
    refine x_iconst C 0 (by decide) dX6_elevons_81 ?_
    refine x_iconst C 0 (by decide) dX6_elevons_82 ?_
    refine x_GV (w1 := (List.take 7 (wPo g ap ad (sp_spo2 po pn) (sp_spn2 pn) pl ++ (wS0 g ad ++ (wSk g ad r.kp r.ke r.kr r.kt r.kh r.kc ++ (wMx g ad (sp_el2_xn r) (sp_el2_xs r) (sp_el2_xv r qa) (sp_el2_xh r qc) (sp_el2_xo r) (sp_el2_xc r) ++ (wSv g ad r.vd r.vn r.vl r.vu r.vs r.vm r.vp r.vt r.va r.vw ++ (wLk g ad r.jd r.jb r.jc r.js r.jl r.jx r.ji r.jf r.jn ++ (wDm g ad r.dq ++ (wPq g ap (adr (svS sv adn r po pn)) (adr mm) tx ++ (wRd g (ap 4) rp rl rs rm rn rz ++ (wPl g (svS sv adn r po pn) 6 ++ wPl g mm 2)))))))))))) (wc := _) (w2 := (List.drop 13 (wPo g ap ad (sp_spo2 po pn) (sp_spn2 pn) pl ++ (wS0 g ad ++ (wSk g ad r.kp r.ke r.kr r.kt r.kh r.kc ++ (wMx g ad (sp_el2_xn r) (sp_el2_xs r) (sp_el2_xv r qa) (sp_el2_xh r qc) (sp_el2_xo r) (sp_el2_xc r) ++ (wSv g ad r.vd r.vn r.vl r.vu r.vs r.vm r.vp r.vt r.va r.vw ++ (wLk g ad r.jd r.jb r.jc r.js r.jl r.jx r.ji r.jf r.jn ++ (wDm g ad r.dq ++ (wPq g ap (adr (svS sv adn r po pn)) (adr mm) tx ++ (wRd g (ap 4) rp rl rs rm rn rz ++ (wPl g (svS sv adn r po pn) 6 ++ wPl g mm 2)))))))))))) [.int 0, .int qb, .int (-qc), .int 0, .int 0] [] (wPo g ap ad (sp_spo2 po pn) (sp_spn2 pn) pl ++ (wS0 g ad ++ (wSk g ad r.kp r.ke r.kr r.kt r.kh r.kc ++ (wMx g ad (sp_X2_put_xn (sp_el2_xn r)) (sp_X2_put_xs (sp_el2_xn r) (sp_el2_xs r) 0) (sp_X2_put_xv (sp_el2_xn r) (sp_el2_xv r qa) qb) (sp_X2_put_xh (sp_el2_xn r) (sp_el2_xh r qc) (-qc)) (sp_X2_put_xo (sp_el2_xn r) (sp_el2_xo r) 0) (sp_X2_put_xc (sp_el2_xn r) (sp_el2_xc r) 0) ++ (wSv g ad r.vd r.vn r.vl r.vu r.vs r.vm r.vp r.vt r.va r.vw ++ (wLk g ad r.jd r.jb r.jc r.js r.jl r.jx r.ji r.jf r.jn ++ (wDm g ad r.dq ++ (wPq g ap (adr (svS sv adn r po pn)) (adr mm) tx ++ (wRd g (ap 4) rp rl rs rm rn rz ++ (wPl g (svS sv adn r po pn) 6 ++ wPl g mm 2)))))))))) C (k_X2_put l g ad (sp_el2_xn r) (sp_el2_xs r) (sp_el2_xv r qa) (sp_el2_xh r qc) (sp_el2_xo r) (sp_el2_xc r) 0 qb (-qc) 0 0 hx2) rfl yV_X2_put wML_X6_94 rfl 7 rfl rfl rfl rfl (nle rfl) (nle rfl) (nle rfl) (nle rfl) (nle rfl) dX6_elevons_83 ?_
    refine x_ws (ws' := (wPo g ap ad (sp_spo2 po pn) (sp_spn2 pn) pl ++ (wS0 g ad ++ (wSk g ad r.kp r.ke r.kr r.kt r.kh r.kc ++ (wMx g ad (sp_el3_xn r) (sp_el3_xs r) (sp_el3_xv r qa qb) (sp_el3_xh r qc) (sp_el3_xo r) (sp_el3_xc r) ++ (wSv g ad r.vd r.vn r.vl r.vu r.vs r.vm r.vp r.vt r.va r.vw ++ (wLk g ad r.jd r.jb r.jc r.js r.jl r.jx r.ji r.jf r.jn ++ (wDm g ad r.dq ++ (wPq g ap (adr (svS sv adn r po pn)) (adr mm) tx ++ (wRd g (ap 4) rp rl rs rm rn rz ++ (wPl g (svS sv adn r po pn) 6 ++ wPl g mm 2))))))))))) (by unfold sp_el3_xn sp_el3_xs sp_el3_xv sp_el3_xh sp_el3_xo sp_el3_xc; rfl) ?_
    have hx3 : (sp_el3_xn r) = nI (Int32.toNatClampNeg (sp_el3_xn r)) := by unfold sp_el3_xn; exact putn_ok hx2
    refine x_aload_n C 0 rfl rfl dX6_elevons_86 ?_
    refine x_get C 0 6 0 rfl rfl wLy_X6 wFL_X6_10 rfl (by decide) rfl dX6_elevons_87 ?_
    refine x_get C 1 4 1 rfl rfl wLy_X4 wFL_X6_90 rfl (by decide) rfl dX6_elevons_90 ?_
    refine x_iconst C 1 (by decide) dX6_elevons_93 ?_
    have hk2l := rq_lt hk2 (show (6 : Int32) = nI 6 from rfl) (by decide)
    refine x_iload_n C 2 rfl rfl dX6_elevons_94 ?_
    have hk4l := rq_le hk4 (by decide) (show (150 : Int32) = nI 150 from rfl) (by decide)
    refine x_iload_n C 3 rfl rfl dX6_elevons_95 ?_
    refine x_iconst C 0 (by decide) dX6_elevons_96 ?_
    refine x_iconst C 0 (by decide) dX6_elevons_97 ?_
    refine x_GV (w1 := (List.take 7 (wPo g ap ad (sp_spo2 po pn) (sp_spn2 pn) pl ++ (wS0 g ad ++ (wSk g ad r.kp r.ke r.kr r.kt r.kh r.kc ++ (wMx g ad (sp_el3_xn r) (sp_el3_xs r) (sp_el3_xv r qa qb) (sp_el3_xh r qc) (sp_el3_xo r) (sp_el3_xc r) ++ (wSv g ad r.vd r.vn r.vl r.vu r.vs r.vm r.vp r.vt r.va r.vw ++ (wLk g ad r.jd r.jb r.jc r.js r.jl r.jx r.ji r.jf r.jn ++ (wDm g ad r.dq ++ (wPq g ap (adr (svS sv adn r po pn)) (adr mm) tx ++ (wRd g (ap 4) rp rl rs rm rn rz ++ (wPl g (svS sv adn r po pn) 6 ++ wPl g mm 2)))))))))))) (wc := _) (w2 := (List.drop 13 (wPo g ap ad (sp_spo2 po pn) (sp_spn2 pn) pl ++ (wS0 g ad ++ (wSk g ad r.kp r.ke r.kr r.kt r.kh r.kc ++ (wMx g ad (sp_el3_xn r) (sp_el3_xs r) (sp_el3_xv r qa qb) (sp_el3_xh r qc) (sp_el3_xo r) (sp_el3_xc r) ++ (wSv g ad r.vd r.vn r.vl r.vu r.vs r.vm r.vp r.vt r.va r.vw ++ (wLk g ad r.jd r.jb r.jc r.js r.jl r.jx r.ji r.jf r.jn ++ (wDm g ad r.dq ++ (wPq g ap (adr (svS sv adn r po pn)) (adr mm) tx ++ (wRd g (ap 4) rp rl rs rm rn rz ++ (wPl g (svS sv adn r po pn) 6 ++ wPl g mm 2)))))))))))) [.int 1, .int qb, .int qc, .int 0, .int 0] [] (wPo g ap ad (sp_spo2 po pn) (sp_spn2 pn) pl ++ (wS0 g ad ++ (wSk g ad r.kp r.ke r.kr r.kt r.kh r.kc ++ (wMx g ad (sp_X2_put_xn (sp_el3_xn r)) (sp_X2_put_xs (sp_el3_xn r) (sp_el3_xs r) 1) (sp_X2_put_xv (sp_el3_xn r) (sp_el3_xv r qa qb) qb) (sp_X2_put_xh (sp_el3_xn r) (sp_el3_xh r qc) qc) (sp_X2_put_xo (sp_el3_xn r) (sp_el3_xo r) 0) (sp_X2_put_xc (sp_el3_xn r) (sp_el3_xc r) 0) ++ (wSv g ad r.vd r.vn r.vl r.vu r.vs r.vm r.vp r.vt r.va r.vw ++ (wLk g ad r.jd r.jb r.jc r.js r.jl r.jx r.ji r.jf r.jn ++ (wDm g ad r.dq ++ (wPq g ap (adr (svS sv adn r po pn)) (adr mm) tx ++ (wRd g (ap 4) rp rl rs rm rn rz ++ (wPl g (svS sv adn r po pn) 6 ++ wPl g mm 2)))))))))) C (k_X2_put l g ad (sp_el3_xn r) (sp_el3_xs r) (sp_el3_xv r qa qb) (sp_el3_xh r qc) (sp_el3_xo r) (sp_el3_xc r) 1 qb qc 0 0 hx3) rfl yV_X2_put wML_X6_94 rfl 7 rfl rfl rfl rfl (nle rfl) (nle rfl) (nle rfl) (nle rfl) (nle rfl) dX6_elevons_98 ?_
    refine x_ws (ws' := (wPo g ap ad (sp_spo2 po pn) (sp_spn2 pn) pl ++ (wS0 g ad ++ (wSk g ad r.kp r.ke r.kr r.kt r.kh r.kc ++ (wMx g ad (sp_el4_xn r) (sp_el4_xs r) (sp_el4_xv r qa qb) (sp_el4_xh r qc) (sp_el4_xo r) (sp_el4_xc r) ++ (wSv g ad r.vd r.vn r.vl r.vu r.vs r.vm r.vp r.vt r.va r.vw ++ (wLk g ad r.jd r.jb r.jc r.js r.jl r.jx r.ji r.jf r.jn ++ (wDm g ad r.dq ++ (wPq g ap (adr (svS sv adn r po pn)) (adr mm) tx ++ (wRd g (ap 4) rp rl rs rm rn rz ++ (wPl g (svS sv adn r po pn) 6 ++ wPl g mm 2))))))))))) (by unfold sp_el4_xn sp_el4_xs sp_el4_xv sp_el4_xh sp_el4_xo sp_el4_xc; rfl) ?_
    have hx4 : (sp_el4_xn r) = nI (Int32.toNatClampNeg (sp_el4_xn r)) := by unfold sp_el4_xn; exact putn_ok hx3
    refine x_aload_n C 0 rfl rfl dX6_elevons_101 ?_
    refine x_get C 0 6 0 rfl rfl wLy_X6 wFL_X6_10 rfl (by decide) rfl dX6_elevons_102 ?_
    refine x_get C 1 4 1 rfl rfl wLy_X4 wFL_X6_90 rfl (by decide) rfl dX6_elevons_105 ?_
    refine x_get C 7 2 0 rfl rfl wLy_X2 wFL_X6_100 rfl (by decide) rfl dX6_elevons_108 ?_
    refine x_iret C hr (nle rfl) (nle rfl) dX6_elevons_111 ⟨(by simp only [er_X6_elevons, if_pos hk1, if_pos hk2, if_neg h3, if_pos hk4, if_pos hk5]), rfl, adn, ?_⟩
    generalize sp_el4_xn r = z0
    generalize sp_el4_xs r = z1
    generalize sp_el4_xv r qa qb = z2
    generalize sp_el4_xh r qc = z3
    generalize sp_el4_xo r = z4
    generalize sp_el4_xc r = z5
    rfl
  · exact x_throw C hno (by decide +kernel) wCL_X6_80 wIn_IllegalArgumentException (by decide +kernel) (show (113, "A pair of elevons has two servos.") ∈ xSs by decide +kernel) tw1_xIA tw2_xIA tw3_xIA dX6_elevons_13 dX6_elevons_16 dX6_elevons_17 dX6_elevons_19 dX6_elevons_22 (nlt rfl) (nle rfl) (nle rfl) (nle rfl) (nle rfl) (nle rfl) ⟨(by simp only [er_X6_elevons, if_pos hk1, if_pos hk2, if_pos h3]), rfl⟩
