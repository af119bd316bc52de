def sp_X6_demand (r : xR) (qa : Int32) : Int32 := ((sp_cdm r.kp r.ke r.kr r.kt r.kh r.kc r.xn r.xs r.xv r.xh r.xo r.xc r.dq 6) (Int32.toNatClampNeg qa))
def er_X6_demand (qa : Int32) : Option String := (if (¬ qa < 0 ∧ qa < 6) then none else some xIO)
set_option maxRecDepth 100000 in
set_option maxHeartbeats 1000000 in
theorem k_X6_demand (l : Launch) (g : xGt) (ap ad : Nat → Nat) (r : xR) (po : Int32) (pn : Int32) (pl : Int32) (tx : Nat → Int32) (rp : Int32) (rl : Int32) (rs : Int32) (rm : Int32) (rn : Int32) (rz : Int32) (sv : xPl) (mm : xPl) (qa : Int32) (hc : clO r po pn) : xM l g.1 (xT g) yX6_demand (ws_ yX6_demand cX6_demand 2 (some .int)) (xRm 7 114 1 6) 1 6 [.ref (ap 0), .int qa] (wCl g ap ad r po pn pl tx rp rl rs rm rn rz sv mm) (fun r9 w9 => (er_X6_demand qa) = none ∧ r9 = some (.int (sp_X6_demand r qa)) ∧ w9 = (wCl g ap ad (r.set_dq (sp_cdm r.kp r.ke r.kr r.kt r.kh r.kc r.xn r.xs r.xv r.xh r.xo r.xc r.dq 6)) po pn pl tx rp rl rs rm rn rz sv mm)) (fun E w9 => (er_X6_demand qa) = some E ∧ w9 = (wCl g ap ad r po pn pl tx rp rl rs rm rn rz sv mm)) := by
  have h12 := hc.1.2.2.1
  refine x_start (own := RX6) (nm := "demand") rfl rfl (by decide +kernel) rfl (nle rfl) (fun p e σ m args below meth c A C hno hr => ?_)
  refine x_lve (lv' := [(0, .ref (ap 0)), (1, .int qa)]) rfl ?_
  refine x_ws (ws' := (wPo g ap ad po pn pl ++ (wS0 g ad ++ (wSk g ad r.kp r.ke r.kr r.kt r.kh r.kc ++ (wMx g ad r.xn r.xs r.xv r.xh r.xo r.xc ++ (wSv g ad r.vd r.vn r.vl r.vu r.vs r.vm r.vp r.vt r.va r.vw ++ (wLk g ad r.jd r.jb r.jc r.js r.jl r.jx r.ji r.jf r.jn ++ (wDm g ad r.dq ++ (wPq g ap (adr sv) (adr mm) tx ++ (wRd g (ap 4) rp rl rs rm rn rz ++ (wPl g sv 6 ++ wPl g mm 2))))))))))) rfl ?_
  refine x_iload_n C 1 rfl rfl dX6_demand_0 ?_
  refine x_RS [.int qa] [] C (k_X6_requireServo l g qa) yS_X6_requireServo wML_X6_77 rfl rfl (nle rfl) (nle rfl) (nle rfl) (nle rfl) (nle rfl) dX6_demand_1 (fun hk1 => ?_) (fun hk1 => ?_)
  · exact x_out C hno (nle rfl) (nle rfl) ⟨(by simp only [er_X6_demand, if_neg hk1]), rfl⟩
  refine x_aload_n C 0 rfl rfl dX6_demand_4 ?_
  refine x_get C 0 6 0 rfl rfl wLy_X6 wFL_X6_10 rfl (by decide) rfl dX6_demand_5 ?_
  refine x_GV (w1 := (List.take 1 (wPo g ap ad po pn pl ++ (wS0 g ad ++ (wSk g ad r.kp r.ke r.kr r.kt r.kh r.kc ++ (wMx g ad r.xn r.xs r.xv r.xh r.xo r.xc ++ (wSv g ad r.vd r.vn r.vl r.vu r.vs r.vm r.vp r.vt r.va r.vw ++ (wLk g ad r.jd r.jb r.jc r.js r.jl r.jx r.ji r.jf r.jn ++ (wDm g ad r.dq ++ (wPq g ap (adr sv) (adr mm) tx ++ (wRd g (ap 4) rp rl rs rm rn rz ++ (wPl g sv 6 ++ wPl g mm 2)))))))))))) (wc := _) (w2 := (List.drop 26 (wPo g ap ad po pn pl ++ (wS0 g ad ++ (wSk g ad r.kp r.ke r.kr r.kt r.kh r.kc ++ (wMx g ad r.xn r.xs r.xv r.xh r.xo r.xc ++ (wSv g ad r.vd r.vn r.vl r.vu r.vs r.vm r.vp r.vt r.va r.vw ++ (wLk g ad r.jd r.jb r.jc r.js r.jl r.jx r.ji r.jf r.jn ++ (wDm g ad r.dq ++ (wPq g ap (adr sv) (adr mm) tx ++ (wRd g (ap 4) rp rl rs rm rn rz ++ (wPl g sv 6 ++ wPl g mm 2)))))))))))) [] [] (wPo g ap ad po pn pl ++ (wS0 g ad ++ (wSk g ad r.kp r.ke r.kr r.kt r.kh r.kc ++ (wMx g ad r.xn r.xs r.xv r.xh r.xo r.xc ++ (wSv g ad r.vd r.vn r.vl r.vu r.vs r.vm r.vp r.vt r.va r.vw ++ (wLk g ad r.jd r.jb r.jc r.js r.jl r.jx r.ji r.jf r.jn ++ (wDm g ad (sp_cdm r.kp r.ke r.kr r.kt r.kh r.kc r.xn r.xs r.xv r.xh r.xo r.xc r.dq 6) ++ (wPq g ap (adr sv) (adr mm) tx ++ (wRd g (ap 4) rp rl rs rm rn rz ++ (wPl g sv 6 ++ wPl g mm 2)))))))))) C (k_X4_computeDemands l g ad r.kp r.ke r.kr r.kt r.kh r.kc r.xn r.xs r.xv r.xh r.xo r.xc r.vd r.vn r.vl r.vu r.vs r.vm r.vp r.vt r.va r.vw r.jd r.jb r.jc r.js r.jl r.jx r.ji r.jf r.jn r.dq hc.1) rfl yV_X4_computeDemands wML_X6_121 rfl 1 rfl rfl rfl rfl (nle rfl) (nle rfl) (nle rfl) (nle rfl) (nle rfl) dX6_demand_8 ?_
  refine x_aload_n C 0 rfl rfl dX6_demand_11 ?_
  refine x_get C 0 6 0 rfl rfl wLy_X6 wFL_X6_10 rfl (by decide) rfl dX6_demand_12 ?_
  refine x_get C 1 4 4 rfl rfl wLy_X4 wFL_X6_158 rfl (by decide) rfl dX6_demand_15 ?_
  have hk1l := rq_lt hk1 (show (6 : Int32) = nI 6 from rfl) (by decide)
  refine x_iload_n C 1 rfl rfl dX6_demand_18 ?_
  refine x_ialdN (f := (sp_cdm r.kp r.ke r.kr r.kt r.kh r.kc r.xn r.xs r.xv r.xh r.xo r.xc r.dq 6)) C 25 0 (Int32.toNatClampNeg qa) rfl rfl (rq_nat hk1 (by decide)) (by first | omega | exact slN_lt _ (by omega)) (by decide) dX6_demand_19 ?_
  exact x_iret C hr (nle rfl) (nle rfl) dX6_demand_20 ⟨(by simp only [er_X6_demand, if_pos hk1]), (by first | (simp only [sp_X6_demand, if_pos hk1]; done) | (simp only [sp_X6_demand, if_pos hk1]; rfl)), rfl⟩
def sp_X6_aim (r : xR) (qa : Int32) : Int32 := (sp_X3_limited r.vl r.vu (Int32.toNatClampNeg qa) ((r.vn (Int32.toNatClampNeg qa)) + ((r.vd (Int32.toNatClampNeg qa)) * ((sp_cdm r.kp r.ke r.kr r.kt r.kh r.kc r.xn r.xs r.xv r.xh r.xo r.xc r.dq 6) (Int32.toNatClampNeg qa)))))
def er_X6_aim (qa : Int32) : Option String := (if (¬ qa < 0 ∧ qa < 6) then none else some xIO)
set_option maxRecDepth 100000 in
set_option maxHeartbeats 1000000 in
theorem k_X6_aim (l : Launch) (g : xGt) (ap ad : Nat → Nat) (r : xR) (po : Int32) (pn : Int32) (pl : Int32) (tx : Nat → Int32) (rp : Int32) (rl : Int32) (rs : Int32) (rm : Int32) (rn : Int32) (rz : Int32) (sv : xPl) (mm : xPl) (qa : Int32) (hc : clO r po pn) : xM l g.1 (xT g) yX6_aim (ws_ yX6_aim cX6_aim 2 (some .int)) (xRm 7 114 1 6) 1 6 [.ref (ap 0), .int qa] (wCl g ap ad r po pn pl tx rp rl rs rm rn rz sv mm) (fun r9 w9 => (er_X6_aim qa) = none ∧ r9 = some (.int (sp_X6_aim r qa)) ∧ w9 = (wCl g ap ad (r.set_dq (sp_cdm r.kp r.ke r.kr r.kt r.kh r.kc r.xn r.xs r.xv r.xh r.xo r.xc r.dq 6)) po pn pl tx rp rl rs rm rn rz sv mm)) (fun E w9 => (er_X6_aim qa) = some E ∧ w9 = (wCl g ap ad r po pn pl tx rp rl rs rm rn rz sv mm)) := by
  have h12 := hc.1.2.2.1
  refine x_start (own := RX6) (nm := "aim") rfl rfl (by decide +kernel) rfl (nle rfl) (fun p e σ m args below meth c A C hno hr => ?_)
  refine x_lve (lv' := [(0, .ref (ap 0)), (1, .int qa)]) rfl ?_
  refine x_ws (ws' := (wPo g ap ad po pn pl ++ (wS0 g ad ++ (wSk g ad r.kp r.ke r.kr r.kt r.kh r.kc ++ (wMx g ad r.xn r.xs r.xv r.xh r.xo r.xc ++ (wSv g ad r.vd r.vn r.vl r.vu r.vs r.vm r.vp r.vt r.va r.vw ++ (wLk g ad r.jd r.jb r.jc r.js r.jl r.jx r.ji r.jf r.jn ++ (wDm g ad r.dq ++ (wPq g ap (adr sv) (adr mm) tx ++ (wRd g (ap 4) rp rl rs rm rn rz ++ (wPl g sv 6 ++ wPl g mm 2))))))))))) rfl ?_
  refine x_iload_n C 1 rfl rfl dX6_aim_0 ?_
  refine x_RS [.int qa] [] C (k_X6_requireServo l g qa) yS_X6_requireServo wML_X6_77 rfl rfl (nle rfl) (nle rfl) (nle rfl) (nle rfl) (nle rfl) dX6_aim_1 (fun hk1 => ?_) (fun hk1 => ?_)
  · exact x_out C hno (nle rfl) (nle rfl) ⟨(by simp only [er_X6_aim, if_neg hk1]), rfl⟩
  refine x_aload_n C 0 rfl rfl dX6_aim_4 ?_
  refine x_get C 0 6 0 rfl rfl wLy_X6 wFL_X6_10 rfl (by decide) rfl dX6_aim_5 ?_
  refine x_GV (w1 := (List.take 1 (wPo g ap ad po pn pl ++ (wS0 g ad ++ (wSk g ad r.kp r.ke r.kr r.kt r.kh r.kc ++ (wMx g ad r.xn r.xs r.xv r.xh r.xo r.xc ++ (wSv g ad r.vd r.vn r.vl r.vu r.vs r.vm r.vp r.vt r.va r.vw ++ (wLk g ad r.jd r.jb r.jc r.js r.jl r.jx r.ji r.jf r.jn ++ (wDm g ad r.dq ++ (wPq g ap (adr sv) (adr mm) tx ++ (wRd g (ap 4) rp rl rs rm rn rz ++ (wPl g sv 6 ++ wPl g mm 2)))))))))))) (wc := _) (w2 := (List.drop 26 (wPo g ap ad po pn pl ++ (wS0 g ad ++ (wSk g ad r.kp r.ke r.kr r.kt r.kh r.kc ++ (wMx g ad r.xn r.xs r.xv r.xh r.xo r.xc ++ (wSv g ad r.vd r.vn r.vl r.vu r.vs r.vm r.vp r.vt r.va r.vw ++ (wLk g ad r.jd r.jb r.jc r.js r.jl r.jx r.ji r.jf r.jn ++ (wDm g ad r.dq ++ (wPq g ap (adr sv) (adr mm) tx ++ (wRd g (ap 4) rp rl rs rm rn rz ++ (wPl g sv 6 ++ wPl g mm 2)))))))))))) [] [] (wPo g ap ad po pn pl ++ (wS0 g ad ++ (wSk g ad r.kp r.ke r.kr r.kt r.kh r.kc ++ (wMx g ad r.xn r.xs r.xv r.xh r.xo r.xc ++ (wSv g ad r.vd r.vn r.vl r.vu r.vs r.vm r.vp r.vt r.va r.vw ++ (wLk g ad r.jd r.jb r.jc r.js r.jl r.jx r.ji r.jf r.jn ++ (wDm g ad (sp_cdm r.kp r.ke r.kr r.kt r.kh r.kc r.xn r.xs r.xv r.xh r.xo r.xc r.dq 6) ++ (wPq g ap (adr sv) (adr mm) tx ++ (wRd g (ap 4) rp rl rs rm rn rz ++ (wPl g sv 6 ++ wPl g mm 2)))))))))) C (k_X4_computeDemands l g ad r.kp r.ke r.kr r.kt r.kh r.kc r.xn r.xs r.xv r.xh r.xo r.xc r.vd r.vn r.vl r.vu r.vs r.vm r.vp r.vt r.va r.vw r.jd r.jb r.jc r.js r.jl r.jx r.ji r.jf r.jn r.dq hc.1) rfl yV_X4_computeDemands wML_X6_121 rfl 1 rfl rfl rfl rfl (nle rfl) (nle rfl) (nle rfl) (nle rfl) (nle rfl) dX6_aim_8 ?_
  refine x_aload_n C 0 rfl rfl dX6_aim_11 ?_
  refine x_get C 0 6 0 rfl rfl wLy_X6 wFL_X6_10 rfl (by decide) rfl dX6_aim_12 ?_
  have hk1l := rq_lt hk1 (show (6 : Int32) = nI 6 from rfl) (by decide)
  refine x_iload_n C 1 rfl rfl dX6_aim_15 ?_
  refine x_FV (w1 := (List.take 1 (wPo g ap ad po pn pl ++ (wS0 g ad ++ (wSk g ad r.kp r.ke r.kr r.kt r.kh r.kc ++ (wMx g ad r.xn r.xs r.xv r.xh r.xo r.xc ++ (wSv g ad r.vd r.vn r.vl r.vu r.vs r.vm r.vp r.vt r.va r.vw ++ (wLk g ad r.jd r.jb r.jc r.js r.jl r.jx r.ji r.jf r.jn ++ (wDm g ad (sp_cdm r.kp r.ke r.kr r.kt r.kh r.kc r.xn r.xs r.xv r.xh r.xo r.xc r.dq 6) ++ (wPq g ap (adr sv) (adr mm) tx ++ (wRd g (ap 4) rp rl rs rm rn rz ++ (wPl g sv 6 ++ wPl g mm 2)))))))))))) (wc := _) (w2 := (List.drop 26 (wPo g ap ad po pn pl ++ (wS0 g ad ++ (wSk g ad r.kp r.ke r.kr r.kt r.kh r.kc ++ (wMx g ad r.xn r.xs r.xv r.xh r.xo r.xc ++ (wSv g ad r.vd r.vn r.vl r.vu r.vs r.vm r.vp r.vt r.va r.vw ++ (wLk g ad r.jd r.jb r.jc r.js r.jl r.jx r.ji r.jf r.jn ++ (wDm g ad (sp_cdm r.kp r.ke r.kr r.kt r.kh r.kc r.xn r.xs r.xv r.xh r.xo r.xc r.dq 6) ++ (wPq g ap (adr sv) (adr mm) tx ++ (wRd g (ap 4) rp rl rs rm rn rz ++ (wPl g sv 6 ++ wPl g mm 2)))))))))))) [.int qa] [] (wPo g ap ad po pn pl ++ (wS0 g ad ++ (wSk g ad r.kp r.ke r.kr r.kt r.kh r.kc ++ (wMx g ad r.xn r.xs r.xv r.xh r.xo r.xc ++ (wSv g ad r.vd r.vn r.vl r.vu r.vs r.vm r.vp r.vt r.va r.vw ++ (wLk g ad r.jd r.jb r.jc r.js r.jl r.jx r.ji r.jf r.jn ++ (wDm g ad (sp_cdm r.kp r.ke r.kr r.kt r.kh r.kc r.xn r.xs r.xv r.xh r.xo r.xc r.dq 6) ++ (wPq g ap (adr sv) (adr mm) tx ++ (wRd g (ap 4) rp rl rs rm rn rz ++ (wPl g sv 6 ++ wPl g mm 2)))))))))) C (k_X4_aimOf l g ad r.kp r.ke r.kr r.kt r.kh r.kc r.xn r.xs r.xv r.xh r.xo r.xc r.vd r.vn r.vl r.vu r.vs r.vm r.vp r.vt r.va r.vw r.jd r.jb r.jc r.js r.jl r.jx r.ji r.jf r.jn (sp_cdm r.kp r.ke r.kr r.kt r.kh r.kc r.xn r.xs r.xv r.xh r.xo r.xc r.dq 6) qa (Int32.toNatClampNeg qa) (rq_nat hk1 (by decide)) (by omega)) rfl yV_X4_aimOf wML_X6_161 rfl 1 rfl rfl rfl rfl (nle rfl) (nle rfl) (nle rfl) (nle rfl) (nle rfl) dX6_aim_16 ?_
  exact x_iret C hr (nle rfl) (nle rfl) dX6_aim_19 ⟨(by simp only [er_X6_aim, if_pos hk1]), (by first | (simp only [sp_X6_aim, if_pos hk1]; done) | (simp only [sp_X6_aim, if_pos hk1]; rfl)), rfl⟩
def sp_X6_excess (r : xR) (qa : Int32) : Int32 := (((r.vn (Int32.toNatClampNeg qa)) + ((r.vd (Int32.toNatClampNeg qa)) * ((sp_cdm r.kp r.ke r.kr r.kt r.kh r.kc r.xn r.xs r.xv r.xh r.xo r.xc r.dq 6) (Int32.toNatClampNeg qa)))) - (sp_X3_limited r.vl r.vu (Int32.toNatClampNeg qa) ((r.vn (Int32.toNatClampNeg qa)) + ((r.vd (Int32.toNatClampNeg qa)) * ((sp_cdm r.kp r.ke r.kr r.kt r.kh r.kc r.xn r.xs r.xv r.xh r.xo r.xc r.dq 6) (Int32.toNatClampNeg qa))))))
def er_X6_excess (qa : Int32) : Option String := (if (¬ qa < 0 ∧ qa < 6) then none else some xIO)
set_option maxRecDepth 100000 in
set_option maxHeartbeats 1000000 in
theorem k_X6_excess (l : Launch) (g : xGt) (ap ad : Nat → Nat) (r : xR) (po : Int32) (pn : Int32) (pl : Int32) (tx : Nat → Int32) (rp : Int32) (rl : Int32) (rs : Int32) (rm : Int32) (rn : Int32) (rz : Int32) (sv : xPl) (mm : xPl) (qa : Int32) (hc : clO r po pn) : xM l g.1 (xT g) yX6_excess (ws_ yX6_excess cX6_excess 2 (some .int)) (xRm 7 114 1 6) 1 6 [.ref (ap 0), .int qa] (wCl g ap ad r po pn pl tx rp rl rs rm rn rz sv mm) (fun r9 w9 => (er_X6_excess qa) = none ∧ r9 = some (.int (sp_X6_excess r qa)) ∧ w9 = (wCl g ap ad (r.set_dq (sp_cdm r.kp r.ke r.kr r.kt r.kh r.kc r.xn r.xs r.xv r.xh r.xo r.xc r.dq 6)) po pn pl tx rp rl rs rm rn rz sv mm)) (fun E w9 => (er_X6_excess qa) = some E ∧ w9 = (wCl g ap ad r po pn pl tx rp rl rs rm rn rz sv mm)) := by
  have h12 := hc.1.2.2.1
  refine x_start (own := RX6) (nm := "excess") rfl rfl (by decide +kernel) rfl (nle rfl) (fun p e σ m args below meth c A C hno hr => ?_)
  refine x_lve (lv' := [(0, .ref (ap 0)), (1, .int qa)]) rfl ?_
  refine x_ws (ws' := (wPo g ap ad po pn pl ++ (wS0 g ad ++ (wSk g ad r.kp r.ke r.kr r.kt r.kh r.kc ++ (wMx g ad r.xn r.xs r.xv r.xh r.xo r.xc ++ (wSv g ad r.vd r.vn r.vl r.vu r.vs r.vm r.vp r.vt r.va r.vw ++ (wLk g ad r.jd r.jb r.jc r.js r.jl r.jx r.ji r.jf r.jn ++ (wDm g ad r.dq ++ (wPq g ap (adr sv) (adr mm) tx ++ (wRd g (ap 4) rp rl rs rm rn rz ++ (wPl g sv 6 ++ wPl g mm 2))))))))))) rfl ?_
  refine x_iload_n C 1 rfl rfl dX6_excess_0 ?_
  refine x_RS [.int qa] [] C (k_X6_requireServo l g qa) yS_X6_requireServo wML_X6_77 rfl rfl (nle rfl) (nle rfl) (nle rfl) (nle rfl) (nle rfl) dX6_excess_1 (fun hk1 => ?_) (fun hk1 => ?_)
  · exact x_out C hno (nle rfl) (nle rfl) ⟨(by simp only [er_X6_excess, if_neg hk1]), rfl⟩
  refine x_aload_n C 0 rfl rfl dX6_excess_4 ?_
  refine x_get C 0 6 0 rfl rfl wLy_X6 wFL_X6_10 rfl (by decide) rfl dX6_excess_5 ?_
  refine x_GV (w1 := (List.take 1 (wPo g ap ad po pn pl ++ (wS0 g ad ++ (wSk g ad r.kp r.ke r.kr r.kt r.kh r.kc ++ (wMx g ad r.xn r.xs r.xv r.xh r.xo r.xc ++ (wSv g ad r.vd r.vn r.vl r.vu r.vs r.vm r.vp r.vt r.va r.vw ++ (wLk g ad r.jd r.jb r.jc r.js r.jl r.jx r.ji r.jf r.jn ++ (wDm g ad r.dq ++ (wPq g ap (adr sv) (adr mm) tx ++ (wRd g (ap 4) rp rl rs rm rn rz ++ (wPl g sv 6 ++ wPl g mm 2)))))))))))) (wc := _) (w2 := (List.drop 26 (wPo g ap ad po pn pl ++ (wS0 g ad ++ (wSk g ad r.kp r.ke r.kr r.kt r.kh r.kc ++ (wMx g ad r.xn r.xs r.xv r.xh r.xo r.xc ++ (wSv g ad r.vd r.vn r.vl r.vu r.vs r.vm r.vp r.vt r.va r.vw ++ (wLk g ad r.jd r.jb r.jc r.js r.jl r.jx r.ji r.jf r.jn ++ (wDm g ad r.dq ++ (wPq g ap (adr sv) (adr mm) tx ++ (wRd g (ap 4) rp rl rs rm rn rz ++ (wPl g sv 6 ++ wPl g mm 2)))))))))))) [] [] (wPo g ap ad po pn pl ++ (wS0 g ad ++ (wSk g ad r.kp r.ke r.kr r.kt r.kh r.kc ++ (wMx g ad r.xn r.xs r.xv r.xh r.xo r.xc ++ (wSv g ad r.vd r.vn r.vl r.vu r.vs r.vm r.vp r.vt r.va r.vw ++ (wLk g ad r.jd r.jb r.jc r.js r.jl r.jx r.ji r.jf r.jn ++ (wDm g ad (sp_cdm r.kp r.ke r.kr r.kt r.kh r.kc r.xn r.xs r.xv r.xh r.xo r.xc r.dq 6) ++ (wPq g ap (adr sv) (adr mm) tx ++ (wRd g (ap 4) rp rl rs rm rn rz ++ (wPl g sv 6 ++ wPl g mm 2)))))))))) C (k_X4_computeDemands l g ad r.kp r.ke r.kr r.kt r.kh r.kc r.xn r.xs r.xv r.xh r.xo r.xc r.vd r.vn r.vl r.vu r.vs r.vm r.vp r.vt r.va r.vw r.jd r.jb r.jc r.js r.jl r.jx r.ji r.jf r.jn r.dq hc.1) rfl yV_X4_computeDemands wML_X6_121 rfl 1 rfl rfl rfl rfl (nle rfl) (nle rfl) (nle rfl) (nle rfl) (nle rfl) dX6_excess_8 ?_
  refine x_aload_n C 0 rfl rfl dX6_excess_11 ?_
  refine x_get C 0 6 0 rfl rfl wLy_X6 wFL_X6_10 rfl (by decide) rfl dX6_excess_12 ?_
  have hk1l := rq_lt hk1 (show (6 : Int32) = nI 6 from rfl) (by decide)
  refine x_iload_n C 1 rfl rfl dX6_excess_15 ?_
  refine x_FV (w1 := (List.take 1 (wPo g ap ad po pn pl ++ (wS0 g ad ++ (wSk g ad r.kp r.ke r.kr r.kt r.kh r.kc ++ (wMx g ad r.xn r.xs r.xv r.xh r.xo r.xc ++ (wSv g ad r.vd r.vn r.vl r.vu r.vs r.vm r.vp r.vt r.va r.vw ++ (wLk g ad r.jd r.jb r.jc r.js r.jl r.jx r.ji r.jf r.jn ++ (wDm g ad (sp_cdm r.kp r.ke r.kr r.kt r.kh r.kc r.xn r.xs r.xv r.xh r.xo r.xc r.dq 6) ++ (wPq g ap (adr sv) (adr mm) tx ++ (wRd g (ap 4) rp rl rs rm rn rz ++ (wPl g sv 6 ++ wPl g mm 2)))))))))))) (wc := _) (w2 := (List.drop 26 (wPo g ap ad po pn pl ++ (wS0 g ad ++ (wSk g ad r.kp r.ke r.kr r.kt r.kh r.kc ++ (wMx g ad r.xn r.xs r.xv r.xh r.xo r.xc ++ (wSv g ad r.vd r.vn r.vl r.vu r.vs r.vm r.vp r.vt r.va r.vw ++ (wLk g ad r.jd r.jb r.jc r.js r.jl r.jx r.ji r.jf r.jn ++ (wDm g ad (sp_cdm r.kp r.ke r.kr r.kt r.kh r.kc r.xn r.xs r.xv r.xh r.xo r.xc r.dq 6) ++ (wPq g ap (adr sv) (adr mm) tx ++ (wRd g (ap 4) rp rl rs rm rn rz ++ (wPl g sv 6 ++ wPl g mm 2)))))))))))) [.int qa] [] (wPo g ap ad po pn pl ++ (wS0 g ad ++ (wSk g ad r.kp r.ke r.kr r.kt r.kh r.kc ++ (wMx g ad r.xn r.xs r.xv r.xh r.xo r.xc ++ (wSv g ad r.vd r.vn r.vl r.vu r.vs r.vm r.vp r.vt r.va r.vw ++ (wLk g ad r.jd r.jb r.jc r.js r.jl r.jx r.ji r.jf r.jn ++ (wDm g ad (sp_cdm r.kp r.ke r.kr r.kt r.kh r.kc r.xn r.xs r.xv r.xh r.xo r.xc r.dq 6) ++ (wPq g ap (adr sv) (adr mm) tx ++ (wRd g (ap 4) rp rl rs rm rn rz ++ (wPl g sv 6 ++ wPl g mm 2)))))))))) C (k_X4_rawAimOf l g ad r.kp r.ke r.kr r.kt r.kh r.kc r.xn r.xs r.xv r.xh r.xo r.xc r.vd r.vn r.vl r.vu r.vs r.vm r.vp r.vt r.va r.vw r.jd r.jb r.jc r.js r.jl r.jx r.ji r.jf r.jn (sp_cdm r.kp r.ke r.kr r.kt r.kh r.kc r.xn r.xs r.xv r.xh r.xo r.xc r.dq 6) qa (Int32.toNatClampNeg qa) (rq_nat hk1 (by decide)) (by omega)) rfl yV_X4_rawAimOf wML_X6_164 rfl 1 rfl rfl rfl rfl (nle rfl) (nle rfl) (nle rfl) (nle rfl) (nle rfl) dX6_excess_16 ?_
  refine x_aload_n C 0 rfl rfl dX6_excess_19 ?_
  refine x_get C 0 6 0 rfl rfl wLy_X6 wFL_X6_10 rfl (by decide) rfl dX6_excess_20 ?_
  have hk1l := rq_lt hk1 (show (6 : Int32) = nI 6 from rfl) (by decide)
  refine x_iload_n C 1 rfl rfl dX6_excess_23 ?_
  refine x_FV (w1 := (List.take 1 (wPo g ap ad po pn pl ++ (wS0 g ad ++ (wSk g ad r.kp r.ke r.kr r.kt r.kh r.kc ++ (wMx g ad r.xn r.xs r.xv r.xh r.xo r.xc ++ (wSv g ad r.vd r.vn r.vl r.vu r.vs r.vm r.vp r.vt r.va r.vw ++ (wLk g ad r.jd r.jb r.jc r.js r.jl r.jx r.ji r.jf r.jn ++ (wDm g ad (sp_cdm r.kp r.ke r.kr r.kt r.kh r.kc r.xn r.xs r.xv r.xh r.xo r.xc r.dq 6) ++ (wPq g ap (adr sv) (adr mm) tx ++ (wRd g (ap 4) rp rl rs rm rn rz ++ (wPl g sv 6 ++ wPl g mm 2)))))))))))) (wc := _) (w2 := (List.drop 26 (wPo g ap ad po pn pl ++ (wS0 g ad ++ (wSk g ad r.kp r.ke r.kr r.kt r.kh r.kc ++ (wMx g ad r.xn r.xs r.xv r.xh r.xo r.xc ++ (wSv g ad r.vd r.vn r.vl r.vu r.vs r.vm r.vp r.vt r.va r.vw ++ (wLk g ad r.jd r.jb r.jc r.js r.jl r.jx r.ji r.jf r.jn ++ (wDm g ad (sp_cdm r.kp r.ke r.kr r.kt r.kh r.kc r.xn r.xs r.xv r.xh r.xo r.xc r.dq 6) ++ (wPq g ap (adr sv) (adr mm) tx ++ (wRd g (ap 4) rp rl rs rm rn rz ++ (wPl g sv 6 ++ wPl g mm 2)))))))))))) [.int qa] [.int ((r.vn (Int32.toNatClampNeg qa)) + ((r.vd (Int32.toNatClampNeg qa)) * ((sp_cdm r.kp r.ke r.kr r.kt r.kh r.kc r.xn r.xs r.xv r.xh r.xo r.xc r.dq 6) (Int32.toNatClampNeg qa))))] (wPo g ap ad po pn pl ++ (wS0 g ad ++ (wSk g ad r.kp r.ke r.kr r.kt r.kh r.kc ++ (wMx g ad r.xn r.xs r.xv r.xh r.xo r.xc ++ (wSv g ad r.vd r.vn r.vl r.vu r.vs r.vm r.vp r.vt r.va r.vw ++ (wLk g ad r.jd r.jb r.jc r.js r.jl r.jx r.ji r.jf r.jn ++ (wDm g ad (sp_cdm r.kp r.ke r.kr r.kt r.kh r.kc r.xn r.xs r.xv r.xh r.xo r.xc r.dq 6) ++ (wPq g ap (adr sv) (adr mm) tx ++ (wRd g (ap 4) rp rl rs rm rn rz ++ (wPl g sv 6 ++ wPl g mm 2)))))))))) C (k_X4_aimOf l g ad r.kp r.ke r.kr r.kt r.kh r.kc r.xn r.xs r.xv r.xh r.xo r.xc r.vd r.vn r.vl r.vu r.vs r.vm r.vp r.vt r.va r.vw r.jd r.jb r.jc r.js r.jl r.jx r.ji r.jf r.jn (sp_cdm r.kp r.ke r.kr r.kt r.kh r.kc r.xn r.xs r.xv r.xh r.xo r.xc r.dq 6) qa (Int32.toNatClampNeg qa) (rq_nat hk1 (by decide)) (by omega)) rfl yV_X4_aimOf wML_X6_161 rfl 1 rfl rfl rfl rfl (nle rfl) (nle rfl) (nle rfl) (nle rfl) (nle rfl) dX6_excess_24 ?_
  refine x_isub C dX6_excess_27 ?_
  exact x_iret C hr (nle rfl) (nle rfl) dX6_excess_28 ⟨(by simp only [er_X6_excess, if_pos hk1]), (by first | (simp only [sp_X6_excess, if_pos hk1]; done) | (simp only [sp_X6_excess, if_pos hk1]; rfl)), rfl⟩
def er_X6_target (qa : Int32) : Option String := (if (¬ qa < 0 ∧ qa < 6) then none else some xIO)
set_option maxRecDepth 100000 in
set_option maxHeartbeats 1000000 in
theorem k_X6_target (l : Launch) (g : xGt) (ap ad : Nat → Nat) (r : xR) (po : Int32) (pn : Int32) (pl : Int32) (tx : Nat → Int32) (rp : Int32) (rl : Int32) (rs : Int32) (rm : Int32) (rn : Int32) (rz : Int32) (sv : xPl) (mm : xPl) (qa : Int32) (hc : clO r po pn) : xM l g.1 (xT g) yX6_target (ws_ yX6_target cX6_target 2 (some .int)) (xRm 7 114 1 6) 1 6 [.ref (ap 0), .int qa] (wCl g ap ad r po pn pl tx rp rl rs rm rn rz sv mm) (fun r9 w9 => (er_X6_target qa) = none ∧ r9 = some (.int (r.vt (Int32.toNatClampNeg qa))) ∧ w9 = (wCl g ap ad r po pn pl tx rp rl rs rm rn rz sv mm)) (fun E w9 => (er_X6_target qa) = some E ∧ w9 = (wCl g ap ad r po pn pl tx rp rl rs rm rn rz sv mm)) := by
  have h12 := hc.1.2.2.1
  refine x_start (own := RX6) (nm := "target") rfl rfl (by decide +kernel) rfl (nle rfl) (fun p e σ m args below meth c A C hno hr => ?_)
  refine x_lve (lv' := [(0, .ref (ap 0)), (1, .int qa)]) rfl ?_
  refine x_ws (ws' := (wPo g ap ad po pn pl ++ (wS0 g ad ++ (wSk g ad r.kp r.ke r.kr r.kt r.kh r.kc ++ (wMx g ad r.xn r.xs r.xv r.xh r.xo r.xc ++ (wSv g ad r.vd r.vn r.vl r.vu r.vs r.vm r.vp r.vt r.va r.vw ++ (wLk g ad r.jd r.jb r.jc r.js r.jl r.jx r.ji r.jf r.jn ++ (wDm g ad r.dq ++ (wPq g ap (adr sv) (adr mm) tx ++ (wRd g (ap 4) rp rl rs rm rn rz ++ (wPl g sv 6 ++ wPl g mm 2))))))))))) rfl ?_
  refine x_iload_n C 1 rfl rfl dX6_target_0 ?_
  refine x_RS [.int qa] [] C (k_X6_requireServo l g qa) yS_X6_requireServo wML_X6_77 rfl rfl (nle rfl) (nle rfl) (nle rfl) (nle rfl) (nle rfl) dX6_target_1 (fun hk1 => ?_) (fun hk1 => ?_)
  · exact x_out C hno (nle rfl) (nle rfl) ⟨(by simp only [er_X6_target, if_neg hk1]), rfl⟩
  refine x_aload_n C 0 rfl rfl dX6_target_4 ?_
  refine x_get C 0 6 0 rfl rfl wLy_X6 wFL_X6_10 rfl (by decide) rfl dX6_target_5 ?_
  refine x_get C 1 4 2 rfl rfl wLy_X4 wFL_X6_131 rfl (by decide) rfl dX6_target_8 ?_
  refine x_get C 13 3 7 rfl rfl wLy_X3 wFL_X6_167 rfl (by decide) rfl dX6_target_11 ?_
  have hk1l := rq_lt hk1 (show (6 : Int32) = nI 6 from rfl) (by decide)
  refine x_iload_n C 1 rfl rfl dX6_target_14 ?_
  refine x_ialdN (f := r.vt) C 21 0 (Int32.toNatClampNeg qa) rfl rfl (rq_nat hk1 (by decide)) (by first | omega | exact slN_lt _ (by omega)) (by decide) dX6_target_15 ?_
  exact x_iret C hr (nle rfl) (nle rfl) dX6_target_16 ⟨(by simp only [er_X6_target, if_pos hk1]), rfl, rfl⟩
def er_X6_servoPosition (qa : Int32) : Option String := (if (¬ qa < 0 ∧ qa < 6) then none else some xIO)
set_option maxRecDepth 100000 in
set_option maxHeartbeats 1000000 in
theorem k_X6_servoPosition (l : Launch) (g : xGt) (ap ad : Nat → Nat) (r : xR) (po : Int32) (pn : Int32) (pl : Int32) (tx : Nat → Int32) (rp : Int32) (rl : Int32) (rs : Int32) (rm : Int32) (rn : Int32) (rz : Int32) (sv : xPl) (mm : xPl) (qa : Int32) (hc : clO r po pn) : xM l g.1 (xT g) yX6_servoPosition (ws_ yX6_servoPosition cX6_servoPosition 2 (some .int)) (xRm 7 114 1 6) 1 6 [.ref (ap 0), .int qa] (wCl g ap ad r po pn pl tx rp rl rs rm rn rz sv mm) (fun r9 w9 => (er_X6_servoPosition qa) = none ∧ r9 = some (.int (r.va (Int32.toNatClampNeg qa))) ∧ w9 = (wCl g ap ad r po pn pl tx rp rl rs rm rn rz sv mm)) (fun E w9 => (er_X6_servoPosition qa) = some E ∧ w9 = (wCl g ap ad r po pn pl tx rp rl rs rm rn rz sv mm)) := by
  have h12 := hc.1.2.2.1
  refine x_start (own := RX6) (nm := "servoPosition") rfl rfl (by decide +kernel) rfl (nle rfl) (fun p e σ m args below meth c A C hno hr => ?_)
  refine x_lve (lv' := [(0, .ref (ap 0)), (1, .int qa)]) rfl ?_
  refine x_ws (ws' := (wPo g ap ad po pn pl ++ (wS0 g ad ++ (wSk g ad r.kp r.ke r.kr r.kt r.kh r.kc ++ (wMx g ad r.xn r.xs r.xv r.xh r.xo r.xc ++ (wSv g ad r.vd r.vn r.vl r.vu r.vs r.vm r.vp r.vt r.va r.vw ++ (wLk g ad r.jd r.jb r.jc r.js r.jl r.jx r.ji r.jf r.jn ++ (wDm g ad r.dq ++ (wPq g ap (adr sv) (adr mm) tx ++ (wRd g (ap 4) rp rl rs rm rn rz ++ (wPl g sv 6 ++ wPl g mm 2))))))))))) rfl ?_
  refine x_iload_n C 1 rfl rfl dX6_servoPosition_0 ?_
  refine x_RS [.int qa] [] C (k_X6_requireServo l g qa) yS_X6_requireServo wML_X6_77 rfl rfl (nle rfl) (nle rfl) (nle rfl) (nle rfl) (nle rfl) dX6_servoPosition_1 (fun hk1 => ?_) (fun hk1 => ?_)
  · exact x_out C hno (nle rfl) (nle rfl) ⟨(by simp only [er_X6_servoPosition, if_neg hk1]), rfl⟩
  refine x_aload_n C 0 rfl rfl dX6_servoPosition_4 ?_
  refine x_get C 0 6 0 rfl rfl wLy_X6 wFL_X6_10 rfl (by decide) rfl dX6_servoPosition_5 ?_
  refine x_get C 1 4 2 rfl rfl wLy_X4 wFL_X6_131 rfl (by decide) rfl dX6_servoPosition_8 ?_
  refine x_get C 13 3 8 rfl rfl wLy_X3 wFL_X6_170 rfl (by decide) rfl dX6_servoPosition_11 ?_
  have hk1l := rq_lt hk1 (show (6 : Int32) = nI 6 from rfl) (by decide)
  refine x_iload_n C 1 rfl rfl dX6_servoPosition_14 ?_
  refine x_ialdN (f := r.va) C 22 0 (Int32.toNatClampNeg qa) rfl rfl (rq_nat hk1 (by decide)) (by first | omega | exact slN_lt _ (by omega)) (by decide) dX6_servoPosition_15 ?_
  exact x_iret C hr (nle rfl) (nle rfl) dX6_servoPosition_16 ⟨(by simp only [er_X6_servoPosition, if_pos hk1]), rfl, rfl⟩
def er_X6_wear (qa : Int32) : Option String := (if (¬ qa < 0 ∧ qa < 6) then none else some xIO)
set_option maxRecDepth 100000 in
set_option maxHeartbeats 1000000 in
theorem k_X6_wear (l : Launch) (g : xGt) (ap ad : Nat → Nat) (r : xR) (po : Int32) (pn : Int32) (pl : Int32) (tx : Nat → Int32) (rp : Int32) (rl : Int32) (rs : Int32) (rm : Int32) (rn : Int32) (rz : Int32) (sv : xPl) (mm : xPl) (qa : Int32) (hc : clO r po pn) : xM l g.1 (xT g) yX6_wear (ws_ yX6_wear cX6_wear 2 (some .int)) (xRm 7 114 1 6) 1 6 [.ref (ap 0), .int qa] (wCl g ap ad r po pn pl tx rp rl rs rm rn rz sv mm) (fun r9 w9 => (er_X6_wear qa) = none ∧ r9 = some (.int (r.vw (Int32.toNatClampNeg qa))) ∧ w9 = (wCl g ap ad r po pn pl tx rp rl rs rm rn rz sv mm)) (fun E w9 => (er_X6_wear qa) = some E ∧ w9 = (wCl g ap ad r po pn pl tx rp rl rs rm rn rz sv mm)) := by
  have h12 := hc.1.2.2.1
  refine x_start (own := RX6) (nm := "wear") rfl rfl (by decide +kernel) rfl (nle rfl) (fun p e σ m args below meth c A C hno hr => ?_)
  refine x_lve (lv' := [(0, .ref (ap 0)), (1, .int qa)]) rfl ?_
  refine x_ws (ws' := (wPo g ap ad po pn pl ++ (wS0 g ad ++ (wSk g ad r.kp r.ke r.kr r.kt r.kh r.kc ++ (wMx g ad r.xn r.xs r.xv r.xh r.xo r.xc ++ (wSv g ad r.vd r.vn r.vl r.vu r.vs r.vm r.vp r.vt r.va r.vw ++ (wLk g ad r.jd r.jb r.jc r.js r.jl r.jx r.ji r.jf r.jn ++ (wDm g ad r.dq ++ (wPq g ap (adr sv) (adr mm) tx ++ (wRd g (ap 4) rp rl rs rm rn rz ++ (wPl g sv 6 ++ wPl g mm 2))))))))))) rfl ?_
  refine x_iload_n C 1 rfl rfl dX6_wear_0 ?_
  refine x_RS [.int qa] [] C (k_X6_requireServo l g qa) yS_X6_requireServo wML_X6_77 rfl rfl (nle rfl) (nle rfl) (nle rfl) (nle rfl) (nle rfl) dX6_wear_1 (fun hk1 => ?_) (fun hk1 => ?_)
  · exact x_out C hno (nle rfl) (nle rfl) ⟨(by simp only [er_X6_wear, if_neg hk1]), rfl⟩
  refine x_aload_n C 0 rfl rfl dX6_wear_4 ?_
  refine x_get C 0 6 0 rfl rfl wLy_X6 wFL_X6_10 rfl (by decide) rfl dX6_wear_5 ?_
  refine x_get C 1 4 2 rfl rfl wLy_X4 wFL_X6_131 rfl (by decide) rfl dX6_wear_8 ?_
  refine x_get C 13 3 9 rfl rfl wLy_X3 wFL_X6_171 rfl (by decide) rfl dX6_wear_11 ?_
  have hk1l := rq_lt hk1 (show (6 : Int32) = nI 6 from rfl) (by decide)
  refine x_iload_n C 1 rfl rfl dX6_wear_14 ?_
  refine x_ialdN (f := r.vw) C 23 0 (Int32.toNatClampNeg qa) rfl rfl (rq_nat hk1 (by decide)) (by first | omega | exact slN_lt _ (by omega)) (by decide) dX6_wear_15 ?_
  exact x_iret C hr (nle rfl) (nle rfl) dX6_wear_16 ⟨(by simp only [er_X6_wear, if_pos hk1]), rfl, rfl⟩
def sp_X6_send (r : xR) (qa : Int32) : Int32 := (sp_X4_transmit r.kp r.ke r.kr r.kt r.kh r.kc r.xn r.xs r.xv r.xh r.xo r.xc r.vd r.vn r.vl r.vu r.vs r.vm r.vp r.vt r.va r.vw r.jd r.jb r.js r.jl r.jx r.ji r.jf r.jn r.dq (Int32.toNatClampNeg qa) 1)
def sp_X6_send_vt (r : xR) (qa : Int32) : Nat → Int32 := (sp_X4_transmit_vt r.kp r.ke r.kr r.kt r.kh r.kc r.xn r.xs r.xv r.xh r.xo r.xc r.vd r.vn r.vl r.vu r.vs r.vm r.vp r.vt r.va r.vw r.jd r.jb r.js r.jl r.jx r.ji r.jf r.jn r.dq (Int32.toNatClampNeg qa) 1)
def sp_X6_send_va (r : xR) (qa : Int32) : Nat → Int32 := (sp_X4_transmit_va r.kp r.ke r.kr r.kt r.kh r.kc r.xn r.xs r.xv r.xh r.xo r.xc r.vd r.vn r.vl r.vu r.vs r.vm r.vp r.vt r.va r.vw r.jd r.jb r.js r.jl r.jx r.ji r.jf r.jn r.dq (Int32.toNatClampNeg qa) 1)
def sp_X6_send_vw (r : xR) (qa : Int32) : Nat → Int32 := (sp_X4_transmit_vw r.kp r.ke r.kr r.kt r.kh r.kc r.xn r.xs r.xv r.xh r.xo r.xc r.vd r.vn r.vl r.vu r.vs r.vm r.vp r.vt r.va r.vw r.jd r.jb r.js r.jl r.jx r.ji r.jf r.jn r.dq (Int32.toNatClampNeg qa) 1)
def sp_X6_send_jb (r : xR) (qa : Int32) : Int32 := (sp_X4_transmit_jb r.kp r.ke r.kr r.kt r.kh r.kc r.xn r.xs r.xv r.xh r.xo r.xc r.vd r.vn r.vl r.vu r.vs r.vm r.vp r.vt r.va r.vw r.jd r.jb r.js r.jl r.jx r.ji r.jf r.jn r.dq (Int32.toNatClampNeg qa) 1)
def sp_X6_send_js (r : xR) (qa : Int32) : Int32 := (sp_X4_transmit_js r.kp r.ke r.kr r.kt r.kh r.kc r.xn r.xs r.xv r.xh r.xo r.xc r.vd r.vn r.vl r.vu r.vs r.vm r.vp r.vt r.va r.vw r.jd r.jb r.js r.jl r.jx r.ji r.jf r.jn r.dq (Int32.toNatClampNeg qa) 1)
def sp_X6_send_jl (r : xR) (qa : Int32) : Int32 := (sp_X4_transmit_jl r.kp r.ke r.kr r.kt r.kh r.kc r.xn r.xs r.xv r.xh r.xo r.xc r.vd r.vn r.vl r.vu r.vs r.vm r.vp r.vt r.va r.vw r.jd r.jb r.js r.jl r.jx r.ji r.jf r.jn r.dq (Int32.toNatClampNeg qa) 1)
def sp_X6_send_jx (r : xR) (qa : Int32) : Int32 := (sp_X4_transmit_jx r.kp r.ke r.kr r.kt r.kh r.kc r.xn r.xs r.xv r.xh r.xo r.xc r.vd r.vn r.vl r.vu r.vs r.vm r.vp r.vt r.va r.vw r.jd r.jb r.js r.jl r.jx r.ji r.jf r.jn r.dq (Int32.toNatClampNeg qa) 1)
def sp_X6_send_ji (r : xR) (qa : Int32) : Int32 := (sp_X4_transmit_ji r.kp r.ke r.kr r.kt r.kh r.kc r.xn r.xs r.xv r.xh r.xo r.xc r.vd r.vn r.vl r.vu r.vs r.vm r.vp r.vt r.va r.vw r.jd r.jb r.js r.jl r.jx r.ji r.jf r.jn r.dq (Int32.toNatClampNeg qa) 1)
def sp_X6_send_jf (r : xR) (qa : Int32) : Int32 := (sp_X4_transmit_jf r.kp r.ke r.kr r.kt r.kh r.kc r.xn r.xs r.xv r.xh r.xo r.xc r.vd r.vn r.vl r.vu r.vs r.vm r.vp r.vt r.va r.vw r.jd r.jb r.js r.jl r.jx r.ji r.jf r.jn r.dq (Int32.toNatClampNeg qa) 1)
def sp_X6_send_jn (r : xR) (qa : Int32) : Int32 := (sp_X4_transmit_jn r.kp r.ke r.kr r.kt r.kh r.kc r.xn r.xs r.xv r.xh r.xo r.xc r.vd r.vn r.vl r.vu r.vs r.vm r.vp r.vt r.va r.vw r.jd r.jb r.js r.jl r.jx r.ji r.jf r.jn r.dq (Int32.toNatClampNeg qa) 1)
def er_X6_send (qa : Int32) : Option String := (if (¬ qa < 1 ∧ qa ≤ 50) then none else some xIA)
set_option maxRecDepth 100000 in
set_option maxHeartbeats 1000000 in
theorem k_X6_send (l : Launch) (g : xGt) (ap ad : Nat → Nat) (r : xR) (po : Int32) (pn : Int32) (pl : Int32) (tx : Nat → Int32) (rp : Int32) (rl : Int32) (rs : Int32) (rm : Int32) (rn : Int32) (rz : Int32) (sv : xPl) (mm : xPl) (qa : Int32) (hc : clO r po pn) : xM l g.1 (xT g) yX6_send (ws_ yX6_send cX6_send 2 (some .int)) (xRm 7 131 26 192) 26 192 [.ref (ap 0), .int qa] (wCl g ap ad r po pn pl tx rp rl rs rm rn rz sv mm) (fun r9 w9 => (er_X6_send qa) = none ∧ r9 = some (.int (sp_X6_send r qa)) ∧ ∃ adn : Nat → Nat, w9 = (wCl g ap ad (xRk r.kp r.ke r.kr r.kt r.kh r.kc r.xn r.xs r.xv r.xh r.xo r.xc r.vd r.vn r.vl r.vu r.vs r.vm r.vp (sp_X6_send_vt r qa) (sp_X6_send_va r qa) (sp_X6_send_vw r qa) r.jd (sp_X6_send_jb r qa) r.jc (sp_X6_send_js r qa) (sp_X6_send_jl r qa) (sp_X6_send_jx r qa) (sp_X6_send_ji r qa) (sp_X6_send_jf r qa) (sp_X6_send_jn r qa) (sp_cdm r.kp r.ke r.kr r.kt r.kh r.kc r.xn r.xs r.xv r.xh r.xo r.xc r.dq 6)) (sp_spo2 po pn) (sp_spn2 pn) pl tx rp rl rs rm rn rz (svS sv adn r po pn) mm)) (fun E w9 => (er_X6_send qa) = some E ∧ w9 = (wCl g ap ad r po pn pl tx rp rl rs rm rn rz sv mm)) := by
  have h12 := hc.1.2.2.1
  refine x_start (own := RX6) (nm := "send") rfl rfl (by decide +kernel) rfl (nle rfl) (fun p e σ m args below meth c A C hno hr => ?_)
  refine x_lve (lv' := [(0, .ref (ap 0)), (1, .int qa)]) rfl ?_
  refine x_ws (ws' := (wPo g ap ad po pn pl ++ (wS0 g ad ++ (wSk g ad r.kp r.ke r.kr r.kt r.kh r.kc ++ (wMx g ad r.xn r.xs r.xv r.xh r.xo r.xc ++ (wSv g ad r.vd r.vn r.vl r.vu r.vs r.vm r.vp r.vt r.va r.vw ++ (wLk g ad r.jd r.jb r.jc r.js r.jl r.jx r.ji r.jf r.jn ++ (wDm g ad r.dq ++ (wPq g ap (adr sv) (adr mm) tx ++ (wRd g (ap 4) rp rl rs rm rn rz ++ (wPl g sv 6 ++ wPl g mm 2))))))))))) rfl ?_
  refine x_iload_n C 1 rfl rfl dX6_send_0 ?_
  refine x_iconst C 1 (by decide) dX6_send_1 ?_
  refine x_bipush C 50 (by decide) dX6_send_2 ?_
  refine x_RS [.int qa, .int 1, .int 50] [] C (k_X6_requireRange l g qa 1 50) yS_X6_requireRange wML_X6_38 rfl rfl (nle rfl) (nle rfl) (nle rfl) (nle rfl) (nle rfl) dX6_send_4 (fun hk1 => ?_) (fun hk1 => ?_)
  · exact x_out C hno (nle rfl) (nle rfl) ⟨(by simp only [er_X6_send, if_neg hk1]), rfl⟩
  refine x_aload_n C 0 rfl rfl dX6_send_7 ?_
  refine x_EV0 [] [] C (k_X6_saveState l g ap ad r po pn pl tx rp rl rs rm rn rz sv mm hc) rfl yV_X6_saveState wML_X6_42 0 rfl rfl rfl rfl (nle rfl) (nle rfl) (nle rfl) (nle rfl) (nle rfl) dX6_send_8 (fun E w h => h.elim) (fun r0 w h => ?_)
  obtain ⟨rfl, adn, rfl⟩ := h
  refine x_ws (ws' := (wPo g ap ad (sp_spo2 po pn) (sp_spn2 pn) pl ++ (wS0 g ad ++ (wSk g ad r.kp r.ke r.kr r.kt r.kh r.kc ++ (wMx g ad r.xn r.xs r.xv r.xh r.xo r.xc ++ (wSv g ad r.vd r.vn r.vl r.vu r.vs r.vm r.vp r.vt r.va r.vw ++ (wLk g ad r.jd r.jb r.jc r.js r.jl r.jx r.ji r.jf r.jn ++ (wDm g ad r.dq ++ (wPq g ap (adr (svS sv adn r po pn)) (adr mm) tx ++ (wRd g (ap 4) rp rl rs rm rn rz ++ (wPl g (svS sv adn r po pn) 6 ++ wPl g mm 2))))))))))) rfl ?_
  refine x_st (st' := []) rfl ?_
  refine x_aload_n C 0 rfl rfl dX6_send_11 ?_
  refine x_get C 0 6 0 rfl rfl wLy_X6 wFL_X6_10 rfl (by decide) rfl dX6_send_12 ?_
  have hk1l := rq_le hk1 (by decide) (show (50 : Int32) = nI 50 from rfl) (by decide)
  refine x_iload_n C 1 rfl rfl dX6_send_15 ?_
  refine x_iconst C 1 (by decide) dX6_send_16 ?_
  refine x_FV (w1 := (List.take 1 (wPo g ap ad (sp_spo2 po pn) (sp_spn2 pn) pl ++ (wS0 g ad ++ (wSk g ad r.kp r.ke r.kr r.kt r.kh r.kc ++ (wMx g ad r.xn r.xs r.xv r.xh r.xo r.xc ++ (wSv g ad r.vd r.vn r.vl r.vu r.vs r.vm r.vp r.vt r.va r.vw ++ (wLk g ad r.jd r.jb r.jc r.js r.jl r.jx r.ji r.jf r.jn ++ (wDm g ad r.dq ++ (wPq g ap (adr (svS sv adn r po pn)) (adr mm) tx ++ (wRd g (ap 4) rp rl rs rm rn rz ++ (wPl g (svS sv adn r po pn) 6 ++ wPl g mm 2)))))))))))) (wc := _) (w2 := (List.drop 26 (wPo g ap ad (sp_spo2 po pn) (sp_spn2 pn) pl ++ (wS0 g ad ++ (wSk g ad r.kp r.ke r.kr r.kt r.kh r.kc ++ (wMx g ad r.xn r.xs r.xv r.xh r.xo r.xc ++ (wSv g ad r.vd r.vn r.vl r.vu r.vs r.vm r.vp r.vt r.va r.vw ++ (wLk g ad r.jd r.jb r.jc r.js r.jl r.jx r.ji r.jf r.jn ++ (wDm g ad r.dq ++ (wPq g ap (adr (svS sv adn r po pn)) (adr mm) tx ++ (wRd g (ap 4) rp rl rs rm rn rz ++ (wPl g (svS sv adn r po pn) 6 ++ wPl g mm 2)))))))))))) [.int qa, .int 1] [] (wPo g ap ad (sp_spo2 po pn) (sp_spn2 pn) pl ++ (wS0 g ad ++ (wSk g ad r.kp r.ke r.kr r.kt r.kh r.kc ++ (wMx g ad r.xn r.xs r.xv r.xh r.xo r.xc ++ (wSv g ad r.vd r.vn r.vl r.vu r.vs r.vm r.vp (sp_X4_transmit_vt r.kp r.ke r.kr r.kt r.kh r.kc r.xn r.xs r.xv r.xh r.xo r.xc r.vd r.vn r.vl r.vu r.vs r.vm r.vp r.vt r.va r.vw r.jd r.jb r.js r.jl r.jx r.ji r.jf r.jn r.dq (Int32.toNatClampNeg qa) 1) (sp_X4_transmit_va r.kp r.ke r.kr r.kt r.kh r.kc r.xn r.xs r.xv r.xh r.xo r.xc r.vd r.vn r.vl r.vu r.vs r.vm r.vp r.vt r.va r.vw r.jd r.jb r.js r.jl r.jx r.ji r.jf r.jn r.dq (Int32.toNatClampNeg qa) 1) (sp_X4_transmit_vw r.kp r.ke r.kr r.kt r.kh r.kc r.xn r.xs r.xv r.xh r.xo r.xc r.vd r.vn r.vl r.vu r.vs r.vm r.vp r.vt r.va r.vw r.jd r.jb r.js r.jl r.jx r.ji r.jf r.jn r.dq (Int32.toNatClampNeg qa) 1) ++ (wLk g ad r.jd (sp_X4_transmit_jb r.kp r.ke r.kr r.kt r.kh r.kc r.xn r.xs r.xv r.xh r.xo r.xc r.vd r.vn r.vl r.vu r.vs r.vm r.vp r.vt r.va r.vw r.jd r.jb r.js r.jl r.jx r.ji r.jf r.jn r.dq (Int32.toNatClampNeg qa) 1) r.jc (sp_X4_transmit_js r.kp r.ke r.kr r.kt r.kh r.kc r.xn r.xs r.xv r.xh r.xo r.xc r.vd r.vn r.vl r.vu r.vs r.vm r.vp r.vt r.va r.vw r.jd r.jb r.js r.jl r.jx r.ji r.jf r.jn r.dq (Int32.toNatClampNeg qa) 1) (sp_X4_transmit_jl r.kp r.ke r.kr r.kt r.kh r.kc r.xn r.xs r.xv r.xh r.xo r.xc r.vd r.vn r.vl r.vu r.vs r.vm r.vp r.vt r.va r.vw r.jd r.jb r.js r.jl r.jx r.ji r.jf r.jn r.dq (Int32.toNatClampNeg qa) 1) (sp_X4_transmit_jx r.kp r.ke r.kr r.kt r.kh r.kc r.xn r.xs r.xv r.xh r.xo r.xc r.vd r.vn r.vl r.vu r.vs r.vm r.vp r.vt r.va r.vw r.jd r.jb r.js r.jl r.jx r.ji r.jf r.jn r.dq (Int32.toNatClampNeg qa) 1) (sp_X4_transmit_ji r.kp r.ke r.kr r.kt r.kh r.kc r.xn r.xs r.xv r.xh r.xo r.xc r.vd r.vn r.vl r.vu r.vs r.vm r.vp r.vt r.va r.vw r.jd r.jb r.js r.jl r.jx r.ji r.jf r.jn r.dq (Int32.toNatClampNeg qa) 1) (sp_X4_transmit_jf r.kp r.ke r.kr r.kt r.kh r.kc r.xn r.xs r.xv r.xh r.xo r.xc r.vd r.vn r.vl r.vu r.vs r.vm r.vp r.vt r.va r.vw r.jd r.jb r.js r.jl r.jx r.ji r.jf r.jn r.dq (Int32.toNatClampNeg qa) 1) (sp_X4_transmit_jn r.kp r.ke r.kr r.kt r.kh r.kc r.xn r.xs r.xv r.xh r.xo r.xc r.vd r.vn r.vl r.vu r.vs r.vm r.vp r.vt r.va r.vw r.jd r.jb r.js r.jl r.jx r.ji r.jf r.jn r.dq (Int32.toNatClampNeg qa) 1) ++ (wDm g ad (sp_cdm r.kp r.ke r.kr r.kt r.kh r.kc r.xn r.xs r.xv r.xh r.xo r.xc r.dq 6) ++ (wPq g ap (adr (svS sv adn r po pn)) (adr mm) tx ++ (wRd g (ap 4) rp rl rs rm rn rz ++ (wPl g (svS sv adn r po pn) 6 ++ wPl g mm 2)))))))))) C (k_X4_transmit l g ad r.kp r.ke r.kr r.kt r.kh r.kc r.xn r.xs r.xv r.xh r.xo r.xc r.vd r.vn r.vl r.vu r.vs r.vm r.vp r.vt r.va r.vw r.jd r.jb r.jc r.js r.jl r.jx r.ji r.jf r.jn r.dq qa (Int32.toNatClampNeg qa) (rq_nat hk1 (by decide)) 1 (Or.inr rfl) hc.1 (by omega)) rfl yV_X4_transmit wML_X6_174 rfl 1 rfl rfl rfl rfl (nle rfl) (nle rfl) (nle rfl) (nle rfl) (nle rfl) dX6_send_17 ?_
  exact x_iret C hr (nle rfl) (nle rfl) dX6_send_20 ⟨(by simp only [er_X6_send, if_pos hk1]), (by first | (simp only [sp_X6_send, if_pos hk1]; done) | (simp only [sp_X6_send, if_pos hk1]; rfl)), adn, (by first | (simp only [sp_X6_send_vt, sp_X6_send_va, sp_X6_send_vw, sp_X6_send_jb, sp_X6_send_js, sp_X6_send_jl, sp_X6_send_jx, sp_X6_send_ji, sp_X6_send_jf, sp_X6_send_jn, if_pos hk1]; done) | (simp only [sp_X6_send_vt, sp_X6_send_va, sp_X6_send_vw, sp_X6_send_jb, sp_X6_send_js, sp_X6_send_jl, sp_X6_send_jx, sp_X6_send_ji, sp_X6_send_jf, sp_X6_send_jn, if_pos hk1]; rfl))⟩
def sp_X6_lose (r : xR) (qa : Int32) : Int32 := (sp_X4_transmit r.kp r.ke r.kr r.kt r.kh r.kc r.xn r.xs r.xv r.xh r.xo r.xc r.vd r.vn r.vl r.vu r.vs r.vm r.vp r.vt r.va r.vw r.jd r.jb r.js r.jl r.jx r.ji r.jf r.jn r.dq (Int32.toNatClampNeg qa) 0)
def sp_X6_lose_vt (r : xR) (qa : Int32) : Nat → Int32 := (sp_X4_transmit_vt r.kp r.ke r.kr r.kt r.kh r.kc r.xn r.xs r.xv r.xh r.xo r.xc r.vd r.vn r.vl r.vu r.vs r.vm r.vp r.vt r.va r.vw r.jd r.jb r.js r.jl r.jx r.ji r.jf r.jn r.dq (Int32.toNatClampNeg qa) 0)
def sp_X6_lose_va (r : xR) (qa : Int32) : Nat → Int32 := (sp_X4_transmit_va r.kp r.ke r.kr r.kt r.kh r.kc r.xn r.xs r.xv r.xh r.xo r.xc r.vd r.vn r.vl r.vu r.vs r.vm r.vp r.vt r.va r.vw r.jd r.jb r.js r.jl r.jx r.ji r.jf r.jn r.dq (Int32.toNatClampNeg qa) 0)
def sp_X6_lose_vw (r : xR) (qa : Int32) : Nat → Int32 := (sp_X4_transmit_vw r.kp r.ke r.kr r.kt r.kh r.kc r.xn r.xs r.xv r.xh r.xo r.xc r.vd r.vn r.vl r.vu r.vs r.vm r.vp r.vt r.va r.vw r.jd r.jb r.js r.jl r.jx r.ji r.jf r.jn r.dq (Int32.toNatClampNeg qa) 0)
def sp_X6_lose_jb (r : xR) (qa : Int32) : Int32 := (sp_X4_transmit_jb r.kp r.ke r.kr r.kt r.kh r.kc r.xn r.xs r.xv r.xh r.xo r.xc r.vd r.vn r.vl r.vu r.vs r.vm r.vp r.vt r.va r.vw r.jd r.jb r.js r.jl r.jx r.ji r.jf r.jn r.dq (Int32.toNatClampNeg qa) 0)
def sp_X6_lose_js (r : xR) (qa : Int32) : Int32 := (sp_X4_transmit_js r.kp r.ke r.kr r.kt r.kh r.kc r.xn r.xs r.xv r.xh r.xo r.xc r.vd r.vn r.vl r.vu r.vs r.vm r.vp r.vt r.va r.vw r.jd r.jb r.js r.jl r.jx r.ji r.jf r.jn r.dq (Int32.toNatClampNeg qa) 0)
def sp_X6_lose_jl (r : xR) (qa : Int32) : Int32 := (sp_X4_transmit_jl r.kp r.ke r.kr r.kt r.kh r.kc r.xn r.xs r.xv r.xh r.xo r.xc r.vd r.vn r.vl r.vu r.vs r.vm r.vp r.vt r.va r.vw r.jd r.jb r.js r.jl r.jx r.ji r.jf r.jn r.dq (Int32.toNatClampNeg qa) 0)
def sp_X6_lose_jx (r : xR) (qa : Int32) : Int32 := (sp_X4_transmit_jx r.kp r.ke r.kr r.kt r.kh r.kc r.xn r.xs r.xv r.xh r.xo r.xc r.vd r.vn r.vl r.vu r.vs r.vm r.vp r.vt r.va r.vw r.jd r.jb r.js r.jl r.jx r.ji r.jf r.jn r.dq (Int32.toNatClampNeg qa) 0)
def sp_X6_lose_ji (r : xR) (qa : Int32) : Int32 := (sp_X4_transmit_ji r.kp r.ke r.kr r.kt r.kh r.kc r.xn r.xs r.xv r.xh r.xo r.xc r.vd r.vn r.vl r.vu r.vs r.vm r.vp r.vt r.va r.vw r.jd r.jb r.js r.jl r.jx r.ji r.jf r.jn r.dq (Int32.toNatClampNeg qa) 0)
def sp_X6_lose_jf (r : xR) (qa : Int32) : Int32 := (sp_X4_transmit_jf r.kp r.ke r.kr r.kt r.kh r.kc r.xn r.xs r.xv r.xh r.xo r.xc r.vd r.vn r.vl r.vu r.vs r.vm r.vp r.vt r.va r.vw r.jd r.jb r.js r.jl r.jx r.ji r.jf r.jn r.dq (Int32.toNatClampNeg qa) 0)
def sp_X6_lose_jn (r : xR) (qa : Int32) : Int32 := (sp_X4_transmit_jn r.kp r.ke r.kr r.kt r.kh r.kc r.xn r.xs r.xv r.xh r.xo r.xc r.vd r.vn r.vl r.vu r.vs r.vm r.vp r.vt r.va r.vw r.jd r.jb r.js r.jl r.jx r.ji r.jf r.jn r.dq (Int32.toNatClampNeg qa) 0)
def er_X6_lose (qa : Int32) : Option String := (if (¬ qa < 1 ∧ qa ≤ 50) then none else some xIA)
set_option maxRecDepth 100000 in
set_option maxHeartbeats 1000000 in
theorem k_X6_lose (l : Launch) (g : xGt) (ap ad : Nat → Nat) (r : xR) (po : Int32) (pn : Int32) (pl : Int32) (tx : Nat → Int32) (rp : Int32) (rl : Int32) (rs : Int32) (rm : Int32) (rn : Int32) (rz : Int32) (sv : xPl) (mm : xPl) (qa : Int32) (hc : clO r po pn) : xM l g.1 (xT g) yX6_lose (ws_ yX6_lose cX6_lose 2 (some .int)) (xRm 7 131 26 192) 26 192 [.ref (ap 0), .int qa] (wCl g ap ad r po pn pl tx rp rl rs rm rn rz sv mm) (fun r9 w9 => (er_X6_lose qa) = none ∧ r9 = some (.int (sp_X6_lose r qa)) ∧ ∃ adn : Nat → Nat, w9 = (wCl g ap ad (xRk r.kp r.ke r.kr r.kt r.kh r.kc r.xn r.xs r.xv r.xh r.xo r.xc r.vd r.vn r.vl r.vu r.vs r.vm r.vp (sp_X6_lose_vt r qa) (sp_X6_lose_va r qa) (sp_X6_lose_vw r qa) r.jd (sp_X6_lose_jb r qa) r.jc (sp_X6_lose_js r qa) (sp_X6_lose_jl r qa) (sp_X6_lose_jx r qa) (sp_X6_lose_ji r qa) (sp_X6_lose_jf r qa) (sp_X6_lose_jn r qa) (sp_cdm r.kp r.ke r.kr r.kt r.kh r.kc r.xn r.xs r.xv r.xh r.xo r.xc r.dq 6)) (sp_spo2 po pn) (sp_spn2 pn) pl tx rp rl rs rm rn rz (svS sv adn r po pn) mm)) (fun E w9 => (er_X6_lose qa) = some E ∧ w9 = (wCl g ap ad r po pn pl tx rp rl rs rm rn rz sv mm)) := by
  have h12 := hc.1.2.2.1
  refine x_start (own := RX6) (nm := "lose") rfl rfl (by decide +kernel) rfl (nle rfl) (fun p e σ m args below meth c A C hno hr => ?_)
  refine x_lve (lv' := [(0, .ref (ap 0)), (1, .int qa)]) rfl ?_
  refine x_ws (ws' := (wPo g ap ad po pn pl ++ (wS0 g ad ++ (wSk g ad r.kp r.ke r.kr r.kt r.kh r.kc ++ (wMx g ad r.xn r.xs r.xv r.xh r.xo r.xc ++ (wSv g ad r.vd r.vn r.vl r.vu r.vs r.vm r.vp r.vt r.va r.vw ++ (wLk g ad r.jd r.jb r.jc r.js r.jl r.jx r.ji r.jf r.jn ++ (wDm g ad r.dq ++ (wPq g ap (adr sv) (adr mm) tx ++ (wRd g (ap 4) rp rl rs rm rn rz ++ (wPl g sv 6 ++ wPl g mm 2))))))))))) rfl ?_
  refine x_iload_n C 1 rfl rfl dX6_lose_0 ?_
  refine x_iconst C 1 (by decide) dX6_lose_1 ?_
  refine x_bipush C 50 (by decide) dX6_lose_2 ?_
  refine x_RS [.int qa, .int 1, .int 50] [] C (k_X6_requireRange l g qa 1 50) yS_X6_requireRange wML_X6_38 rfl rfl (nle rfl) (nle rfl) (nle rfl) (nle rfl) (nle rfl) dX6_lose_4 (fun hk1 => ?_) (fun hk1 => ?_)
  · exact x_out C hno (nle rfl) (nle rfl) ⟨(by simp only [er_X6_lose, if_neg hk1]), rfl⟩
  refine x_aload_n C 0 rfl rfl dX6_lose_7 ?_
  refine x_EV0 [] [] C (k_X6_saveState l g ap ad r po pn pl tx rp rl rs rm rn rz sv mm hc) rfl yV_X6_saveState wML_X6_42 0 rfl rfl rfl rfl (nle rfl) (nle rfl) (nle rfl) (nle rfl) (nle rfl) dX6_lose_8 (fun E w h => h.elim) (fun r0 w h => ?_)
  obtain ⟨rfl, adn, rfl⟩ := h
  refine x_ws (ws' := (wPo g ap ad (sp_spo2 po pn) (sp_spn2 pn) pl ++ (wS0 g ad ++ (wSk g ad r.kp r.ke r.kr r.kt r.kh r.kc ++ (wMx g ad r.xn r.xs r.xv r.xh r.xo r.xc ++ (wSv g ad r.vd r.vn r.vl r.vu r.vs r.vm r.vp r.vt r.va r.vw ++ (wLk g ad r.jd r.jb r.jc r.js r.jl r.jx r.ji r.jf r.jn ++ (wDm g ad r.dq ++ (wPq g ap (adr (svS sv adn r po pn)) (adr mm) tx ++ (wRd g (ap 4) rp rl rs rm rn rz ++ (wPl g (svS sv adn r po pn) 6 ++ wPl g mm 2))))))))))) rfl ?_
  refine x_st (st' := []) rfl ?_
  refine x_aload_n C 0 rfl rfl dX6_lose_11 ?_
  refine x_get C 0 6 0 rfl rfl wLy_X6 wFL_X6_10 rfl (by decide) rfl dX6_lose_12 ?_
  have hk1l := rq_le hk1 (by decide) (show (50 : Int32) = nI 50 from rfl) (by decide)
  refine x_iload_n C 1 rfl rfl dX6_lose_15 ?_
  refine x_iconst C 0 (by decide) dX6_lose_16 ?_
  refine x_FV (w1 := (List.take 1 (wPo g ap ad (sp_spo2 po pn) (sp_spn2 pn) pl ++ (wS0 g ad ++ (wSk g ad r.kp r.ke r.kr r.kt r.kh r.kc ++ (wMx g ad r.xn r.xs r.xv r.xh r.xo r.xc ++ (wSv g ad r.vd r.vn r.vl r.vu r.vs r.vm r.vp r.vt r.va r.vw ++ (wLk g ad r.jd r.jb r.jc r.js r.jl r.jx r.ji r.jf r.jn ++ (wDm g ad r.dq ++ (wPq g ap (adr (svS sv adn r po pn)) (adr mm) tx ++ (wRd g (ap 4) rp rl rs rm rn rz ++ (wPl g (svS sv adn r po pn) 6 ++ wPl g mm 2)))))))))))) (wc := _) (w2 := (List.drop 26 (wPo g ap ad (sp_spo2 po pn) (sp_spn2 pn) pl ++ (wS0 g ad ++ (wSk g ad r.kp r.ke r.kr r.kt r.kh r.kc ++ (wMx g ad r.xn r.xs r.xv r.xh r.xo r.xc ++ (wSv g ad r.vd r.vn r.vl r.vu r.vs r.vm r.vp r.vt r.va r.vw ++ (wLk g ad r.jd r.jb r.jc r.js r.jl r.jx r.ji r.jf r.jn ++ (wDm g ad r.dq ++ (wPq g ap (adr (svS sv adn r po pn)) (adr mm) tx ++ (wRd g (ap 4) rp rl rs rm rn rz ++ (wPl g (svS sv adn r po pn) 6 ++ wPl g mm 2)))))))))))) [.int qa, .int 0] [] (wPo g ap ad (sp_spo2 po pn) (sp_spn2 pn) pl ++ (wS0 g ad ++ (wSk g ad r.kp r.ke r.kr r.kt r.kh r.kc ++ (wMx g ad r.xn r.xs r.xv r.xh r.xo r.xc ++ (wSv g ad r.vd r.vn r.vl r.vu r.vs r.vm r.vp (sp_X4_transmit_vt r.kp r.ke r.kr r.kt r.kh r.kc r.xn r.xs r.xv r.xh r.xo r.xc r.vd r.vn r.vl r.vu r.vs r.vm r.vp r.vt r.va r.vw r.jd r.jb r.js r.jl r.jx r.ji r.jf r.jn r.dq (Int32.toNatClampNeg qa) 0) (sp_X4_transmit_va r.kp r.ke r.kr r.kt r.kh r.kc r.xn r.xs r.xv r.xh r.xo r.xc r.vd r.vn r.vl r.vu r.vs r.vm r.vp r.vt r.va r.vw r.jd r.jb r.js r.jl r.jx r.ji r.jf r.jn r.dq (Int32.toNatClampNeg qa) 0) (sp_X4_transmit_vw r.kp r.ke r.kr r.kt r.kh r.kc r.xn r.xs r.xv r.xh r.xo r.xc r.vd r.vn r.vl r.vu r.vs r.vm r.vp r.vt r.va r.vw r.jd r.jb r.js r.jl r.jx r.ji r.jf r.jn r.dq (Int32.toNatClampNeg qa) 0) ++ (wLk g ad r.jd (sp_X4_transmit_jb r.kp r.ke r.kr r.kt r.kh r.kc r.xn r.xs r.xv r.xh r.xo r.xc r.vd r.vn r.vl r.vu r.vs r.vm r.vp r.vt r.va r.vw r.jd r.jb r.js r.jl r.jx r.ji r.jf r.jn r.dq (Int32.toNatClampNeg qa) 0) r.jc (sp_X4_transmit_js r.kp r.ke r.kr r.kt r.kh r.kc r.xn r.xs r.xv r.xh r.xo r.xc r.vd r.vn r.vl r.vu r.vs r.vm r.vp r.vt r.va r.vw r.jd r.jb r.js r.jl r.jx r.ji r.jf r.jn r.dq (Int32.toNatClampNeg qa) 0) (sp_X4_transmit_jl r.kp r.ke r.kr r.kt r.kh r.kc r.xn r.xs r.xv r.xh r.xo r.xc r.vd r.vn r.vl r.vu r.vs r.vm r.vp r.vt r.va r.vw r.jd r.jb r.js r.jl r.jx r.ji r.jf r.jn r.dq (Int32.toNatClampNeg qa) 0) (sp_X4_transmit_jx r.kp r.ke r.kr r.kt r.kh r.kc r.xn r.xs r.xv r.xh r.xo r.xc r.vd r.vn r.vl r.vu r.vs r.vm r.vp r.vt r.va r.vw r.jd r.jb r.js r.jl r.jx r.ji r.jf r.jn r.dq (Int32.toNatClampNeg qa) 0) (sp_X4_transmit_ji r.kp r.ke r.kr r.kt r.kh r.kc r.xn r.xs r.xv r.xh r.xo r.xc r.vd r.vn r.vl r.vu r.vs r.vm r.vp r.vt r.va r.vw r.jd r.jb r.js r.jl r.jx r.ji r.jf r.jn r.dq (Int32.toNatClampNeg qa) 0) (sp_X4_transmit_jf r.kp r.ke r.kr r.kt r.kh r.kc r.xn r.xs r.xv r.xh r.xo r.xc r.vd r.vn r.vl r.vu r.vs r.vm r.vp r.vt r.va r.vw r.jd r.jb r.js r.jl r.jx r.ji r.jf r.jn r.dq (Int32.toNatClampNeg qa) 0) (sp_X4_transmit_jn r.kp r.ke r.kr r.kt r.kh r.kc r.xn r.xs r.xv r.xh r.xo r.xc r.vd r.vn r.vl r.vu r.vs r.vm r.vp r.vt r.va r.vw r.jd r.jb r.js r.jl r.jx r.ji r.jf r.jn r.dq (Int32.toNatClampNeg qa) 0) ++ (wDm g ad (sp_cdm r.kp r.ke r.kr r.kt r.kh r.kc r.xn r.xs r.xv r.xh r.xo r.xc r.dq 6) ++ (wPq g ap (adr (svS sv adn r po pn)) (adr mm) tx ++ (wRd g (ap 4) rp rl rs rm rn rz ++ (wPl g (svS sv adn r po pn) 6 ++ wPl g mm 2)))))))))) C (k_X4_transmit l g ad r.kp r.ke r.kr r.kt r.kh r.kc r.xn r.xs r.xv r.xh r.xo r.xc r.vd r.vn r.vl r.vu r.vs r.vm r.vp r.vt r.va r.vw r.jd r.jb r.jc r.js r.jl r.jx r.ji r.jf r.jn r.dq qa (Int32.toNatClampNeg qa) (rq_nat hk1 (by decide)) 0 (Or.inl rfl) hc.1 (by omega)) rfl yV_X4_transmit wML_X6_174 rfl 1 rfl rfl rfl rfl (nle rfl) (nle rfl) (nle rfl) (nle rfl) (nle rfl) dX6_lose_17 ?_
  exact x_iret C hr (nle rfl) (nle rfl) dX6_lose_20 ⟨(by simp only [er_X6_lose, if_pos hk1]), (by first | (simp only [sp_X6_lose, if_pos hk1]; done) | (simp only [sp_X6_lose, if_pos hk1]; rfl)), adn, (by first | (simp only [sp_X6_lose_vt, sp_X6_lose_va, sp_X6_lose_vw, sp_X6_lose_jb, sp_X6_lose_js, sp_X6_lose_jl, sp_X6_lose_jx, sp_X6_lose_ji, sp_X6_lose_jf, sp_X6_lose_jn, if_pos hk1]; done) | (simp only [sp_X6_lose_vt, sp_X6_lose_va, sp_X6_lose_vw, sp_X6_lose_jb, sp_X6_lose_js, sp_X6_lose_jl, sp_X6_lose_jx, sp_X6_lose_ji, sp_X6_lose_jf, sp_X6_lose_jn, if_pos hk1]; rfl))⟩
def er_X6_setDelay (qa : Int32) : Option String := (if (¬ qa < 1 ∧ qa ≤ 50) then none else some xIA)
set_option maxRecDepth 100000 in
set_option maxHeartbeats 1000000 in
theorem k_X6_setDelay (l : Launch) (g : xGt) (ap ad : Nat → Nat) (r : xR) (po : Int32) (pn : Int32) (pl : Int32) (tx : Nat → Int32) (rp : Int32) (rl : Int32) (rs : Int32) (rm : Int32) (rn : Int32) (rz : Int32) (sv : xPl) (mm : xPl) (qa : Int32) (hc : clO r po pn) : xM l g.1 (xT g) yX6_setDelay (ws_ yX6_setDelay cX6_setDelay 3 (some .int)) (xRm 7 116 26 192) 26 192 [.ref (ap 0), .int qa] (wCl g ap ad r po pn pl tx rp rl rs rm rn rz sv mm) (fun r9 w9 => (er_X6_setDelay qa) = none ∧ r9 = some (.int r.jd) ∧ ∃ adn : Nat → Nat, w9 = (wCl g ap ad (r.set_jd qa) (sp_spo2 po pn) (sp_spn2 pn) pl tx rp rl rs rm rn rz (svS sv adn r po pn) mm)) (fun E w9 => (er_X6_setDelay qa) = some E ∧ w9 = (wCl g ap ad r po pn pl tx rp rl rs rm rn rz sv mm)) := by
  have h12 := hc.1.2.2.1
  refine x_start (own := RX6) (nm := "setDelay") rfl rfl (by decide +kernel) rfl (nle rfl) (fun p e σ m args below meth c A C hno hr => ?_)
  refine x_lve (lv' := [(0, .ref (ap 0)), (1, .int qa)]) rfl ?_
  refine x_ws (ws' := (wPo g ap ad po pn pl ++ (wS0 g ad ++ (wSk g ad r.kp r.ke r.kr r.kt r.kh r.kc ++ (wMx g ad r.xn r.xs r.xv r.xh r.xo r.xc ++ (wSv g ad r.vd r.vn r.vl r.vu r.vs r.vm r.vp r.vt r.va r.vw ++ (wLk g ad r.jd r.jb r.jc r.js r.jl r.jx r.ji r.jf r.jn ++ (wDm g ad r.dq ++ (wPq g ap (adr sv) (adr mm) tx ++ (wRd g (ap 4) rp rl rs rm rn rz ++ (wPl g sv 6 ++ wPl g mm 2))))))))))) rfl ?_
  refine x_iload_n C 1 rfl rfl dX6_setDelay_0 ?_
  refine x_iconst C 1 (by decide) dX6_setDelay_1 ?_
  refine x_bipush C 50 (by decide) dX6_setDelay_2 ?_
  refine x_RS [.int qa, .int 1, .int 50] [] C (k_X6_requireRange l g qa 1 50) yS_X6_requireRange wML_X6_38 rfl rfl (nle rfl) (nle rfl) (nle rfl) (nle rfl) (nle rfl) dX6_setDelay_4 (fun hk1 => ?_) (fun hk1 => ?_)
  · exact x_out C hno (nle rfl) (nle rfl) ⟨(by simp only [er_X6_setDelay, if_neg hk1]), rfl⟩
  refine x_aload_n C 0 rfl rfl dX6_setDelay_7 ?_
  refine x_EV0 [] [] C (k_X6_saveState l g ap ad r po pn pl tx rp rl rs rm rn rz sv mm hc) rfl yV_X6_saveState wML_X6_42 0 rfl rfl rfl rfl (nle rfl) (nle rfl) (nle rfl) (nle rfl) (nle rfl) dX6_setDelay_8 (fun E w h => h.elim) (fun r0 w h => ?_)
  obtain ⟨rfl, adn, rfl⟩ := h
  refine x_ws (ws' := (wPo g ap ad (sp_spo2 po pn) (sp_spn2 pn) pl ++ (wS0 g ad ++ (wSk g ad r.kp r.ke r.kr r.kt r.kh r.kc ++ (wMx g ad r.xn r.xs r.xv r.xh r.xo r.xc ++ (wSv g ad r.vd r.vn r.vl r.vu r.vs r.vm r.vp r.vt r.va r.vw ++ (wLk g ad r.jd r.jb r.jc r.js r.jl r.jx r.ji r.jf r.jn ++ (wDm g ad r.dq ++ (wPq g ap (adr (svS sv adn r po pn)) (adr mm) tx ++ (wRd g (ap 4) rp rl rs rm rn rz ++ (wPl g (svS sv adn r po pn) 6 ++ wPl g mm 2))))))))))) rfl ?_
  refine x_st (st' := []) rfl ?_
  refine x_aload_n C 0 rfl rfl dX6_setDelay_11 ?_
  refine x_get C 0 6 0 rfl rfl wLy_X6 wFL_X6_10 rfl (by decide) rfl dX6_setDelay_12 ?_
  refine x_get C 1 4 3 rfl rfl wLy_X4 wFL_X6_178 rfl (by decide) rfl dX6_setDelay_15 ?_
  refine x_get C 24 1 0 rfl rfl wLy_X1 wFL_X6_182 rfl (by decide) rfl dX6_setDelay_18 ?_
  refine x_istore_n C [(2, .int r.jd), (0, .ref (ap 0)), (1, .int qa)] rfl rfl (by decide) dX6_setDelay_21 ?_
  refine x_aload_n C 1 rfl rfl dX6_setDelay_22 ?_
  refine x_get C 0 6 0 rfl rfl wLy_X6 wFL_X6_10 rfl (by decide) rfl dX6_setDelay_23 ?_
  refine x_get C 1 4 3 rfl rfl wLy_X4 wFL_X6_178 rfl (by decide) rfl dX6_setDelay_26 ?_
  have hk1l := rq_le hk1 (by decide) (show (50 : Int32) = nI 50 from rfl) (by decide)
  refine x_iload_n C 2 rfl rfl dX6_setDelay_29 ?_
  refine x_put C 24 1 0 tyX1 (wPo g ap ad (sp_spo2 po pn) (sp_spn2 pn) pl ++ (wS0 g ad ++ (wSk g ad r.kp r.ke r.kr r.kt r.kh r.kc ++ (wMx g ad r.xn r.xs r.xv r.xh r.xo r.xc ++ (wSv g ad r.vd r.vn r.vl r.vu r.vs r.vm r.vp r.vt r.va r.vw ++ (wLk g ad qa r.jb r.jc r.js r.jl r.jx r.ji r.jf r.jn ++ (wDm g ad r.dq ++ (wPq g ap (adr (svS sv adn r po pn)) (adr mm) tx ++ (wRd g (ap 4) rp rl rs rm rn rz ++ (wPl g (svS sv adn r po pn) 6 ++ wPl g mm 2)))))))))) rfl rfl rfl wLy_X1 tyX1_ok nmX1 wFL_X6_182 rfl (by decide) rfl rfl rfl rfl (nlt rfl) dX6_setDelay_30 ?_
  refine x_iload_n C 0 rfl rfl dX6_setDelay_33 ?_
  exact x_iret C hr (nle rfl) (nle rfl) dX6_setDelay_34 ⟨(by simp only [er_X6_setDelay, if_pos hk1]), rfl, adn, rfl⟩
set_option maxRecDepth 100000 in
set_option maxHeartbeats 1000000 in
theorem k_X6_charge (l : Launch) (g : xGt) (ap ad : Nat → Nat) (r : xR) (po : Int32) (pn : Int32) (pl : Int32) (tx : Nat → Int32) (rp : Int32) (rl : Int32) (rs : Int32) (rm : Int32) (rn : Int32) (rz : Int32) (sv : xPl) (mm : xPl) (hc : clO r po pn) : xM l g.1 (xT g) yX6_charge (ws_ yX6_charge cX6_charge 2 (some .int)) (xRm 4 87 25 186) 25 186 [.ref (ap 0)] (wCl g ap ad r po pn pl tx rp rl rs rm rn rz sv mm) (fun r9 w9 => r9 = some (.int (20000 - r.jb)) ∧ ∃ adn : Nat → Nat, w9 = (wCl g ap ad (xRk r.kp r.ke r.kr r.kt r.kh r.kc r.xn r.xs r.xv r.xh r.xo r.xc r.vd r.vn r.vl r.vu r.vs r.vm r.vp r.vt r.va r.vw r.jd 20000 (r.jc + (20000 - r.jb)) r.js r.jl r.jx r.ji r.jf r.jn r.dq) (sp_spo2 po pn) (sp_spn2 pn) pl tx rp rl rs rm rn rz (svS sv adn r po pn) mm)) (fun _ _ => False) := by
  have h12 := hc.1.2.2.1
  refine x_start (own := RX6) (nm := "charge") rfl rfl (by decide +kernel) rfl (nle rfl) (fun p e σ m args below meth c A C hno hr => ?_)
  refine x_lve (lv' := [(0, .ref (ap 0))]) rfl ?_
  refine x_ws (ws' := (wPo g ap ad po pn pl ++ (wS0 g ad ++ (wSk g ad r.kp r.ke r.kr r.kt r.kh r.kc ++ (wMx g ad r.xn r.xs r.xv r.xh r.xo r.xc ++ (wSv g ad r.vd r.vn r.vl r.vu r.vs r.vm r.vp r.vt r.va r.vw ++ (wLk g ad r.jd r.jb r.jc r.js r.jl r.jx r.ji r.jf r.jn ++ (wDm g ad r.dq ++ (wPq g ap (adr sv) (adr mm) tx ++ (wRd g (ap 4) rp rl rs rm rn rz ++ (wPl g sv 6 ++ wPl g mm 2))))))))))) rfl ?_
  refine x_aload_n C 0 rfl rfl dX6_charge_0 ?_
  refine x_EV0 [] [] C (k_X6_saveState l g ap ad r po pn pl tx rp rl rs rm rn rz sv mm hc) rfl yV_X6_saveState wML_X6_42 0 rfl rfl rfl rfl (nle rfl) (nle rfl) (nle rfl) (nle rfl) (nle rfl) dX6_charge_1 (fun E w h => h.elim) (fun r0 w h => ?_)
  obtain ⟨rfl, adn, rfl⟩ := h
  refine x_ws (ws' := (wPo g ap ad (sp_spo2 po pn) (sp_spn2 pn) pl ++ (wS0 g ad ++ (wSk g ad r.kp r.ke r.kr r.kt r.kh r.kc ++ (wMx g ad r.xn r.xs r.xv r.xh r.xo r.xc ++ (wSv g ad r.vd r.vn r.vl r.vu r.vs r.vm r.vp r.vt r.va r.vw ++ (wLk g ad r.jd r.jb r.jc r.js r.jl r.jx r.ji r.jf r.jn ++ (wDm g ad r.dq ++ (wPq g ap (adr (svS sv adn r po pn)) (adr mm) tx ++ (wRd g (ap 4) rp rl rs rm rn rz ++ (wPl g (svS sv adn r po pn) 6 ++ wPl g mm 2))))))))))) rfl ?_
  refine x_st (st' := []) rfl ?_
  refine x_sipush C 20000 (by decide) dX6_charge_4 ?_
  refine x_aload_n C 0 rfl rfl dX6_charge_7 ?_
  refine x_get C 0 6 0 rfl rfl wLy_X6 wFL_X6_10 rfl (by decide) rfl dX6_charge_8 ?_
  refine x_get C 1 4 3 rfl rfl wLy_X4 wFL_X6_178 rfl (by decide) rfl dX6_charge_11 ?_
  refine x_get C 24 1 1 rfl rfl wLy_X1 wFL_X6_187 rfl (by decide) rfl dX6_charge_14 ?_
  refine x_isub C dX6_charge_17 ?_
  refine x_istore_n C [(1, .int (20000 - r.jb)), (0, .ref (ap 0))] rfl rfl (by decide) dX6_charge_18 ?_
  refine x_aload_n C 1 rfl rfl dX6_charge_19 ?_
  refine x_get C 0 6 0 rfl rfl wLy_X6 wFL_X6_10 rfl (by decide) rfl dX6_charge_20 ?_
  refine x_get C 1 4 3 rfl rfl wLy_X4 wFL_X6_178 rfl (by decide) rfl dX6_charge_23 ?_
  refine x_sipush C 20000 (by decide) dX6_charge_26 ?_
  refine x_put C 24 1 1 tyX1 (wPo g ap ad (sp_spo2 po pn) (sp_spn2 pn) pl ++ (wS0 g ad ++ (wSk g ad r.kp r.ke r.kr r.kt r.kh r.kc ++ (wMx g ad r.xn r.xs r.xv r.xh r.xo r.xc ++ (wSv g ad r.vd r.vn r.vl r.vu r.vs r.vm r.vp r.vt r.va r.vw ++ (wLk g ad r.jd 20000 r.jc r.js r.jl r.jx r.ji r.jf r.jn ++ (wDm g ad r.dq ++ (wPq g ap (adr (svS sv adn r po pn)) (adr mm) tx ++ (wRd g (ap 4) rp rl rs rm rn rz ++ (wPl g (svS sv adn r po pn) 6 ++ wPl g mm 2)))))))))) rfl rfl rfl wLy_X1 tyX1_ok nmX1 wFL_X6_187 rfl (by decide) rfl rfl rfl rfl (nlt rfl) dX6_charge_29 ?_
  refine x_aload_n C 1 rfl rfl dX6_charge_32 ?_
  refine x_get C 0 6 0 rfl rfl wLy_X6 wFL_X6_10 rfl (by decide) rfl dX6_charge_33 ?_
  refine x_get C 1 4 3 rfl rfl wLy_X4 wFL_X6_178 rfl (by decide) rfl dX6_charge_36 ?_
  refine x_dup C rfl dX6_charge_39 ?_
  refine x_get C 24 1 2 rfl rfl wLy_X1 wFL_X6_190 rfl (by decide) rfl dX6_charge_40 ?_
  refine x_iload_n C 0 rfl rfl dX6_charge_43 ?_
  refine x_iadd C dX6_charge_44 ?_
  refine x_put C 24 1 2 tyX1 (wPo g ap ad (sp_spo2 po pn) (sp_spn2 pn) pl ++ (wS0 g ad ++ (wSk g ad r.kp r.ke r.kr r.kt r.kh r.kc ++ (wMx g ad r.xn r.xs r.xv r.xh r.xo r.xc ++ (wSv g ad r.vd r.vn r.vl r.vu r.vs r.vm r.vp r.vt r.va r.vw ++ (wLk g ad r.jd 20000 (r.jc + (20000 - r.jb)) r.js r.jl r.jx r.ji r.jf r.jn ++ (wDm g ad r.dq ++ (wPq g ap (adr (svS sv adn r po pn)) (adr mm) tx ++ (wRd g (ap 4) rp rl rs rm rn rz ++ (wPl g (svS sv adn r po pn) 6 ++ wPl g mm 2)))))))))) rfl rfl rfl wLy_X1 tyX1_ok nmX1 wFL_X6_190 rfl (by decide) rfl rfl rfl rfl (nlt rfl) dX6_charge_45 ?_
  refine x_iload_n C 0 rfl rfl dX6_charge_48 ?_
  exact x_iret C hr (nle rfl) (nle rfl) dX6_charge_49 ⟨rfl, adn, rfl⟩
set_option maxRecDepth 100000 in
set_option maxHeartbeats 1000000 in
theorem k_X6_battery (l : Launch) (g : xGt) (ap ad : Nat → Nat) (r : xR) (po : Int32) (pn : Int32) (pl : Int32) (tx : Nat → Int32) (rp : Int32) (rl : Int32) (rs : Int32) (rm : Int32) (rn : Int32) (rz : Int32) (sv : xPl) (mm : xPl) (hc : clO r po pn) : xM l g.1 (xT g) yX6_battery (ws_ yX6_battery cX6_battery 1 (some .int)) (xRm 0 0 0 0) 0 0 [.ref (ap 0)] (wCl g ap ad r po pn pl tx rp rl rs rm rn rz sv mm) (fun r9 w9 => r9 = some (.int r.jb) ∧ w9 = (wCl g ap ad r po pn pl tx rp rl rs rm rn rz sv mm)) (fun _ _ => False) := by
  have h12 := hc.1.2.2.1
  refine x_start (own := RX6) (nm := "battery") rfl rfl (by decide +kernel) rfl (nle rfl) (fun p e σ m args below meth c A C hno hr => ?_)
  refine x_lve (lv' := [(0, .ref (ap 0))]) rfl ?_
  refine x_ws (ws' := (wPo g ap ad po pn pl ++ (wS0 g ad ++ (wSk g ad r.kp r.ke r.kr r.kt r.kh r.kc ++ (wMx g ad r.xn r.xs r.xv r.xh r.xo r.xc ++ (wSv g ad r.vd r.vn r.vl r.vu r.vs r.vm r.vp r.vt r.va r.vw ++ (wLk g ad r.jd r.jb r.jc r.js r.jl r.jx r.ji r.jf r.jn ++ (wDm g ad r.dq ++ (wPq g ap (adr sv) (adr mm) tx ++ (wRd g (ap 4) rp rl rs rm rn rz ++ (wPl g sv 6 ++ wPl g mm 2))))))))))) rfl ?_
  refine x_aload_n C 0 rfl rfl dX6_battery_0 ?_
  refine x_get C 0 6 0 rfl rfl wLy_X6 wFL_X6_10 rfl (by decide) rfl dX6_battery_1 ?_
  refine x_get C 1 4 3 rfl rfl wLy_X4 wFL_X6_178 rfl (by decide) rfl dX6_battery_4 ?_
  refine x_get C 24 1 1 rfl rfl wLy_X1 wFL_X6_187 rfl (by decide) rfl dX6_battery_7 ?_
  exact x_iret C hr (nle rfl) (nle rfl) dX6_battery_10 ⟨rfl, rfl⟩
set_option maxRecDepth 100000 in
set_option maxHeartbeats 1000000 in
theorem k_X6_charged (l : Launch) (g : xGt) (ap ad : Nat → Nat) (r : xR) (po : Int32) (pn : Int32) (pl : Int32) (tx : Nat → Int32) (rp : Int32) (rl : Int32) (rs : Int32) (rm : Int32) (rn : Int32) (rz : Int32) (sv : xPl) (mm : xPl) (hc : clO r po pn) : xM l g.1 (xT g) yX6_charged (ws_ yX6_charged cX6_charged 1 (some .int)) (xRm 0 0 0 0) 0 0 [.ref (ap 0)] (wCl g ap ad r po pn pl tx rp rl rs rm rn rz sv mm) (fun r9 w9 => r9 = some (.int r.jc) ∧ w9 = (wCl g ap ad r po pn pl tx rp rl rs rm rn rz sv mm)) (fun _ _ => False) := by
  have h12 := hc.1.2.2.1
  refine x_start (own := RX6) (nm := "charged") rfl rfl (by decide +kernel) rfl (nle rfl) (fun p e σ m args below meth c A C hno hr => ?_)
  refine x_lve (lv' := [(0, .ref (ap 0))]) rfl ?_
  refine x_ws (ws' := (wPo g ap ad po pn pl ++ (wS0 g ad ++ (wSk g ad r.kp r.ke r.kr r.kt r.kh r.kc ++ (wMx g ad r.xn r.xs r.xv r.xh r.xo r.xc ++ (wSv g ad r.vd r.vn r.vl r.vu r.vs r.vm r.vp r.vt r.va r.vw ++ (wLk g ad r.jd r.jb r.jc r.js r.jl r.jx r.ji r.jf r.jn ++ (wDm g ad r.dq ++ (wPq g ap (adr sv) (adr mm) tx ++ (wRd g (ap 4) rp rl rs rm rn rz ++ (wPl g sv 6 ++ wPl g mm 2))))))))))) rfl ?_
  refine x_aload_n C 0 rfl rfl dX6_charged_0 ?_
  refine x_get C 0 6 0 rfl rfl wLy_X6 wFL_X6_10 rfl (by decide) rfl dX6_charged_1 ?_
  refine x_get C 1 4 3 rfl rfl wLy_X4 wFL_X6_178 rfl (by decide) rfl dX6_charged_4 ?_
  refine x_get C 24 1 2 rfl rfl wLy_X1 wFL_X6_190 rfl (by decide) rfl dX6_charged_7 ?_
  exact x_iret C hr (nle rfl) (nle rfl) dX6_charged_10 ⟨rfl, rfl⟩
set_option maxRecDepth 100000 in
set_option maxHeartbeats 1000000 in
theorem k_X6_frames (l : Launch) (g : xGt) (ap ad : Nat → Nat) (r : xR) (po : Int32) (pn : Int32) (pl : Int32) (tx : Nat → Int32) (rp : Int32) (rl : Int32) (rs : Int32) (rm : Int32) (rn : Int32) (rz : Int32) (sv : xPl) (mm : xPl) (hc : clO r po pn) : xM l g.1 (xT g) yX6_frames (ws_ yX6_frames cX6_frames 1 (some .int)) (xRm 0 0 0 0) 0 0 [.ref (ap 0)] (wCl g ap ad r po pn pl tx rp rl rs rm rn rz sv mm) (fun r9 w9 => r9 = some (.int r.js) ∧ w9 = (wCl g ap ad r po pn pl tx rp rl rs rm rn rz sv mm)) (fun _ _ => False) := by
  have h12 := hc.1.2.2.1
  refine x_start (own := RX6) (nm := "frames") rfl rfl (by decide +kernel) rfl (nle rfl) (fun p e σ m args below meth c A C hno hr => ?_)
  refine x_lve (lv' := [(0, .ref (ap 0))]) rfl ?_
  refine x_ws (ws' := (wPo g ap ad po pn pl ++ (wS0 g ad ++ (wSk g ad r.kp r.ke r.kr r.kt r.kh r.kc ++ (wMx g ad r.xn r.xs r.xv r.xh r.xo r.xc ++ (wSv g ad r.vd r.vn r.vl r.vu r.vs r.vm r.vp r.vt r.va r.vw ++ (wLk g ad r.jd r.jb r.jc r.js r.jl r.jx r.ji r.jf r.jn ++ (wDm g ad r.dq ++ (wPq g ap (adr sv) (adr mm) tx ++ (wRd g (ap 4) rp rl rs rm rn rz ++ (wPl g sv 6 ++ wPl g mm 2))))))))))) rfl ?_
  refine x_aload_n C 0 rfl rfl dX6_frames_0 ?_
  refine x_get C 0 6 0 rfl rfl wLy_X6 wFL_X6_10 rfl (by decide) rfl dX6_frames_1 ?_
  refine x_get C 1 4 3 rfl rfl wLy_X4 wFL_X6_178 rfl (by decide) rfl dX6_frames_4 ?_
  refine x_get C 24 1 3 rfl rfl wLy_X1 wFL_X6_193 rfl (by decide) rfl dX6_frames_7 ?_
  exact x_iret C hr (nle rfl) (nle rfl) dX6_frames_10 ⟨rfl, rfl⟩
set_option maxRecDepth 100000 in
set_option maxHeartbeats 1000000 in
theorem k_X6_lostFrames (l : Launch) (g : xGt) (ap ad : Nat → Nat) (r : xR) (po : Int32) (pn : Int32) (pl : Int32) (tx : Nat → Int32) (rp : Int32) (rl : Int32) (rs : Int32) (rm : Int32) (rn : Int32) (rz : Int32) (sv : xPl) (mm : xPl) (hc : clO r po pn) : xM l g.1 (xT g) yX6_lostFrames (ws_ yX6_lostFrames cX6_lostFrames 1 (some .int)) (xRm 0 0 0 0) 0 0 [.ref (ap 0)] (wCl g ap ad r po pn pl tx rp rl rs rm rn rz sv mm) (fun r9 w9 => r9 = some (.int r.jl) ∧ w9 = (wCl g ap ad r po pn pl tx rp rl rs rm rn rz sv mm)) (fun _ _ => False) := by
  have h12 := hc.1.2.2.1
  refine x_start (own := RX6) (nm := "lostFrames") rfl rfl (by decide +kernel) rfl (nle rfl) (fun p e σ m args below meth c A C hno hr => ?_)
  refine x_lve (lv' := [(0, .ref (ap 0))]) rfl ?_
  refine x_ws (ws' := (wPo g ap ad po pn pl ++ (wS0 g ad ++ (wSk g ad r.kp r.ke r.kr r.kt r.kh r.kc ++ (wMx g ad r.xn r.xs r.xv r.xh r.xo r.xc ++ (wSv g ad r.vd r.vn r.vl r.vu r.vs r.vm r.vp r.vt r.va r.vw ++ (wLk g ad r.jd r.jb r.jc r.js r.jl r.jx r.ji r.jf r.jn ++ (wDm g ad r.dq ++ (wPq g ap (adr sv) (adr mm) tx ++ (wRd g (ap 4) rp rl rs rm rn rz ++ (wPl g sv 6 ++ wPl g mm 2))))))))))) rfl ?_
  refine x_aload_n C 0 rfl rfl dX6_lostFrames_0 ?_
  refine x_get C 0 6 0 rfl rfl wLy_X6 wFL_X6_10 rfl (by decide) rfl dX6_lostFrames_1 ?_
  refine x_get C 1 4 3 rfl rfl wLy_X4 wFL_X6_178 rfl (by decide) rfl dX6_lostFrames_4 ?_
  refine x_get C 24 1 4 rfl rfl wLy_X1 wFL_X6_196 rfl (by decide) rfl dX6_lostFrames_7 ?_
  exact x_iret C hr (nle rfl) (nle rfl) dX6_lostFrames_10 ⟨rfl, rfl⟩
set_option maxRecDepth 100000 in
set_option maxHeartbeats 1000000 in
theorem k_X6_deadFrames (l : Launch) (g : xGt) (ap ad : Nat → Nat) (r : xR) (po : Int32) (pn : Int32) (pl : Int32) (tx : Nat → Int32) (rp : Int32) (rl : Int32) (rs : Int32) (rm : Int32) (rn : Int32) (rz : Int32) (sv : xPl) (mm : xPl) (hc : clO r po pn) : xM l g.1 (xT g) yX6_deadFrames (ws_ yX6_deadFrames cX6_deadFrames 1 (some .int)) (xRm 0 0 0 0) 0 0 [.ref (ap 0)] (wCl g ap ad r po pn pl tx rp rl rs rm rn rz sv mm) (fun r9 w9 => r9 = some (.int r.jx) ∧ w9 = (wCl g ap ad r po pn pl tx rp rl rs rm rn rz sv mm)) (fun _ _ => False) := by
  have h12 := hc.1.2.2.1
  refine x_start (own := RX6) (nm := "deadFrames") rfl rfl (by decide +kernel) rfl (nle rfl) (fun p e σ m args below meth c A C hno hr => ?_)
  refine x_lve (lv' := [(0, .ref (ap 0))]) rfl ?_
  refine x_ws (ws' := (wPo g ap ad po pn pl ++ (wS0 g ad ++ (wSk g ad r.kp r.ke r.kr r.kt r.kh r.kc ++ (wMx g ad r.xn r.xs r.xv r.xh r.xo r.xc ++ (wSv g ad r.vd r.vn r.vl r.vu r.vs r.vm r.vp r.vt r.va r.vw ++ (wLk g ad r.jd r.jb r.jc r.js r.jl r.jx r.ji r.jf r.jn ++ (wDm g ad r.dq ++ (wPq g ap (adr sv) (adr mm) tx ++ (wRd g (ap 4) rp rl rs rm rn rz ++ (wPl g sv 6 ++ wPl g mm 2))))))))))) rfl ?_
  refine x_aload_n C 0 rfl rfl dX6_deadFrames_0 ?_
  refine x_get C 0 6 0 rfl rfl wLy_X6 wFL_X6_10 rfl (by decide) rfl dX6_deadFrames_1 ?_
  refine x_get C 1 4 3 rfl rfl wLy_X4 wFL_X6_178 rfl (by decide) rfl dX6_deadFrames_4 ?_
  refine x_get C 24 1 5 rfl rfl wLy_X1 wFL_X6_199 rfl (by decide) rfl dX6_deadFrames_7 ?_
  exact x_iret C hr (nle rfl) (nle rfl) dX6_deadFrames_10 ⟨rfl, rfl⟩
set_option maxRecDepth 100000 in
set_option maxHeartbeats 1000000 in
theorem k_X6_lostInRow (l : Launch) (g : xGt) (ap ad : Nat → Nat) (r : xR) (po : Int32) (pn : Int32) (pl : Int32) (tx : Nat → Int32) (rp : Int32) (rl : Int32) (rs : Int32) (rm : Int32) (rn : Int32) (rz : Int32) (sv : xPl) (mm : xPl) (hc : clO r po pn) : xM l g.1 (xT g) yX6_lostInRow (ws_ yX6_lostInRow cX6_lostInRow 1 (some .int)) (xRm 0 0 0 0) 0 0 [.ref (ap 0)] (wCl g ap ad r po pn pl tx rp rl rs rm rn rz sv mm) (fun r9 w9 => r9 = some (.int r.ji) ∧ w9 = (wCl g ap ad r po pn pl tx rp rl rs rm rn rz sv mm)) (fun _ _ => False) := by
  have h12 := hc.1.2.2.1
  refine x_start (own := RX6) (nm := "lostInRow") rfl rfl (by decide +kernel) rfl (nle rfl) (fun p e σ m args below meth c A C hno hr => ?_)
  refine x_lve (lv' := [(0, .ref (ap 0))]) rfl ?_
  refine x_ws (ws' := (wPo g ap ad po pn pl ++ (wS0 g ad ++ (wSk g ad r.kp r.ke r.kr r.kt r.kh r.kc ++ (wMx g ad r.xn r.xs r.xv r.xh r.xo r.xc ++ (wSv g ad r.vd r.vn r.vl r.vu r.vs r.vm r.vp r.vt r.va r.vw ++ (wLk g ad r.jd r.jb r.jc r.js r.jl r.jx r.ji r.jf r.jn ++ (wDm g ad r.dq ++ (wPq g ap (adr sv) (adr mm) tx ++ (wRd g (ap 4) rp rl rs rm rn rz ++ (wPl g sv 6 ++ wPl g mm 2))))))))))) rfl ?_
  refine x_aload_n C 0 rfl rfl dX6_lostInRow_0 ?_
  refine x_get C 0 6 0 rfl rfl wLy_X6 wFL_X6_10 rfl (by decide) rfl dX6_lostInRow_1 ?_
  refine x_get C 1 4 3 rfl rfl wLy_X4 wFL_X6_178 rfl (by decide) rfl dX6_lostInRow_4 ?_
  refine x_get C 24 1 6 rfl rfl wLy_X1 wFL_X6_202 rfl (by decide) rfl dX6_lostInRow_7 ?_
  exact x_iret C hr (nle rfl) (nle rfl) dX6_lostInRow_10 ⟨rfl, rfl⟩
set_option maxRecDepth 100000 in
set_option maxHeartbeats 1000000 in
theorem k_X6_isFailsafe (l : Launch) (g : xGt) (ap ad : Nat → Nat) (r : xR) (po : Int32) (pn : Int32) (pl : Int32) (tx : Nat → Int32) (rp : Int32) (rl : Int32) (rs : Int32) (rm : Int32) (rn : Int32) (rz : Int32) (sv : xPl) (mm : xPl) (hc : clO r po pn) : xM l g.1 (xT g) yX6_isFailsafe (ws_ yX6_isFailsafe cX6_isFailsafe 1 (some .boolean)) (xRm 0 0 0 0) 0 0 [.ref (ap 0)] (wCl g ap ad r po pn pl tx rp rl rs rm rn rz sv mm) (fun r9 w9 => r9 = some (.int r.jf) ∧ w9 = (wCl g ap ad r po pn pl tx rp rl rs rm rn rz sv mm)) (fun _ _ => False) := by
  have h12 := hc.1.2.2.1
  refine x_start (own := RX6) (nm := "isFailsafe") rfl rfl (by decide +kernel) rfl (nle rfl) (fun p e σ m args below meth c A C hno hr => ?_)
  refine x_lve (lv' := [(0, .ref (ap 0))]) rfl ?_
  refine x_ws (ws' := (wPo g ap ad po pn pl ++ (wS0 g ad ++ (wSk g ad r.kp r.ke r.kr r.kt r.kh r.kc ++ (wMx g ad r.xn r.xs r.xv r.xh r.xo r.xc ++ (wSv g ad r.vd r.vn r.vl r.vu r.vs r.vm r.vp r.vt r.va r.vw ++ (wLk g ad r.jd r.jb r.jc r.js r.jl r.jx r.ji r.jf r.jn ++ (wDm g ad r.dq ++ (wPq g ap (adr sv) (adr mm) tx ++ (wRd g (ap 4) rp rl rs rm rn rz ++ (wPl g sv 6 ++ wPl g mm 2))))))))))) rfl ?_
  refine x_aload_n C 0 rfl rfl dX6_isFailsafe_0 ?_
  refine x_get C 0 6 0 rfl rfl wLy_X6 wFL_X6_10 rfl (by decide) rfl dX6_isFailsafe_1 ?_
  refine x_get C 1 4 3 rfl rfl wLy_X4 wFL_X6_178 rfl (by decide) rfl dX6_isFailsafe_4 ?_
  refine x_get C 24 1 7 rfl rfl wLy_X1 wFL_X6_205 rfl (by decide) rfl dX6_isFailsafe_7 ?_
  exact x_zret C hr (xnz hc.2.2.1) (nle rfl) (nle rfl) dX6_isFailsafe_10 ⟨rfl, rfl⟩
set_option maxRecDepth 100000 in
set_option maxHeartbeats 1000000 in
theorem k_X6_savedStates (l : Launch) (g : xGt) (ap ad : Nat → Nat) (r : xR) (po : Int32) (pn : Int32) (pl : Int32) (tx : Nat → Int32) (rp : Int32) (rl : Int32) (rs : Int32) (rm : Int32) (rn : Int32) (rz : Int32) (sv : xPl) (mm : xPl) (hc : clO r po pn) : xM l g.1 (xT g) yX6_savedStates (ws_ yX6_savedStates cX6_savedStates 1 (some .int)) (xRm 0 0 0 0) 0 0 [.ref (ap 0)] (wCl g ap ad r po pn pl tx rp rl rs rm rn rz sv mm) (fun r9 w9 => r9 = some (.int pn) ∧ w9 = (wCl g ap ad r po pn pl tx rp rl rs rm rn rz sv mm)) (fun _ _ => False) := by
  have h12 := hc.1.2.2.1
  refine x_start (own := RX6) (nm := "savedStates") rfl rfl (by decide +kernel) rfl (nle rfl) (fun p e σ m args below meth c A C hno hr => ?_)
  refine x_lve (lv' := [(0, .ref (ap 0))]) rfl ?_
  refine x_ws (ws' := (wPo g ap ad po pn pl ++ (wS0 g ad ++ (wSk g ad r.kp r.ke r.kr r.kt r.kh r.kc ++ (wMx g ad r.xn r.xs r.xv r.xh r.xo r.xc ++ (wSv g ad r.vd r.vn r.vl r.vu r.vs r.vm r.vp r.vt r.va r.vw ++ (wLk g ad r.jd r.jb r.jc r.js r.jl r.jx r.ji r.jf r.jn ++ (wDm g ad r.dq ++ (wPq g ap (adr sv) (adr mm) tx ++ (wRd g (ap 4) rp rl rs rm rn rz ++ (wPl g sv 6 ++ wPl g mm 2))))))))))) rfl ?_
  refine x_aload_n C 0 rfl rfl dX6_savedStates_0 ?_
  refine x_get C 0 6 3 rfl rfl wLy_X6 wFL_X6_259 rfl (by decide) rfl dX6_savedStates_1 ?_
  exact x_iret C hr (nle rfl) (nle rfl) dX6_savedStates_4 ⟨rfl, rfl⟩
