def stS (mm : xPl) (adn : Nat → Nat) (r : xR) (k : Nat) : xPl := upP mm k (some (match mm k with | some x => (x.1, cpR r x.2) | none => (adn, cpR r r00)))
theorem pm_in2 (B M P S : va_W) : ((B ++ (M ++ P)) ++ (S ++ [])).Perm (B ++ (S ++ (P ++ M))) := by
  rw [List.append_nil, List.append_assoc]
  exact List.Perm.append_left B (List.perm_append_comm.trans (List.Perm.append_left S List.perm_append_comm))
theorem in2q {q : Int32} {k : Nat} (e : q = nI k) (h : k < 2) : vp_in q 2 := by
  rw [e]
  exact vp_in_nI h (by decide)
def er_X6_store (qa : Int32) : Option String := (if (¬ qa < 0 ∧ qa ≤ 1) then none else some xIA)
set_option maxRecDepth 100000 in
set_option maxHeartbeats 4000000 in
theorem k_X6_store (l : Launch) (g : xGt) (ap ad : Nat → Nat) (r : xR) (po : Int32) (pn : Int32) (pl : Int32) (tx : Nat → Int32) (rp : Int32) (rl : Int32) (rs : Int32) (rm : Int32) (rn : Int32) (rz : Int32) (sv : xPl) (mm : xPl) (qa : Int32) (hc : clO r po pn) : xM l g.1 (xT g) yX6_store (ws_ yX6_store cX6_store 2 (some .int)) (xRm 7 116 26 192) 26 192 [.ref (ap 0), .int qa] (wCl g ap ad r po pn pl tx rp rl rs rm rn rz sv mm) (fun r9 w9 => (er_X6_store qa) = none ∧ r9 = some (.int r.xn) ∧ ∃ adn : Nat → Nat, w9 = (wCl g ap ad r po pn pl tx rp rl rs rm rn rz sv (stS mm adn r (Int32.toNatClampNeg qa)))) (fun E w9 => (er_X6_store qa) = some E ∧ w9 = (wCl g ap ad r po pn pl tx rp rl rs rm rn rz sv mm)) := by
  have h12 := hc.1.2.2.1
  refine x_start (own := RX6) (nm := "store") rfl rfl (by decide +kernel) rfl (nle rfl) (fun p e σ m args below meth c A C hno hr => ?_)
  refine x_lve (lv' := [(0, .ref (ap 0)), (1, .int qa)]) rfl ?_
  refine x_ws (ws' := (wPo g ap ad po pn pl ++ (wS0 g ad ++ (wSk g ad r.kp r.ke r.kr r.kt r.kh r.kc ++ (wMx g ad r.xn r.xs r.xv r.xh r.xo r.xc ++ (wSv g ad r.vd r.vn r.vl r.vu r.vs r.vm r.vp r.vt r.va r.vw ++ (wLk g ad r.jd r.jb r.jc r.js r.jl r.jx r.ji r.jf r.jn ++ (wDm g ad r.dq ++ (wPq g ap (adr sv) (adr mm) tx ++ (wRd g (ap 4) rp rl rs rm rn rz ++ (wPl g sv 6 ++ wPl g mm 2))))))))))) rfl ?_
  refine x_iload_n C 1 rfl rfl dX6_store_0 ?_
  refine x_iconst C 0 (by decide) dX6_store_1 ?_
  refine x_iconst C 1 (by decide) dX6_store_2 ?_
  refine x_RS [.int qa, .int 0, .int 1] [] C (k_X6_requireRange l g qa 0 1) yS_X6_requireRange wML_X6_38 rfl rfl (nle rfl) (nle rfl) (nle rfl) (nle rfl) (nle rfl) dX6_store_3 (fun hk1 => ?_) (fun hk1 => ?_)
  · exact x_out C hno (nle rfl) (nle rfl) ⟨(by simp only [er_X6_store, if_neg hk1]), rfl⟩
  have eqa : qa = nI (Int32.toNatClampNeg qa) := rq_nat hk1 (by decide)
  have hK : (Int32.toNatClampNeg qa) < 2 := by have := rq_le hk1 (by decide) (show (1 : Int32) = nI 1 from rfl) (by decide); omega
  suffices KT : ∀ (a1 : Nat → Nat) (r1 : xR) (qs : Nat → Option Nat), qs (Int32.toNatClampNeg qa) = some (a1 0) → qs = adr (upP mm (Int32.toNatClampNeg qa) (some (a1, cpR r r1))) → (∃ adn : Nat → Nat, (upP mm (Int32.toNatClampNeg qa) (some (a1, cpR r r1))) = stS mm adn r (Int32.toNatClampNeg qa)) → xW p l e _ σ m args below meth c g.1 A 2 26 192 _ (wPo g ap ad po pn pl ++ (wS0 g ad ++ (wSk g ad r.kp r.ke r.kr r.kt r.kh r.kc ++ (wMx g ad r.xn r.xs r.xv r.xh r.xo r.xc ++ (wSv g ad r.vd r.vn r.vl r.vu r.vs r.vm r.vp r.vt r.va r.vw ++ (wLk g ad r.jd r.jb r.jc r.js r.jl r.jx r.ji r.jf r.jn ++ (wDm g ad r.dq ++ (wPq g ap (adr sv) qs tx ++ (wRd g (ap 4) rp rl rs rm rn rz ++ (wSt g a1 r1 ++ (wPl g (upP mm (Int32.toNatClampNeg qa) none) 2 ++ wPl g sv 6))))))))))) [(0, .ref (ap 0)), (1, .int qa)] 28 [] by
    rcases hmv : mm (Int32.toNatClampNeg qa) with _ | ⟨a1, r1⟩
    · refine x_aload_n C 0 rfl rfl dX6_store_6 ?_
      refine x_get C 0 6 4 rfl rfl wLy_X6 wFL_X6_20 rfl (by decide) rfl dX6_store_7 ?_
      refine x_iload_n C 1 rfl rfl dX6_store_10 ?_
      refine x_aldq (f := adr mm) C 27 2 rfl rfl (in2q eqa hK) dX6_store_11 ?_
      refine x_st (st' := [va_rf none]) (by unfold adr; rw [hmv]; rfl) ?_
      refine x_ifnonnull C 28 (by decide) dX6_store_12 (fun _ h => nomatch h) (fun _ => ?_)
      refine x_aload_n C 0 rfl rfl dX6_store_15 ?_
      refine x_get C 0 6 4 rfl rfl wLy_X6 wFL_X6_20 rfl (by decide) rfl dX6_store_16 ?_
      refine x_iload_n C 1 rfl rfl dX6_store_19 ?_
      refine x_new (ci := 4) C tyX4 wLy_X4 tyX4_ok wCL_X6_7 wIs_X4 wIn_X4 rfl (fs := [.null, .null, .null, .null, .null]) (fun j hj => match j, hj with | 0, _ => rfl | 1, _ => rfl | 2, _ => rfl | 3, _ => rfl | 4, _ => rfl | j + 5, h => absurd h (by omega)) (nle rfl) (nle rfl) dX6_store_20 (fun q1 => ?_)
      refine x_dup C rfl dX6_store_23 ?_
      refine x_callIN (host := RX6) (w1 := _) (wc := _) (w2 := ([] : va_W)) [] [.ref q1, .int qa, .ref (ap 2)] C (k_X4_init l g q1) yI_X4_init (by decide +kernel) rfl rfl rfl (nle rfl) (nle rfl) (nle rfl) (nle rfl) (nle rfl) dX6_store_24 (fun E w h => h.elim) (fun r0 w h => ?_)
      obtain ⟨rfl, adn, hq, rfl⟩ := h
      subst hq
      refine x_perm (ws' := (wPo g ap ad po pn pl ++ (wS0 g ad ++ (wSk g ad r.kp r.ke r.kr r.kt r.kh r.kc ++ (wMx g ad r.xn r.xs r.xv r.xh r.xo r.xc ++ (wSv g ad r.vd r.vn r.vl r.vu r.vs r.vm r.vp r.vt r.va r.vw ++ (wLk g ad r.jd r.jb r.jc r.js r.jl r.jx r.ji r.jf r.jn ++ (wDm g ad r.dq ++ (wPq g ap (adr sv) (adr mm) tx ++ (wRd g (ap 4) rp rl rs rm rn rz ++ (wSt g adn r00 ++ (wPl g mm 2 ++ wPl g sv 6)))))))))))) (pm_in2 (wPo g ap ad po pn pl ++ (wS0 g ad ++ (wSk g ad r.kp r.ke r.kr r.kt r.kh r.kc ++ (wMx g ad r.xn r.xs r.xv r.xh r.xo r.xc ++ (wSv g ad r.vd r.vn r.vl r.vu r.vs r.vm r.vp r.vt r.va r.vw ++ (wLk g ad r.jd r.jb r.jc r.js r.jl r.jx r.ji r.jf r.jn ++ (wDm g ad r.dq ++ (wPq g ap (adr sv) (adr mm) tx ++ (wRd g (ap 4) rp rl rs rm rn rz))))))))) (wPl g sv 6) (wPl g mm 2) (wSt g adn r00)) ?_
      refine x_astq C 27 2 30 4 (f := adr mm) (r := (RX4, TX4, 5)) (wPo g ap ad po pn pl ++ (wS0 g ad ++ (wSk g ad r.kp r.ke r.kr r.kt r.kh r.kc ++ (wMx g ad r.xn r.xs r.xv r.xh r.xo r.xc ++ (wSv g ad r.vd r.vn r.vl r.vu r.vs r.vm r.vp r.vt r.va r.vw ++ (wLk g ad r.jd r.jb r.jc r.js r.jl r.jx r.ji r.jf r.jn ++ (wDm g ad r.dq ++ (wPq g ap (adr sv) (va_up (adr mm) (Int32.toNatClampNeg qa) (some (adn 0))) tx ++ (wRd g (ap 4) rp rl rs rm rn rz ++ (wSt g adn r00 ++ (wPl g mm 2 ++ wPl g sv 6))))))))))) rfl rfl rfl rfl rfl (in2q eqa hK) dX6_store_27 ?_
      have hno2 : upP mm (Int32.toNatClampNeg qa) none = mm := upP_self mm _ none hmv
      have hw := KT adn r00 (va_up (adr mm) (Int32.toNatClampNeg qa) (some (adn 0))) (va_up_self _ _ _) (by rw [adr_upP]; rfl) ⟨adn, by unfold stS; rw [hmv]⟩
      rw [hno2] at hw
      exact hw
    · refine x_aload_n C 0 rfl rfl dX6_store_6 ?_
      refine x_get C 0 6 4 rfl rfl wLy_X6 wFL_X6_20 rfl (by decide) rfl dX6_store_7 ?_
      refine x_iload_n C 1 rfl rfl dX6_store_10 ?_
      refine x_aldq (f := adr mm) C 27 2 rfl rfl (in2q eqa hK) dX6_store_11 ?_
      refine x_st (st' := [va_rf (some (a1 0))]) (by unfold adr; rw [hmv]; rfl) ?_
      refine x_ifnonnull C 28 (by decide) dX6_store_12 (fun _ _ => ?_) (fun h => nomatch h)
      refine x_wid (k := 26) (n := 192) (by decide) (by decide) ?_
      have hs1 : upP mm (Int32.toNatClampNeg qa) (some (a1, r1)) = mm := upP_self mm _ _ hmv
      have hpm : (wPl g mm 2).Perm (wSt g a1 r1 ++ wPl g (upP mm (Int32.toNatClampNeg qa) none) 2) := by
        have := wPl_perm g mm (Int32.toNatClampNeg qa) a1 r1 2 hK
        rw [hs1] at this
        exact this
      refine x_perm (ws' := (wPo g ap ad po pn pl ++ (wS0 g ad ++ (wSk g ad r.kp r.ke r.kr r.kt r.kh r.kc ++ (wMx g ad r.xn r.xs r.xv r.xh r.xo r.xc ++ (wSv g ad r.vd r.vn r.vl r.vu r.vs r.vm r.vp r.vt r.va r.vw ++ (wLk g ad r.jd r.jb r.jc r.js r.jl r.jx r.ji r.jf r.jn ++ (wDm g ad r.dq ++ (wPq g ap (adr sv) (adr mm) tx ++ (wRd g (ap 4) rp rl rs rm rn rz ++ (wSt g a1 r1 ++ (wPl g (upP mm (Int32.toNatClampNeg qa) none) 2 ++ wPl g sv 6)))))))))))) (pm_pr (wPo g ap ad po pn pl ++ (wS0 g ad ++ (wSk g ad r.kp r.ke r.kr r.kt r.kh r.kc ++ (wMx g ad r.xn r.xs r.xv r.xh r.xo r.xc ++ (wSv g ad r.vd r.vn r.vl r.vu r.vs r.vm r.vp r.vt r.va r.vw ++ (wLk g ad r.jd r.jb r.jc r.js r.jl r.jx r.ji r.jf r.jn ++ (wDm g ad r.dq ++ (wPq g ap (adr sv) (adr mm) tx ++ (wRd g (ap 4) rp rl rs rm rn rz))))))))) hpm) ?_
      exact KT a1 r1 (adr mm) (by unfold adr; rw [hmv]; rfl) (adr_put hmv) ⟨a1, by unfold stS; rw [hmv]⟩
  intro a1 r1 qs hq1 hq2 hq3
  obtain ⟨adn, hq3⟩ := hq3
  refine x_aload_n C 0 rfl rfl dX6_store_28 ?_
  refine x_get C 0 6 4 rfl rfl wLy_X6 wFL_X6_20 rfl (by decide) rfl dX6_store_29 ?_
  have hk1l := rq_le hk1 (by decide) (show (1 : Int32) = nI 1 from rfl) (by decide)
  refine x_iload_n C 1 rfl rfl dX6_store_32 ?_
  refine x_aldq (f := qs) C 27 2 rfl rfl (in2q eqa hK) dX6_store_33 ?_
  refine x_st (st' := [.ref (a1 0)]) (by rw [hq1]; rfl) ?_
  refine x_aload_n C 0 rfl rfl dX6_store_34 ?_
  refine x_get C 0 6 0 rfl rfl wLy_X6 wFL_X6_10 rfl (by decide) rfl dX6_store_35 ?_
  refine x_GV2s (w0 := wPo g ap ad po pn pl) (w1 := wPq g ap (adr sv) qs tx ++ wRd g (ap 4) rp rl rs rm rn rz) (w2 := wPl g (upP mm (Int32.toNatClampNeg qa) none) 2 ++ wPl g sv 6) (X := wSt g a1 r1) (Y := wSt g ad r) (X' := wSt g a1 (cpR r r1)) (Y' := wSt g ad r) [.ref (ad 0)] [] (wPo g ap ad po pn pl ++ (wS0 g ad ++ (wSk g ad r.kp r.ke r.kr r.kt r.kh r.kc ++ (wMx g ad r.xn r.xs r.xv r.xh r.xo r.xc ++ (wSv g ad r.vd r.vn r.vl r.vu r.vs r.vm r.vp r.vt r.va r.vw ++ (wLk g ad r.jd r.jb r.jc r.js r.jl r.jx r.ji r.jf r.jn ++ (wDm g ad r.dq ++ (wPq g ap (adr sv) qs tx ++ (wRd g (ap 4) rp rl rs rm rn rz ++ (wSt g a1 (cpR r r1) ++ (wPl g (upP mm (Int32.toNatClampNeg qa) none) 2 ++ wPl g sv 6))))))))))) C (k_X4_copyR l g a1 ad r r1 hc.1.1 hc.2.1 hc.2.2.1) rfl yV_X4_copyFrom wML_X6_267 rfl rfl rfl rfl rfl (nle rfl) (nle rfl) (nle rfl) (nle rfl) (nle rfl) dX6_store_38 ?_
  refine x_perm (ws' := (wPo g ap ad po pn pl ++ (wS0 g ad ++ (wSk g ad r.kp r.ke r.kr r.kt r.kh r.kc ++ (wMx g ad r.xn r.xs r.xv r.xh r.xo r.xc ++ (wSv g ad r.vd r.vn r.vl r.vu r.vs r.vm r.vp r.vt r.va r.vw ++ (wLk g ad r.jd r.jb r.jc r.js r.jl r.jx r.ji r.jf r.jn ++ (wDm g ad r.dq ++ (wPq g ap (adr sv) (adr (upP mm (Int32.toNatClampNeg qa) (some (a1, cpR r r1)))) tx ++ (wRd g (ap 4) rp rl rs rm rn rz ++ (wPl g sv 6 ++ wPl g (upP mm (Int32.toNatClampNeg qa) (some (a1, cpR r r1))) 2))))))))))) (by rw [hq2]; exact (pm_pr (wPo g ap ad po pn pl ++ (wS0 g ad ++ (wSk g ad r.kp r.ke r.kr r.kt r.kh r.kc ++ (wMx g ad r.xn r.xs r.xv r.xh r.xo r.xc ++ (wSv g ad r.vd r.vn r.vl r.vu r.vs r.vm r.vp r.vt r.va r.vw ++ (wLk g ad r.jd r.jb r.jc r.js r.jl r.jx r.ji r.jf r.jn ++ (wDm g ad r.dq ++ (wPq g ap (adr sv) (adr (upP mm (Int32.toNatClampNeg qa) (some (a1, cpR r r1)))) tx ++ (wRd g (ap 4) rp rl rs rm rn rz))))))))) (wPl_perm g mm (Int32.toNatClampNeg qa) a1 (cpR r r1) 2 hK)).symm) ?_
  refine x_aload_n C 0 rfl rfl dX6_store_41 ?_
  refine x_get C 0 6 0 rfl rfl wLy_X6 wFL_X6_10 rfl (by decide) rfl dX6_store_42 ?_
  refine x_get C 1 4 1 rfl rfl wLy_X4 wFL_X6_90 rfl (by decide) rfl dX6_store_45 ?_
  refine x_get C 7 2 0 rfl rfl wLy_X2 wFL_X6_100 rfl (by decide) rfl dX6_store_48 ?_
  exact x_iret C hr (nle rfl) (nle rfl) dX6_store_51 ⟨(by simp only [er_X6_store, if_pos hk1]), rfl, adn, by rw [← hq3]; rfl⟩
