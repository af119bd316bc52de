/-- what the states of a pool keep -/
def rB (r : xR) : Prop := cOk r.kh r.xn r.xs ∧ (r.kc = 0 ∨ r.kc = 1) ∧ (r.jf = 0 ∨ r.jf = 1)
/-- the saved ones are there -/
def svK (sv : xPl) (po pn : Int32) : Prop := ∀ k, k < pn.toNatClampNeg → ∃ a r1, sv ((po.toNatClampNeg + k) % 6) = some (a, r1) ∧ rB r1
def unK (po pn : Int32) : Nat := (po.toNatClampNeg + (pn.toNatClampNeg - 1)) % 6
/-- the state that stands in a slot, or r -/
def svR (sv : xPl) (k : Nat) (r : xR) : xR := match sv k with | some x => x.2 | none => r
theorem k_X4_copyRn (l : Launch) (g : xGt) (ad a1 : Nat → Nat) (r r1 : xR) (z : rB r1) : xM l g.1 (xT g) yX4_copyFrom (ws_ yX4_copyFrom cX4_copyFrom 2 none) (xRm 2 43 0 0) 0 0 [.ref (ad 0), .ref (a1 0)] (wSt g ad r ++ wSt g a1 r1) (fun r9 w9 => r9 = none ∧ w9 = wSt g ad (cpR r1 r) ++ wSt g a1 r1) (fun _ _ => False) := k_X4_copyR l g ad a1 r1 r z.1.1 z.2.1 z.2.2
theorem pm_pr (B : va_W) {P P1 P2 M : va_W} (h : P.Perm (P1 ++ P2)) : (B ++ (M ++ P)).Perm (B ++ (P1 ++ (P2 ++ M))) := by
  refine List.Perm.append_left B ?_
  refine (List.Perm.append_left M h).trans ?_
  refine (List.perm_append_comm_assoc M P1 P2).trans ?_
  exact List.Perm.append_left P1 List.perm_append_comm
def er_X6_undo (pn : Int32) : Option String := (if pn ≤ 0 then some xIS else none)
set_option maxRecDepth 100000 in
set_option maxHeartbeats 4000000 in
theorem k_X6_undo (l : Launch) (g : xGt) (ap ad : Nat → Nat) (r : xR) (po : Int32) (pn : Int32) (pl : Int32) (tx : Nat → Int32) (rp : Int32) (rl : Int32) (rs : Int32) (rm : Int32) (rn : Int32) (rz : Int32) (sv : xPl) (mm : xPl) (hc : clO r po pn) (hsvk : svK sv po pn) : xM l g.1 (xT g) yX6_undo (ws_ yX6_undo cX6_undo 2 (some .int)) (xRm 6 94 1 6) 1 6 [.ref (ap 0)] (wCl g ap ad r po pn pl tx rp rl rs rm rn rz sv mm) (fun r9 w9 => (er_X6_undo pn) = none ∧ r9 = some (.int (pn - 1)) ∧ w9 = (wCl g ap ad (cpR (svR sv (unK po pn) r) r) po (pn - 1) pl tx rp rl rs rm rn rz sv mm)) (fun E w9 => (er_X6_undo pn) = some E ∧ w9 = (wCl g ap ad r po pn pl tx rp rl rs rm rn rz sv mm)) := by
  have h12 := hc.1.2.2.1
  refine x_start (own := RX6) (nm := "undo") rfl rfl (by decide +kernel) rfl (nle rfl) (fun p e σ m args below meth c A C hno hr => ?_)
  refine x_lve (lv' := [(0, .ref (ap 0))]) rfl ?_
  refine x_ws (ws' := (wPo g ap ad po pn pl ++ (wS0 g ad ++ (wSk g ad r.kp r.ke r.kr r.kt r.kh r.kc ++ (wMx g ad r.xn r.xs r.xv r.xh r.xo r.xc ++ (wSv g ad r.vd r.vn r.vl r.vu r.vs r.vm r.vp r.vt r.va r.vw ++ (wLk g ad r.jd r.jb r.jc r.js r.jl r.jx r.ji r.jf r.jn ++ (wDm g ad r.dq ++ (wPq g ap (adr sv) (adr mm) tx ++ (wRd g (ap 4) rp rl rs rm rn rz ++ (wPl g sv 6 ++ wPl g mm 2))))))))))) rfl ?_
  refine x_aload_n C 0 rfl rfl dX6_undo_0 ?_
  refine x_get C 0 6 3 rfl rfl wLy_X6 wFL_X6_259 rfl (by decide) rfl dX6_undo_1 ?_
  refine x_if_le C 25 (by decide) dX6_undo_4 (fun h1 => ?_) (fun h1 => ?_)
  · refine x_null C dX6_undo_25 ?_
    refine x_astore_nN C [(1, .null), (0, .ref (ap 0))] rfl rfl (by decide) dX6_undo_26 ?_
    refine x_aload_nN C 0 rfl rfl dX6_undo_27 ?_
    refine x_ifnonnullN C dX6_undo_28 ?_
    exact x_throwW C hno (by decide +kernel) wCL_X6_235 wIn_IllegalStateException (by decide +kernel) (show (265, "No state is saved.") ∈ xSs by decide +kernel) tw1_xIS tw2_xIS tw3_xIS dX6_undo_31 dX6_undo_34 dX6_undo_35 dX6_undo_38 dX6_undo_41 (nlt rfl) (nle rfl) (nle rfl) (nle rfl) (nle rfl) (nle rfl) ⟨(by simp only [er_X6_undo, if_pos h1]), rfl⟩
  · have hpn0 : 0 < pn.toNatClampNeg := by
      rcases Nat.eq_zero_or_pos pn.toNatClampNeg with q | q
      · exact absurd (by rw [hc.2.2.2.2.1, q]; decide) h1
      · exact q
    obtain ⟨a1, r1, hsv0, hrB⟩ := hsvk (pn.toNatClampNeg - 1) (by omega)
    have hK : unK po pn < 6 := Nat.mod_lt _ (by decide)
    have hsv1 : sv (unK po pn) = some (a1, r1) := hsv0
    refine x_aload_n C 0 rfl rfl dX6_undo_7 ?_
    refine x_get C 0 6 1 rfl rfl wLy_X6 wFL_X6_16 rfl (by decide) rfl dX6_undo_8 ?_
    refine x_aload_n C 0 rfl rfl dX6_undo_11 ?_
    refine x_aload_n C 0 rfl rfl dX6_undo_12 ?_
    refine x_get C 0 6 3 rfl rfl wLy_X6 wFL_X6_259 rfl (by decide) rfl dX6_undo_13 ?_
    refine x_iconst C 1 (by decide) dX6_undo_16 ?_
    refine x_isubN C (Int32.toNatClampNeg pn) 1 hc.2.2.2.2.1 rfl (by omega) dX6_undo_17 ?_
    refine x_FV0 [.int (nI ((Int32.toNatClampNeg pn) - 1))] [.ref (ap 1)] (wCl g ap ad r po pn pl tx rp rl rs rm rn rz sv mm) C (k_X6_savedSlot l g ap ad r po pn pl tx rp rl rs rm rn rz sv mm (nI ((Int32.toNatClampNeg pn) - 1)) ((Int32.toNatClampNeg pn) - 1) rfl hc.2.2.2.1 (by have := hc.2.2.2.2.2; omega)) rfl yV_X6_savedSlot wML_X6_262 rfl 0 rfl rfl rfl rfl (nle rfl) (nle rfl) (nle rfl) (nle rfl) (nle rfl) dX6_undo_18 ?_
    refine x_ws (ws' := (wPo g ap ad po pn pl ++ (wS0 g ad ++ (wSk g ad r.kp r.ke r.kr r.kt r.kh r.kc ++ (wMx g ad r.xn r.xs r.xv r.xh r.xo r.xc ++ (wSv g ad r.vd r.vn r.vl r.vu r.vs r.vm r.vp r.vt r.va r.vw ++ (wLk g ad r.jd r.jb r.jc r.js r.jl r.jx r.ji r.jf r.jn ++ (wDm g ad r.dq ++ (wPq g ap (adr sv) (adr mm) tx ++ (wRd g (ap 4) rp rl rs rm rn rz ++ (wPl g sv 6 ++ wPl g mm 2))))))))))) rfl ?_
    refine x_aldq (f := adr sv) C 26 2 rfl rfl (vp_in_nI hK (by decide)) dX6_undo_21 ?_
    refine x_st (st' := [.ref (a1 0)]) (by rw [nI_clamp (by omega)]; unfold adr; rw [hsv0]; rfl) ?_
    refine x_goto C 26 (by decide) dX6_undo_22 ?_
    refine x_astore_n C [(1, .ref (a1 0)), (0, .ref (ap 0))] rfl rfl (by decide) dX6_undo_26 ?_
    refine x_aload_n C 0 rfl rfl dX6_undo_27 ?_
    refine x_ifnonnullR C 42 (by decide) dX6_undo_28 ?_
    refine x_aload_n C 1 rfl rfl dX6_undo_42 ?_
    refine x_get C 0 6 0 rfl rfl wLy_X6 wFL_X6_10 rfl (by decide) rfl dX6_undo_43 ?_
    refine x_aload_n C 0 rfl rfl dX6_undo_46 ?_
    have hpm2 : (wPl g sv 6).Perm (wSt g a1 r1 ++ wPl g (upP sv (unK po pn) none) 6) := by
      have h0 := wPl_perm g sv (unK po pn) a1 r1 6 hK
      rw [upP_self _ _ _ hsv1] at h0
      exact h0
    refine x_perm (ws' := ((wPo g ap ad po pn pl ++ (wS0 g ad ++ (wSk g ad r.kp r.ke r.kr r.kt r.kh r.kc ++ (wMx g ad r.xn r.xs r.xv r.xh r.xo r.xc ++ (wSv g ad r.vd r.vn r.vl r.vu r.vs r.vm r.vp r.vt r.va r.vw ++ (wLk g ad r.jd r.jb r.jc r.js r.jl r.jx r.ji r.jf r.jn ++ (wDm g ad r.dq ++ (wPq g ap (adr sv) (adr mm) tx ++ (wRd g (ap 4) rp rl rs rm rn rz))))))))) ++ (wSt g a1 r1 ++ (wPl g (upP sv (unK po pn) none) 6 ++ wPl g mm 2)))) (pm_pl (wPo g ap ad po pn pl ++ (wS0 g ad ++ (wSk g ad r.kp r.ke r.kr r.kt r.kh r.kc ++ (wMx g ad r.xn r.xs r.xv r.xh r.xo r.xc ++ (wSv g ad r.vd r.vn r.vl r.vu r.vs r.vm r.vp r.vt r.va r.vw ++ (wLk g ad r.jd r.jb r.jc r.js r.jl r.jx r.ji r.jf r.jn ++ (wDm g ad r.dq ++ (wPq g ap (adr sv) (adr mm) tx ++ (wRd g (ap 4) rp rl rs rm rn rz))))))))) hpm2) ?_
    refine x_GV2 (w0 := wPo g ap ad po pn pl) (w1 := wPq g ap (adr sv) (adr mm) tx ++ wRd g (ap 4) rp rl rs rm rn rz) (w2 := wPl g (upP sv (unK po pn) none) 6 ++ wPl g mm 2) (X := wSt g ad r) (Y := wSt g a1 r1) (X' := wSt g ad (cpR r1 r)) (Y' := wSt g a1 r1) [.ref (a1 0)] [] ((wPo g ap ad po pn pl ++ (wS0 g ad ++ (wSk g ad ((cpR r1 r).kp) ((cpR r1 r).ke) ((cpR r1 r).kr) ((cpR r1 r).kt) ((cpR r1 r).kh) ((cpR r1 r).kc) ++ (wMx g ad ((cpR r1 r).xn) ((cpR r1 r).xs) ((cpR r1 r).xv) ((cpR r1 r).xh) ((cpR r1 r).xo) ((cpR r1 r).xc) ++ (wSv g ad ((cpR r1 r).vd) ((cpR r1 r).vn) ((cpR r1 r).vl) ((cpR r1 r).vu) ((cpR r1 r).vs) ((cpR r1 r).vm) ((cpR r1 r).vp) ((cpR r1 r).vt) ((cpR r1 r).va) ((cpR r1 r).vw) ++ (wLk g ad ((cpR r1 r).jd) ((cpR r1 r).jb) ((cpR r1 r).jc) ((cpR r1 r).js) ((cpR r1 r).jl) ((cpR r1 r).jx) ((cpR r1 r).ji) ((cpR r1 r).jf) ((cpR r1 r).jn) ++ (wDm g ad ((cpR r1 r).dq) ++ (wPq g ap (adr sv) (adr mm) tx ++ (wRd g (ap 4) rp rl rs rm rn rz))))))))) ++ (wSt g a1 r1 ++ (wPl g (upP sv (unK po pn) none) 6 ++ wPl g mm 2))) C (k_X4_copyRn l g ad a1 r r1 hrB) rfl yV_X4_copyFrom wML_X6_267 rfl rfl rfl rfl rfl (nle rfl) (nle rfl) (nle rfl) (nle rfl) (nle rfl) dX6_undo_47 ?_
    refine x_perm (ws' := (wPo g ap ad po pn pl ++ (wS0 g ad ++ (wSk g ad ((cpR r1 r).kp) ((cpR r1 r).ke) ((cpR r1 r).kr) ((cpR r1 r).kt) ((cpR r1 r).kh) ((cpR r1 r).kc) ++ (wMx g ad ((cpR r1 r).xn) ((cpR r1 r).xs) ((cpR r1 r).xv) ((cpR r1 r).xh) ((cpR r1 r).xo) ((cpR r1 r).xc) ++ (wSv g ad ((cpR r1 r).vd) ((cpR r1 r).vn) ((cpR r1 r).vl) ((cpR r1 r).vu) ((cpR r1 r).vs) ((cpR r1 r).vm) ((cpR r1 r).vp) ((cpR r1 r).vt) ((cpR r1 r).va) ((cpR r1 r).vw) ++ (wLk g ad ((cpR r1 r).jd) ((cpR r1 r).jb) ((cpR r1 r).jc) ((cpR r1 r).js) ((cpR r1 r).jl) ((cpR r1 r).jx) ((cpR r1 r).ji) ((cpR r1 r).jf) ((cpR r1 r).jn) ++ (wDm g ad ((cpR r1 r).dq) ++ (wPq g ap (adr sv) (adr mm) tx ++ (wRd g (ap 4) rp rl rs rm rn rz ++ (wPl g sv 6 ++ wPl g mm 2))))))))))) (pm_pl (wPo g ap ad po pn pl ++ (wS0 g ad ++ (wSk g ad ((cpR r1 r).kp) ((cpR r1 r).ke) ((cpR r1 r).kr) ((cpR r1 r).kt) ((cpR r1 r).kh) ((cpR r1 r).kc) ++ (wMx g ad ((cpR r1 r).xn) ((cpR r1 r).xs) ((cpR r1 r).xv) ((cpR r1 r).xh) ((cpR r1 r).xo) ((cpR r1 r).xc) ++ (wSv g ad ((cpR r1 r).vd) ((cpR r1 r).vn) ((cpR r1 r).vl) ((cpR r1 r).vu) ((cpR r1 r).vs) ((cpR r1 r).vm) ((cpR r1 r).vp) ((cpR r1 r).vt) ((cpR r1 r).va) ((cpR r1 r).vw) ++ (wLk g ad ((cpR r1 r).jd) ((cpR r1 r).jb) ((cpR r1 r).jc) ((cpR r1 r).js) ((cpR r1 r).jl) ((cpR r1 r).jx) ((cpR r1 r).ji) ((cpR r1 r).jf) ((cpR r1 r).jn) ++ (wDm g ad ((cpR r1 r).dq) ++ (wPq g ap (adr sv) (adr mm) tx ++ (wRd g (ap 4) rp rl rs rm rn rz))))))))) hpm2).symm ?_
    have hsR3 : (svR sv (unK po pn) r) = r1 := by unfold svR; rw [hsv1]
    refine x_ws (ws' := (wPo g ap ad po pn pl ++ (wS0 g ad ++ (wSk g ad ((cpR (svR sv (unK po pn) r) r).kp) ((cpR (svR sv (unK po pn) r) r).ke) ((cpR (svR sv (unK po pn) r) r).kr) ((cpR (svR sv (unK po pn) r) r).kt) ((cpR (svR sv (unK po pn) r) r).kh) ((cpR (svR sv (unK po pn) r) r).kc) ++ (wMx g ad ((cpR (svR sv (unK po pn) r) r).xn) ((cpR (svR sv (unK po pn) r) r).xs) ((cpR (svR sv (unK po pn) r) r).xv) ((cpR (svR sv (unK po pn) r) r).xh) ((cpR (svR sv (unK po pn) r) r).xo) ((cpR (svR sv (unK po pn) r) r).xc) ++ (wSv g ad ((cpR (svR sv (unK po pn) r) r).vd) ((cpR (svR sv (unK po pn) r) r).vn) ((cpR (svR sv (unK po pn) r) r).vl) ((cpR (svR sv (unK po pn) r) r).vu) ((cpR (svR sv (unK po pn) r) r).vs) ((cpR (svR sv (unK po pn) r) r).vm) ((cpR (svR sv (unK po pn) r) r).vp) ((cpR (svR sv (unK po pn) r) r).vt) ((cpR (svR sv (unK po pn) r) r).va) ((cpR (svR sv (unK po pn) r) r).vw) ++ (wLk g ad ((cpR (svR sv (unK po pn) r) r).jd) ((cpR (svR sv (unK po pn) r) r).jb) ((cpR (svR sv (unK po pn) r) r).jc) ((cpR (svR sv (unK po pn) r) r).js) ((cpR (svR sv (unK po pn) r) r).jl) ((cpR (svR sv (unK po pn) r) r).jx) ((cpR (svR sv (unK po pn) r) r).ji) ((cpR (svR sv (unK po pn) r) r).jf) ((cpR (svR sv (unK po pn) r) r).jn) ++ (wDm g ad ((cpR (svR sv (unK po pn) r) r).dq) ++ (wPq g ap (adr sv) (adr mm) tx ++ (wRd g (ap 4) rp rl rs rm rn rz ++ (wPl g sv 6 ++ wPl g mm 2))))))))))) (by rw [hsR3]) ?_
    refine x_aload_n C 1 rfl rfl dX6_undo_50 ?_
    refine x_dup C rfl dX6_undo_51 ?_
    refine x_get C 0 6 3 rfl rfl wLy_X6 wFL_X6_259 rfl (by decide) rfl dX6_undo_52 ?_
    refine x_iconst C 1 (by decide) dX6_undo_55 ?_
    refine x_isub C dX6_undo_56 ?_
    refine x_put C 0 6 3 tyX6 (wPo g ap ad po (pn - 1) pl ++ (wS0 g ad ++ (wSk g ad ((cpR (svR sv (unK po pn) r) r).kp) ((cpR (svR sv (unK po pn) r) r).ke) ((cpR (svR sv (unK po pn) r) r).kr) ((cpR (svR sv (unK po pn) r) r).kt) ((cpR (svR sv (unK po pn) r) r).kh) ((cpR (svR sv (unK po pn) r) r).kc) ++ (wMx g ad ((cpR (svR sv (unK po pn) r) r).xn) ((cpR (svR sv (unK po pn) r) r).xs) ((cpR (svR sv (unK po pn) r) r).xv) ((cpR (svR sv (unK po pn) r) r).xh) ((cpR (svR sv (unK po pn) r) r).xo) ((cpR (svR sv (unK po pn) r) r).xc) ++ (wSv g ad ((cpR (svR sv (unK po pn) r) r).vd) ((cpR (svR sv (unK po pn) r) r).vn) ((cpR (svR sv (unK po pn) r) r).vl) ((cpR (svR sv (unK po pn) r) r).vu) ((cpR (svR sv (unK po pn) r) r).vs) ((cpR (svR sv (unK po pn) r) r).vm) ((cpR (svR sv (unK po pn) r) r).vp) ((cpR (svR sv (unK po pn) r) r).vt) ((cpR (svR sv (unK po pn) r) r).va) ((cpR (svR sv (unK po pn) r) r).vw) ++ (wLk g ad ((cpR (svR sv (unK po pn) r) r).jd) ((cpR (svR sv (unK po pn) r) r).jb) ((cpR (svR sv (unK po pn) r) r).jc) ((cpR (svR sv (unK po pn) r) r).js) ((cpR (svR sv (unK po pn) r) r).jl) ((cpR (svR sv (unK po pn) r) r).jx) ((cpR (svR sv (unK po pn) r) r).ji) ((cpR (svR sv (unK po pn) r) r).jf) ((cpR (svR sv (unK po pn) r) r).jn) ++ (wDm g ad ((cpR (svR sv (unK po pn) r) r).dq) ++ (wPq g ap (adr sv) (adr mm) tx ++ (wRd g (ap 4) rp rl rs rm rn rz ++ (wPl g sv 6 ++ wPl g mm 2)))))))))) rfl rfl rfl wLy_X6 tyX6_ok nmX6 wFL_X6_259 rfl (by decide) rfl rfl rfl rfl (nlt rfl) dX6_undo_57 ?_
    refine x_aload_n C 1 rfl rfl dX6_undo_60 ?_
    refine x_get C 0 6 3 rfl rfl wLy_X6 wFL_X6_259 rfl (by decide) rfl dX6_undo_61 ?_
    exact x_iret C hr (nle rfl) (nle rfl) dX6_undo_64 ⟨(by simp only [er_X6_undo, if_neg h1]), rfl, rfl⟩
