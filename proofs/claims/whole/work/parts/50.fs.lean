section PJ
variable (kp : Nat → Int32) (ke : Nat → Int32) (kr : Nat → Int32) (kt : Nat → Int32) (kh : Int32) (kc : Int32) (xn : Int32) (xs : Nat → Int32) (xv : Nat → Int32) (xh : Nat → Int32) (xo : Nat → Int32) (xc : Nat → Int32) (vd : Nat → Int32) (vn : Nat → Int32) (vl : Nat → Int32) (vu : Nat → Int32) (vs : Nat → Int32) (vm : Nat → Int32) (vp : Nat → Int32) (vt : Nat → Int32) (va : Nat → Int32) (vw : Nat → Int32) (jd : Int32) (jb : Int32) (jc : Int32) (js : Int32) (jl : Int32) (jx : Int32) (ji : Int32) (jf : Int32) (jn : Int32) (dq : Nat → Int32)
theorem pj_kp : (xRk kp ke kr kt kh kc xn xs xv xh xo xc vd vn vl vu vs vm vp vt va vw jd jb jc js jl jx ji jf jn dq).kp = kp := rfl
theorem pj_ke : (xRk kp ke kr kt kh kc xn xs xv xh xo xc vd vn vl vu vs vm vp vt va vw jd jb jc js jl jx ji jf jn dq).ke = ke := rfl
theorem pj_kr : (xRk kp ke kr kt kh kc xn xs xv xh xo xc vd vn vl vu vs vm vp vt va vw jd jb jc js jl jx ji jf jn dq).kr = kr := rfl
theorem pj_kt : (xRk kp ke kr kt kh kc xn xs xv xh xo xc vd vn vl vu vs vm vp vt va vw jd jb jc js jl jx ji jf jn dq).kt = kt := rfl
theorem pj_kh : (xRk kp ke kr kt kh kc xn xs xv xh xo xc vd vn vl vu vs vm vp vt va vw jd jb jc js jl jx ji jf jn dq).kh = kh := rfl
theorem pj_kc : (xRk kp ke kr kt kh kc xn xs xv xh xo xc vd vn vl vu vs vm vp vt va vw jd jb jc js jl jx ji jf jn dq).kc = kc := rfl
theorem pj_xn : (xRk kp ke kr kt kh kc xn xs xv xh xo xc vd vn vl vu vs vm vp vt va vw jd jb jc js jl jx ji jf jn dq).xn = xn := rfl
theorem pj_xs : (xRk kp ke kr kt kh kc xn xs xv xh xo xc vd vn vl vu vs vm vp vt va vw jd jb jc js jl jx ji jf jn dq).xs = xs := rfl
theorem pj_xv : (xRk kp ke kr kt kh kc xn xs xv xh xo xc vd vn vl vu vs vm vp vt va vw jd jb jc js jl jx ji jf jn dq).xv = xv := rfl
theorem pj_xh : (xRk kp ke kr kt kh kc xn xs xv xh xo xc vd vn vl vu vs vm vp vt va vw jd jb jc js jl jx ji jf jn dq).xh = xh := rfl
theorem pj_xo : (xRk kp ke kr kt kh kc xn xs xv xh xo xc vd vn vl vu vs vm vp vt va vw jd jb jc js jl jx ji jf jn dq).xo = xo := rfl
theorem pj_xc : (xRk kp ke kr kt kh kc xn xs xv xh xo xc vd vn vl vu vs vm vp vt va vw jd jb jc js jl jx ji jf jn dq).xc = xc := rfl
theorem pj_vd : (xRk kp ke kr kt kh kc xn xs xv xh xo xc vd vn vl vu vs vm vp vt va vw jd jb jc js jl jx ji jf jn dq).vd = vd := rfl
theorem pj_vn : (xRk kp ke kr kt kh kc xn xs xv xh xo xc vd vn vl vu vs vm vp vt va vw jd jb jc js jl jx ji jf jn dq).vn = vn := rfl
theorem pj_vl : (xRk kp ke kr kt kh kc xn xs xv xh xo xc vd vn vl vu vs vm vp vt va vw jd jb jc js jl jx ji jf jn dq).vl = vl := rfl
theorem pj_vu : (xRk kp ke kr kt kh kc xn xs xv xh xo xc vd vn vl vu vs vm vp vt va vw jd jb jc js jl jx ji jf jn dq).vu = vu := rfl
theorem pj_vs : (xRk kp ke kr kt kh kc xn xs xv xh xo xc vd vn vl vu vs vm vp vt va vw jd jb jc js jl jx ji jf jn dq).vs = vs := rfl
theorem pj_vm : (xRk kp ke kr kt kh kc xn xs xv xh xo xc vd vn vl vu vs vm vp vt va vw jd jb jc js jl jx ji jf jn dq).vm = vm := rfl
theorem pj_vp : (xRk kp ke kr kt kh kc xn xs xv xh xo xc vd vn vl vu vs vm vp vt va vw jd jb jc js jl jx ji jf jn dq).vp = vp := rfl
theorem pj_vt : (xRk kp ke kr kt kh kc xn xs xv xh xo xc vd vn vl vu vs vm vp vt va vw jd jb jc js jl jx ji jf jn dq).vt = vt := rfl
theorem pj_va : (xRk kp ke kr kt kh kc xn xs xv xh xo xc vd vn vl vu vs vm vp vt va vw jd jb jc js jl jx ji jf jn dq).va = va := rfl
theorem pj_vw : (xRk kp ke kr kt kh kc xn xs xv xh xo xc vd vn vl vu vs vm vp vt va vw jd jb jc js jl jx ji jf jn dq).vw = vw := rfl
theorem pj_jd : (xRk kp ke kr kt kh kc xn xs xv xh xo xc vd vn vl vu vs vm vp vt va vw jd jb jc js jl jx ji jf jn dq).jd = jd := rfl
theorem pj_jb : (xRk kp ke kr kt kh kc xn xs xv xh xo xc vd vn vl vu vs vm vp vt va vw jd jb jc js jl jx ji jf jn dq).jb = jb := rfl
theorem pj_jc : (xRk kp ke kr kt kh kc xn xs xv xh xo xc vd vn vl vu vs vm vp vt va vw jd jb jc js jl jx ji jf jn dq).jc = jc := rfl
theorem pj_js : (xRk kp ke kr kt kh kc xn xs xv xh xo xc vd vn vl vu vs vm vp vt va vw jd jb jc js jl jx ji jf jn dq).js = js := rfl
theorem pj_jl : (xRk kp ke kr kt kh kc xn xs xv xh xo xc vd vn vl vu vs vm vp vt va vw jd jb jc js jl jx ji jf jn dq).jl = jl := rfl
theorem pj_jx : (xRk kp ke kr kt kh kc xn xs xv xh xo xc vd vn vl vu vs vm vp vt va vw jd jb jc js jl jx ji jf jn dq).jx = jx := rfl
theorem pj_ji : (xRk kp ke kr kt kh kc xn xs xv xh xo xc vd vn vl vu vs vm vp vt va vw jd jb jc js jl jx ji jf jn dq).ji = ji := rfl
theorem pj_jf : (xRk kp ke kr kt kh kc xn xs xv xh xo xc vd vn vl vu vs vm vp vt va vw jd jb jc js jl jx ji jf jn dq).jf = jf := rfl
theorem pj_jn : (xRk kp ke kr kt kh kc xn xs xv xh xo xc vd vn vl vu vs vm vp vt va vw jd jb jc js jl jx ji jf jn dq).jn = jn := rfl
theorem pj_dq : (xRk kp ke kr kt kh kc xn xs xv xh xo xc vd vn vl vu vs vm vp vt va vw jd jb jc js jl jx ji jf jn dq).dq = dq := rfl
end PJ
theorem trc_eq {r : xR} {u : Nat → Int32} (h : RS r u 0) (z : Int32) : (sp_trc r.jb z) = sp_frr u z := by
  have e : r.jb = u 148 := h.1.2.2.2.2.2.2.2.2.1
  unfold sp_trc sp_frr
  rw [e]
theorem ji_eq {r : xR} {u : Nat → Int32} (h : RS r u 0) (z : Int32) : (sp_X1_countFrame_ji r.ji (sp_trc r.jb z)) = (if (sp_frr u z) = 0 then ((u 153) + 1) else 0) := by
  obtain ⟨-, -, -, -, -, -, -, ⟨g1, g2, g3, g4, g5, g6, g7, g8, g9⟩⟩ := h.1
  rw [trc_eq h]
  unfold sp_X1_countFrame_ji
  rw [g7]
theorem jf_eq {r : xR} {u : Nat → Int32} (h : RS r u 0) (z : Int32) : (sp_X1_updateFailsafe_jf r.jd (sp_X1_countFrame_ji r.ji (sp_trc r.jb z))) = sp_fro u z := by
  obtain ⟨-, -, -, -, -, -, -, ⟨g1, g2, g3, g4, g5, g6, g7, g8, g9⟩⟩ := h.1
  unfold sp_X1_updateFailsafe_jf sp_fro
  rw [ji_eq h, g1]
theorem fr1_eq {r : xR} {u : Nat → Int32} (h : RS r u 0) (z : Int32) : sp_fr1 u z = upd (upd (upd (upd u 150 (r.js + 1)) 152 (sp_X1_countFrame_jx r.jb r.jx)) 151 (sp_X1_countFrame_jl r.jl (sp_trc r.jb z))) 153 (sp_X1_countFrame_ji r.ji (sp_trc r.jb z)) := by
  obtain ⟨-, -, -, -, -, -, -, ⟨g1, g2, g3, g4, g5, g6, g7, g8, g9⟩⟩ := h.1
  have e1 : u 150 + 1 = r.js + 1 := by rw [g4]
  have e2 : (u 152) + (if (u 148) = 0 then (1 : Int32) else 0) = (sp_X1_countFrame_jx r.jb r.jx) := by
    unfold sp_X1_countFrame_jx
    rw [g2, g6]
    by_cases c : u 148 = 0
    · rw [if_pos c, if_pos c]
    · rw [if_neg c, if_neg c, Int32.add_zero]
  have e3 : (u 151) + (if (sp_frr u z) = 0 then (1 : Int32) else 0) = (sp_X1_countFrame_jl r.jl (sp_trc r.jb z)) := by
    unfold sp_X1_countFrame_jl
    rw [trc_eq h, g5]
    by_cases c : sp_frr u z = 0
    · rw [if_pos c, if_pos c]
    · rw [if_neg c, if_neg c, Int32.add_zero]
  unfold sp_fr1
  rw [e1, e2, e3, ← ji_eq h]
theorem fr1_RS {r : xR} {u : Nat → Int32} (h : RS r u 0) (z : Int32) : RS (xRk r.kp r.ke r.kr r.kt r.kh r.kc r.xn r.xs r.xv r.xh r.xo r.xc r.vd r.vn r.vl r.vu r.vs r.vm r.vp r.vt r.va r.vw r.jd r.jb r.jc (r.js + 1) (sp_X1_countFrame_jl r.jl (sp_trc r.jb z)) (sp_X1_countFrame_jx r.jb r.jx) (sp_X1_countFrame_ji r.ji (sp_trc r.jb z)) r.jf r.jn r.dq) (sp_fr1 u z) 0 := by
  rw [fr1_eq h z]
  have d := (((h.s_js (r.js + 1)).s_jx (sp_X1_countFrame_jx r.jb r.jx)).s_jl (sp_X1_countFrame_jl r.jl (sp_trc r.jb z))).s_ji (sp_X1_countFrame_ji r.ji (sp_trc r.jb z))
  simp only [xR.set_js, xR.set_jx, xR.set_jl, xR.set_ji, pj_kp, pj_ke, pj_kr, pj_kt, pj_kh, pj_kc, pj_xn, pj_xs, pj_xv, pj_xh, pj_xo, pj_xc, pj_vd, pj_vn, pj_vl, pj_vu, pj_vs, pj_vm, pj_vp, pj_vt, pj_va, pj_vw, pj_jd, pj_jb, pj_jc, pj_js, pj_jl, pj_jx, pj_ji, pj_jf, pj_jn, pj_dq] at d
  exact d
theorem targ_RS {r : xR} {u : Nat → Int32} (h : RS r u 0) (z : Int32) (dq dm : Nat → Int32) : ∀ i, i ≤ 6 → ∃ V : Nat → Int32, RS (xRk r.kp r.ke r.kr r.kt r.kh r.kc r.xn r.xs r.xv r.xh r.xo r.xc r.vd r.vn r.vl r.vu r.vs r.vm r.vp V r.va r.vw r.jd r.jb r.jc (r.js + 1) (sp_X1_countFrame_jl r.jl (sp_trc r.jb z)) (sp_X1_countFrame_jx r.jb r.jx) (sp_X1_countFrame_ji r.ji (sp_trc r.jb z)) r.jf r.jn r.dq) (sp_targ (sp_fr1 u z) dm (sp_frr u z) (sp_fro u z) (sp_fr1 u z) i) 0 ∧ (∀ k, k < i → V k = (sp_tr2 r.vd r.vn r.vl r.vu r.vm r.vp r.vt r.jd r.jb r.ji (sp_cdm r.kp r.ke r.kr r.kt r.kh r.kc r.xn r.xs r.xv r.xh r.xo r.xc dq 6) z) k) ∧ (∀ k, i ≤ k → V k = r.vt k)
  | 0, _ => ⟨r.vt, fr1_RS h z, fun k hk => absurd hk (Nat.not_lt_zero _), fun _ _ => rfl⟩
  | i + 1, hi => by
    obtain ⟨V, hR, hlt, hge⟩ := targ_RS h z dq dm i (by omega)
    have hk : i < 6 := by omega
    have hd : (sp_cdm r.kp r.ke r.kr r.kt r.kh r.kc r.xn r.xs r.xv r.xh r.xo r.xc dq 6) i = sp_dems (sp_fr1 u z) 0 dm 6 i := dem_eq (fr1_RS h z) dq dm hk
    have hT := tr2_at r.vd r.vn r.vl r.vu r.vm r.vp r.vt r.jd r.jb r.ji (sp_cdm r.kp r.ke r.kr r.kt r.kh r.kc r.xn r.xs r.xv r.xh r.xo r.xc dq 6) z hk
    rw [jf_eq h, trc_eq h] at hT
    simp only [sp_targ]
    generalize sp_targ (sp_fr1 u z) dm (sp_frr u z) (sp_fro u z) (sp_fr1 u z) i = W at hR ⊢
    obtain ⟨a0, a1, a2, a3, a4, a5, a6, a7, a8, a9⟩ := hR.1.2.2.2.2.2.2.1 i hk
    obtain ⟨s0, s2, s3, s4, s7, s8⟩ := hR.2.2.2.2.2.2 i hk
    have hlim : ∀ v, sp_X3_limited r.vl r.vu i v = sp_X7_within v (W (0 + 87 + 10 * i + 2)) (W (0 + 87 + 10 * i + 3)) := fun v => aim_eq hR hk v
    have hraw : r.vn i + r.vd i * (sp_cdm r.kp r.ke r.kr r.kt r.kh r.kc r.xn r.xs r.xv r.xh r.xo r.xc dq 6) i = sp_X7_raw W (sp_dems (sp_fr1 u z) 0 dm 6) 0 i := raw_eq hR hk _ _ hd
    have bd : ∀ v, -150 ≤ sp_X7_within v (W (0 + 87 + 10 * i + 2)) (W (0 + 87 + 10 * i + 3)) ∧ sp_X7_within v (W (0 + 87 + 10 * i + 2)) (W (0 + 87 + 10 * i + 3)) ≤ 150 := fun v => by
      have q := wth_in (v := v) (lo_hi hR hk)
      exact ⟨Int32.le_trans s2.1 q.1, Int32.le_trans q.2 s3.2⟩
    have e5 : r.vm i = W (0 + 87 + 10 * i + 5) := a5
    have e6 : r.vp i = W (0 + 87 + 10 * i + 6) := a6
    have e7 : r.vt i = W (0 + 87 + 10 * i + 7) := (hge i (Nat.le_refl _)).symm.trans a7
    rw [hlim, hlim, hraw, e5, e6, e7] at hT
    refine ⟨upd V i ((sp_tr2 r.vd r.vn r.vl r.vu r.vm r.vp r.vt r.jd r.jb r.ji (sp_cdm r.kp r.ke r.kr r.kt r.kh r.kc r.xn r.xs r.xv r.xh r.xo r.xc dq 6) z) i), ?_, fun k hk2 => ?_, fun k hk2 => ?_⟩
    · rw [← hT]
      have d := hR.s_vt hk ((sp_tr2 r.vd r.vn r.vl r.vu r.vm r.vp r.vt r.jd r.jb r.ji (sp_cdm r.kp r.ke r.kr r.kt r.kh r.kc r.xn r.xs r.xv r.xh r.xo r.xc dq 6) z) i) ?_
      · simp only [xR.set_vt, pj_kp, pj_ke, pj_kr, pj_kt, pj_kh, pj_kc, pj_xn, pj_xs, pj_xv, pj_xh, pj_xo, pj_xc, pj_vd, pj_vn, pj_vl, pj_vu, pj_vs, pj_vm, pj_vp, pj_vt, pj_va, pj_vw, pj_jd, pj_jb, pj_jc, pj_js, pj_jl, pj_jx, pj_ji, pj_jf, pj_jn, pj_dq] at d
        exact d
      rw [hT]
      by_cases c1 : (if sp_fro u z = 0 then (0 : Int32) else if W (0 + 87 + 10 * i + 5) = 1 then (1 : Int32) else 0) = 0
      · rw [if_pos c1]
        by_cases c2 : sp_frr u z = 0
        · rw [if_pos c2]; exact s7
        · rw [if_neg c2]; exact bd _
      · rw [if_neg c1]; exact bd _
    · by_cases c : k = i
      · rw [ue c, c]
      · rw [un c]; exact hlt k (by omega)
    · rw [un (by omega)]; exact hge k (by omega)
theorem fr2_RS {r : xR} {u : Nat → Int32} (h : RS r u 0) (z : Int32) (dq dm : Nat → Int32) : RS (xRk r.kp r.ke r.kr r.kt r.kh r.kc r.xn r.xs r.xv r.xh r.xo r.xc r.vd r.vn r.vl r.vu r.vs r.vm r.vp (sp_tr2 r.vd r.vn r.vl r.vu r.vm r.vp r.vt r.jd r.jb r.ji (sp_cdm r.kp r.ke r.kr r.kt r.kh r.kc r.xn r.xs r.xv r.xh r.xo r.xc dq 6) z) r.va r.vw r.jd r.jb r.jc (r.js + 1) (sp_X1_countFrame_jl r.jl (sp_trc r.jb z)) (sp_X1_countFrame_jx r.jb r.jx) (sp_X1_countFrame_ji r.ji (sp_trc r.jb z)) r.jf r.jn r.dq) (sp_fr2 u dm z) 0 := by
  obtain ⟨V, hR, hlt, -⟩ := targ_RS h z dq dm 6 (Nat.le_refl _)
  have d := hR.vt_c (W := (sp_tr2 r.vd r.vn r.vl r.vu r.vm r.vp r.vt r.jd r.jb r.ji (sp_cdm r.kp r.ke r.kr r.kt r.kh r.kc r.xn r.xs r.xv r.xh r.xo r.xc dq 6) z)) (fun k hk => (hlt k hk).symm)
  simp only [xR.set_vt, pj_kp, pj_ke, pj_kr, pj_kt, pj_kh, pj_kc, pj_xn, pj_xs, pj_xv, pj_xh, pj_xo, pj_xc, pj_vd, pj_vn, pj_vl, pj_vu, pj_vs, pj_vm, pj_vp, pj_vt, pj_va, pj_vw, pj_jd, pj_jb, pj_jc, pj_js, pj_jl, pj_jx, pj_ji, pj_jf, pj_jn, pj_dq] at d
  exact d
theorem fr3_RS {r : xR} {u : Nat → Int32} (h : RS r u 0) (z : Int32) (dq dm : Nat → Int32) : RS (xRk r.kp r.ke r.kr r.kt r.kh r.kc r.xn r.xs r.xv r.xh r.xo r.xc r.vd r.vn r.vl r.vu r.vs r.vm r.vp (sp_tr2 r.vd r.vn r.vl r.vu r.vm r.vp r.vt r.jd r.jb r.ji (sp_cdm r.kp r.ke r.kr r.kt r.kh r.kc r.xn r.xs r.xv r.xh r.xo r.xc dq 6) z) r.va r.vw r.jd (sp_tr3 r.jb) r.jc (r.js + 1) (sp_X1_countFrame_jl r.jl (sp_trc r.jb z)) (sp_X1_countFrame_jx r.jb r.jx) (sp_X1_countFrame_ji r.ji (sp_trc r.jb z)) (sp_X1_updateFailsafe_jf r.jd (sp_X1_countFrame_ji r.ji (sp_trc r.jb z))) (sp_X1_updateFailsafe_jn r.jd (sp_X1_countFrame_ji r.ji (sp_trc r.jb z)) r.jf r.jn) r.dq) (sp_fr3 u dm z) 0 := by
  have h2 := fr2_RS h z dq dm
  unfold sp_fr3
  generalize sp_fr2 u dm z = F at h2 ⊢
  obtain ⟨-, -, -, -, -, -, -, ⟨g1, g2, g3, g4, g5, g6, g7, g8, g9⟩⟩ := h2.1
  have e1 : (F 154) + (if (sp_fro u z) = 0 then (0 : Int32) else (if (F 155) = 0 then (1 : Int32) else 0)) = (sp_X1_updateFailsafe_jn r.jd (sp_X1_countFrame_ji r.ji (sp_trc r.jb z)) r.jf r.jn) := by
    have e8 : F 154 = r.jn := g8.symm
    have e9 : F 155 = r.jf := g9.symm
    rw [e8, e9, ← jf_eq h]
    unfold sp_X1_updateFailsafe_jn sp_X1_updateFailsafe_jf
    generalize (if (sp_X1_countFrame_ji r.ji (sp_trc r.jb z)) < r.jd then (0 : Int32) else 1) = o
    by_cases c : o = 0
    · rw [if_pos c, if_pos c, Int32.add_zero]
    · rw [if_neg c, if_neg c]
      by_cases d : r.jf = 0
      · rw [if_pos d, if_pos d]
      · rw [if_neg d, if_neg d, Int32.add_zero]
  have e2 : (if (sp_fro u z) = 0 then (0 : Int32) else 1) = (sp_X1_updateFailsafe_jf r.jd (sp_X1_countFrame_ji r.ji (sp_trc r.jb z))) := by
    rw [jf_eq h]
    rcases sp_fro_b u z with q | q
    · rw [q, if_pos rfl]
    · rw [q, if_neg (by decide)]
  have e3 : (F 148) - (if (F 148) ≤ 0 then (0 : Int32) else 1) = sp_tr3 r.jb := by
    have e : F 148 = r.jb := g2.symm
    rw [e]
    unfold sp_tr3
    by_cases c : r.jb ≤ 0
    · rw [if_pos c, if_pos c, Int32.sub_zero]
    · rw [if_neg c, if_neg c]
  rw [e1, e2, e3]
  have d := RS.s_jb (RS.s_jf (RS.s_jn h2 (sp_X1_updateFailsafe_jn r.jd (sp_X1_countFrame_ji r.ji (sp_trc r.jb z)) r.jf r.jn)) (sp_X1_updateFailsafe_jf r.jd (sp_X1_countFrame_ji r.ji (sp_trc r.jb z))) ?_) (sp_tr3 r.jb) ?_
  · simp only [xR.set_jb, xR.set_jf, xR.set_jn, pj_kp, pj_ke, pj_kr, pj_kt, pj_kh, pj_kc, pj_xn, pj_xs, pj_xv, pj_xh, pj_xo, pj_xc, pj_vd, pj_vn, pj_vl, pj_vu, pj_vs, pj_vm, pj_vp, pj_vt, pj_va, pj_vw, pj_jd, pj_jb, pj_jc, pj_js, pj_jl, pj_jx, pj_ji, pj_jf, pj_jn, pj_dq] at d
    exact d
  · rw [jf_eq h]; exact sp_fro_b u z
  · have hb : (0 : Int32) ≤ r.jb := by
      have e : r.jb = u 148 := h.1.2.2.2.2.2.2.2.2.1
      rw [e]; exact h.2.2.2.2.1
    have i0 : (0 : Int32).toInt = 0 := by decide
    have i1 : (1 : Int32).toInt = 1 := by decide
    unfold sp_tr3
    by_cases c : r.jb ≤ 0
    · rw [if_pos c]; exact hb
    · rw [if_neg c]
      rw [Int32.le_iff_toInt_le] at c hb ⊢
      rw [xi_sub (by omega) (by have := Int32.toInt_lt r.jb; omega)]
      omega
theorem moved_RS {r : xR} {w : Nat → Int32} (h : RS r w 0) {k : Nat} (hk : k < 6) : RS (xRk r.kp r.ke r.kr r.kt r.kh r.kc r.xn r.xs r.xv r.xh r.xo r.xc r.vd r.vn r.vl r.vu r.vs r.vm r.vp r.vt (sp_X3_advance_va r.vs r.vt r.va k r.jb) (sp_X3_advance_vw r.vs r.vt r.va r.vw k r.jb) r.jd (r.jb - sp_X3_advance r.vs r.vt r.va k r.jb) r.jc r.js r.jl r.jx r.ji r.jf r.jn r.dq) (sp_X7_moved_s w k) 0 ∧ sp_X3_advance r.vs r.vt r.va k r.jb = sp_X7_size (sp_moved_by w k) := by
  obtain ⟨a0, a1, a2, a3, a4, a5, a6, a7, a8, a9⟩ := h.1.2.2.2.2.2.2.1 k hk
  obtain ⟨s0, s2, s3, s4, s7, s8⟩ := h.2.2.2.2.2.2 k hk
  have hjb : r.jb = w 148 := h.1.2.2.2.2.2.2.2.2.1
  have hb : (0 : Int32) ≤ r.jb := by rw [hjb]; exact h.2.2.2.2.1
  have i0 : (0 : Int32).toInt = 0 := by decide
  have i1 : (1 : Int32).toInt = 1 := by decide
  have i5 : (150 : Int32).toInt = 150 := by decide
  have i6 : (-150 : Int32).toInt = -150 := by decide
  rw [← a7] at s7
  rw [← a8] at s8
  rw [← a4] at s4
  simp only [Int32.le_iff_toInt_le] at s7 s8 s4 hb
  have hd : (r.vt k - r.va k).toInt = (r.vt k).toInt - (r.va k).toInt := xi_sub (by omega) (by omega)
  have hA : sp_X3_advance r.vs r.vt r.va k r.jb = adA (r.vt k - r.va k) r.jb (r.vs k) := rfl
  have hM : sp_moved_by w k = sp_X7_within (r.vt k - r.va k) (-(if r.jb ≤ r.vs k then r.jb else r.vs k)) (if r.jb ≤ r.vs k then r.jb else r.vs k) := by
    unfold sp_moved_by
    rw [← a7, ← a8, ← a4, ← hjb]
  obtain ⟨b1, b2, b3, b4, b5⟩ := adv_eq (d := r.vt k - r.va k) (mu := r.jb) (s := r.vs k) (by omega) (by omega) (by omega) (by omega)
  rw [← hM] at b1 b2 b5
  have hva : sp_X3_advance_va r.vs r.vt r.va k r.jb = upd r.va k (r.va k + sp_moved_by w k) := by
    rw [← b1]; rfl
  have hvw : sp_X3_advance_vw r.vs r.vt r.va r.vw k r.jb = upd r.vw k (r.vw k + sp_X7_size (sp_moved_by w k)) := by
    rw [← b2]; rfl
  rw [hA, hva, hvw, b2]
  rw [b2] at b3 b4
  refine ⟨?_, rfl⟩
  unfold sp_X7_moved_s
  rw [un (show (0 + 87 + 10 * k + 9) ≠ 0 + 87 + 10 * k + 8 by omega), un (show 148 ≠ 0 + 87 + 10 * k + 9 by omega), un (show 148 ≠ 0 + 87 + 10 * k + 8 by omega), ← a8, ← a9, ← hjb]
  have hp : (r.va k + sp_moved_by w k).toInt = (r.va k).toInt + (sp_moved_by w k).toInt := xi_add (by omega) (by omega)
  have hj : (r.jb - sp_X7_size (sp_moved_by w k)).toInt = r.jb.toInt - (sp_X7_size (sp_moved_by w k)).toInt := xi_sub (by omega) (by have := Int32.toInt_lt r.jb; omega)
  have d := RS.s_jb (RS.s_vw (RS.s_va h hk (r.va k + sp_moved_by w k) ?_) hk (r.vw k + sp_X7_size (sp_moved_by w k))) (r.jb - sp_X7_size (sp_moved_by w k)) ?_
  · simp only [xR.set_jb, xR.set_va, xR.set_vw, pj_kp, pj_ke, pj_kr, pj_kt, pj_kh, pj_kc, pj_xn, pj_xs, pj_xv, pj_xh, pj_xo, pj_xc, pj_vd, pj_vn, pj_vl, pj_vu, pj_vs, pj_vm, pj_vp, pj_vt, pj_va, pj_vw, pj_jd, pj_jb, pj_jc, pj_js, pj_jl, pj_jx, pj_ji, pj_jf, pj_jn, pj_dq] at d
    exact d
  · simp only [Int32.le_iff_toInt_le]
    omega
  · rw [Int32.le_iff_toInt_le]
    omega
theorem frs_RS {r : xR} {u : Nat → Int32} (h : RS r u 0) (z : Int32) (dq dm : Nat → Int32) : ∀ i, i ≤ 6 → RS (xRk r.kp r.ke r.kr r.kt r.kh r.kc r.xn r.xs r.xv r.xh r.xo r.xc r.vd r.vn r.vl r.vu r.vs r.vm r.vp (sp_tr2 r.vd r.vn r.vl r.vu r.vm r.vp r.vt r.jd r.jb r.ji (sp_cdm r.kp r.ke r.kr r.kt r.kh r.kc r.xn r.xs r.xv r.xh r.xo r.xc dq 6) z) (sp_avs r.vs r.vm (sp_tr2 r.vd r.vn r.vl r.vu r.vm r.vp r.vt r.jd r.jb r.ji (sp_cdm r.kp r.ke r.kr r.kt r.kh r.kc r.xn r.xs r.xv r.xh r.xo r.xc dq 6) z) (sp_X1_updateFailsafe_jf r.jd (sp_X1_countFrame_ji r.ji (sp_trc r.jb z))) r.va r.vw 0 (sp_tr3 r.jb) i).1 (sp_avs r.vs r.vm (sp_tr2 r.vd r.vn r.vl r.vu r.vm r.vp r.vt r.jd r.jb r.ji (sp_cdm r.kp r.ke r.kr r.kt r.kh r.kc r.xn r.xs r.xv r.xh r.xo r.xc dq 6) z) (sp_X1_updateFailsafe_jf r.jd (sp_X1_countFrame_ji r.ji (sp_trc r.jb z))) r.va r.vw 0 (sp_tr3 r.jb) i).2.1 r.jd (sp_avs r.vs r.vm (sp_tr2 r.vd r.vn r.vl r.vu r.vm r.vp r.vt r.jd r.jb r.ji (sp_cdm r.kp r.ke r.kr r.kt r.kh r.kc r.xn r.xs r.xv r.xh r.xo r.xc dq 6) z) (sp_X1_updateFailsafe_jf r.jd (sp_X1_countFrame_ji r.ji (sp_trc r.jb z))) r.va r.vw 0 (sp_tr3 r.jb) i).2.2.2 r.jc (r.js + 1) (sp_X1_countFrame_jl r.jl (sp_trc r.jb z)) (sp_X1_countFrame_jx r.jb r.jx) (sp_X1_countFrame_ji r.ji (sp_trc r.jb z)) (sp_X1_updateFailsafe_jf r.jd (sp_X1_countFrame_ji r.ji (sp_trc r.jb z))) (sp_X1_updateFailsafe_jn r.jd (sp_X1_countFrame_ji r.ji (sp_trc r.jb z)) r.jf r.jn) r.dq) (sp_frs u z (sp_fr3 u dm z) 0 i).1 0 ∧ (sp_avs r.vs r.vm (sp_tr2 r.vd r.vn r.vl r.vu r.vm r.vp r.vt r.jd r.jb r.ji (sp_cdm r.kp r.ke r.kr r.kt r.kh r.kc r.xn r.xs r.xv r.xh r.xo r.xc dq 6) z) (sp_X1_updateFailsafe_jf r.jd (sp_X1_countFrame_ji r.ji (sp_trc r.jb z))) r.va r.vw 0 (sp_tr3 r.jb) i).2.2.1 = (sp_frs u z (sp_fr3 u dm z) 0 i).2
  | 0, _ => ⟨fr3_RS h z dq dm, rfl⟩
  | i + 1, hi => by
    obtain ⟨hR, hN⟩ := frs_RS h z dq dm i (by omega)
    have hk : i < 6 := by omega
    have ho := jf_eq h z
    simp only [sp_avs, sp_frs]
    generalize (sp_avs r.vs r.vm (sp_tr2 r.vd r.vn r.vl r.vu r.vm r.vp r.vt r.jd r.jb r.ji (sp_cdm r.kp r.ke r.kr r.kt r.kh r.kc r.xn r.xs r.xv r.xh r.xo r.xc dq 6) z) (sp_X1_updateFailsafe_jf r.jd (sp_X1_countFrame_ji r.ji (sp_trc r.jb z))) r.va r.vw 0 (sp_tr3 r.jb) i) = A at hR hN ⊢
    generalize (sp_frs u z (sp_fr3 u dm z) 0 i) = B at hR hN ⊢
    obtain ⟨hM, hS⟩ := moved_RS hR hk
    simp only [pj_kp, pj_ke, pj_kr, pj_kt, pj_kh, pj_kc, pj_xn, pj_xs, pj_xv, pj_xh, pj_xo, pj_xc, pj_vd, pj_vn, pj_vl, pj_vu, pj_vs, pj_vm, pj_vp, pj_vt, pj_va, pj_vw, pj_jd, pj_jb, pj_jc, pj_js, pj_jl, pj_jx, pj_ji, pj_jf, pj_jn, pj_dq] at hM hS
    have e5 : r.vm i = B.1 (0 + 87 + 10 * i + 5) := (hR.1.2.2.2.2.2.2.1 i hk).2.2.2.2.2.1
    rw [← e5, ← ho]
    by_cases c : (sp_X1_updateFailsafe_jf r.jd (sp_X1_countFrame_ji r.ji (sp_trc r.jb z))) = 0
    · simp only [if_pos c]
      exact ⟨hM, by rw [← hS, hN]⟩
    · simp only [if_neg c]
      by_cases d : r.vm i = 2
      · simp only [if_pos d]
        exact ⟨hR, by rw [hN, Int32.add_zero]⟩
      · simp only [if_neg d]
        exact ⟨hM, by rw [← hS, hN]⟩
def frR (r : xR) (dq : Nat → Int32) (z : Int32) : xR := xRk r.kp r.ke r.kr r.kt r.kh r.kc r.xn r.xs r.xv r.xh r.xo r.xc r.vd r.vn r.vl r.vu r.vs r.vm r.vp (sp_tr2 r.vd r.vn r.vl r.vu r.vm r.vp r.vt r.jd r.jb r.ji (sp_cdm r.kp r.ke r.kr r.kt r.kh r.kc r.xn r.xs r.xv r.xh r.xo r.xc dq 6) z) (sp_X4_transmitOne_va r.vd r.vn r.vl r.vu r.vs r.vm r.vp r.vt r.va r.vw r.jd r.jb r.ji (sp_cdm r.kp r.ke r.kr r.kt r.kh r.kc r.xn r.xs r.xv r.xh r.xo r.xc dq 6) z) (sp_X4_transmitOne_vw r.vd r.vn r.vl r.vu r.vs r.vm r.vp r.vt r.va r.vw r.jd r.jb r.ji (sp_cdm r.kp r.ke r.kr r.kt r.kh r.kc r.xn r.xs r.xv r.xh r.xo r.xc dq 6) z) r.jd (sp_X4_transmitOne_jb r.vd r.vn r.vl r.vu r.vs r.vm r.vp r.vt r.va r.vw r.jd r.jb r.ji (sp_cdm r.kp r.ke r.kr r.kt r.kh r.kc r.xn r.xs r.xv r.xh r.xo r.xc dq 6) z) r.jc (r.js + 1) (sp_X1_countFrame_jl r.jl (sp_trc r.jb z)) (sp_X1_countFrame_jx r.jb r.jx) (sp_X1_countFrame_ji r.ji (sp_trc r.jb z)) (sp_X1_updateFailsafe_jf r.jd (sp_X1_countFrame_ji r.ji (sp_trc r.jb z))) (sp_X1_updateFailsafe_jn r.jd (sp_X1_countFrame_ji r.ji (sp_trc r.jb z)) r.jf r.jn) r.dq
theorem frame_RS {r : xR} {u : Nat → Int32} (h : RS r u 0) (z : Int32) (dq dm : Nat → Int32) : RS (frR r dq z) (sp_frs u z (sp_fr3 u dm z) 0 6).1 0 ∧ (sp_X4_transmitOne r.vd r.vn r.vl r.vu r.vs r.vm r.vp r.vt r.va r.vw r.jd r.jb r.ji (sp_cdm r.kp r.ke r.kr r.kt r.kh r.kc r.xn r.xs r.xv r.xh r.xo r.xc dq 6) z) = (sp_frs u z (sp_fr3 u dm z) 0 6).2 := frs_RS h z dq dm 6 (Nat.le_refl _)
