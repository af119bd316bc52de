theorem RS.dq_c {r : xR} {u : Nat → Int32} {b : Nat} (h : RS r u b) (d : Nat → Int32) : RS (r.set_dq d) u b := ⟨h.1, h.2⟩
theorem trs_RS {r : xR} {u : Nat → Int32} (h : RS r u 0) (dm : Nat → Int32) (z : Int32) : ∀ n, RS (xRk r.kp r.ke r.kr r.kt r.kh r.kc r.xn r.xs r.xv r.xh r.xo r.xc r.vd r.vn r.vl r.vu r.vs r.vm r.vp (sp_trs r.kp r.ke r.kr r.kt r.kh r.kc r.xn r.xs r.xv r.xh r.xo r.xc r.vd r.vn r.vl r.vu r.vs r.vm r.vp r.jd r.dq z 0 r.vt r.va r.vw r.jb r.js r.jl r.jx r.ji r.jf r.jn n).2.1 (sp_trs r.kp r.ke r.kr r.kt r.kh r.kc r.xn r.xs r.xv r.xh r.xo r.xc r.vd r.vn r.vl r.vu r.vs r.vm r.vp r.jd r.dq z 0 r.vt r.va r.vw r.jb r.js r.jl r.jx r.ji r.jf r.jn n).2.2.1 (sp_trs r.kp r.ke r.kr r.kt r.kh r.kc r.xn r.xs r.xv r.xh r.xo r.xc r.vd r.vn r.vl r.vu r.vs r.vm r.vp r.jd r.dq z 0 r.vt r.va r.vw r.jb r.js r.jl r.jx r.ji r.jf r.jn n).2.2.2.1 r.jd (sp_trs r.kp r.ke r.kr r.kt r.kh r.kc r.xn r.xs r.xv r.xh r.xo r.xc r.vd r.vn r.vl r.vu r.vs r.vm r.vp r.jd r.dq z 0 r.vt r.va r.vw r.jb r.js r.jl r.jx r.ji r.jf r.jn n).2.2.2.2.1 r.jc (sp_trs r.kp r.ke r.kr r.kt r.kh r.kc r.xn r.xs r.xv r.xh r.xo r.xc r.vd r.vn r.vl r.vu r.vs r.vm r.vp r.jd r.dq z 0 r.vt r.va r.vw r.jb r.js r.jl r.jx r.ji r.jf r.jn n).2.2.2.2.2.1 (sp_trs r.kp r.ke r.kr r.kt r.kh r.kc r.xn r.xs r.xv r.xh r.xo r.xc r.vd r.vn r.vl r.vu r.vs r.vm r.vp r.jd r.dq z 0 r.vt r.va r.vw r.jb r.js r.jl r.jx r.ji r.jf r.jn n).2.2.2.2.2.2.1 (sp_trs r.kp r.ke r.kr r.kt r.kh r.kc r.xn r.xs r.xv r.xh r.xo r.xc r.vd r.vn r.vl r.vu r.vs r.vm r.vp r.jd r.dq z 0 r.vt r.va r.vw r.jb r.js r.jl r.jx r.ji r.jf r.jn n).2.2.2.2.2.2.2.1 (sp_trs r.kp r.ke r.kr r.kt r.kh r.kc r.xn r.xs r.xv r.xh r.xo r.xc r.vd r.vn r.vl r.vu r.vs r.vm r.vp r.jd r.dq z 0 r.vt r.va r.vw r.jb r.js r.jl r.jx r.ji r.jf r.jn n).2.2.2.2.2.2.2.2.1 (sp_trs r.kp r.ke r.kr r.kt r.kh r.kc r.xn r.xs r.xv r.xh r.xo r.xc r.vd r.vn r.vl r.vu r.vs r.vm r.vp r.jd r.dq z 0 r.vt r.va r.vw r.jb r.js r.jl r.jx r.ji r.jf r.jn n).2.2.2.2.2.2.2.2.2.1 (sp_trs r.kp r.ke r.kr r.kt r.kh r.kc r.xn r.xs r.xv r.xh r.xo r.xc r.vd r.vn r.vl r.vu r.vs r.vm r.vp r.jd r.dq z 0 r.vt r.va r.vw r.jb r.js r.jl r.jx r.ji r.jf r.jn n).2.2.2.2.2.2.2.2.2.2 r.dq) (sp_fs z u dm 0 n).1 0 ∧ (sp_trs r.kp r.ke r.kr r.kt r.kh r.kc r.xn r.xs r.xv r.xh r.xo r.xc r.vd r.vn r.vl r.vu r.vs r.vm r.vp r.jd r.dq z 0 r.vt r.va r.vw r.jb r.js r.jl r.jx r.ji r.jf r.jn n).1 = (sp_fs z u dm 0 n).2.2
  | 0 => ⟨h, rfl⟩
  | n + 1 => by
    obtain ⟨hR, hN⟩ := trs_RS h dm z n
    simp only [sp_trs, sp_fs]
    generalize (sp_trs r.kp r.ke r.kr r.kt r.kh r.kc r.xn r.xs r.xv r.xh r.xo r.xc r.vd r.vn r.vl r.vu r.vs r.vm r.vp r.jd r.dq z 0 r.vt r.va r.vw r.jb r.js r.jl r.jx r.ji r.jf r.jn n) = T at hR hN ⊢
    generalize sp_fs z u dm 0 n = F at hR hN ⊢
    obtain ⟨hA, hB⟩ := frame_RS hR z r.dq F.2.1
    unfold frR at hA
    simp only [pj_kp, pj_ke, pj_kr, pj_kt, pj_kh, pj_kc, pj_xn, pj_xs, pj_xv, pj_xh, pj_xo, pj_xc, pj_vd, pj_vn, pj_vl, pj_vu, pj_vs, pj_vm, pj_vp, pj_vt, pj_va, pj_vw, pj_jd, pj_jb, pj_jc, pj_js, pj_jl, pj_jx, pj_ji, pj_jf, pj_jn, pj_dq] at hA hB
    exact ⟨hA, by rw [← hB, hN]⟩
theorem fr1_hi (u : Nat → Int32) (z : Int32) {q : Nat} (hq : 156 ≤ q) : sp_fr1 u z q = u q := by
  unfold sp_fr1
  rw [un (by omega), un (by omega), un (by omega), un (by omega)]
theorem targ_hi (s dm : Nat → Int32) (zr zo : Int32) (a : Nat → Int32) {q : Nat} (hq : 156 ≤ q) : ∀ i, i ≤ 6 → sp_targ s dm zr zo a i q = a q
  | 0, _ => rfl
  | i + 1, hi => by
    simp only [sp_targ]
    rw [un (by omega)]
    exact targ_hi s dm zr zo a hq i (by omega)
theorem fr3_hi (u dm : Nat → Int32) (z : Int32) {q : Nat} (hq : 156 ≤ q) : sp_fr3 u dm z q = u q := by
  unfold sp_fr3
  rw [un (by omega), un (by omega), un (by omega)]
  unfold sp_fr2
  rw [targ_hi _ _ _ _ _ hq 6 (by omega), fr1_hi u z hq]
theorem moved_hi (s : Nat → Int32) {k q : Nat} (hk : k < 6) (hq : 156 ≤ q) : sp_X7_moved_s s k q = s q := by
  unfold sp_X7_moved_s
  rw [un (by omega), un (by omega), un (by omega)]
theorem frs_hi (s : Nat → Int32) (z : Int32) (a : Nat → Int32) (c : Int32) {q : Nat} (hq : 156 ≤ q) : ∀ i, i ≤ 6 → (sp_frs s z a c i).1 q = a q
  | 0, _ => rfl
  | i + 1, hi => by
    have ih := frs_hi s z a c hq i (by omega)
    simp only [sp_frs]
    generalize sp_frs s z a c i = B at ih ⊢
    by_cases c1 : sp_fro s z = 0
    · rw [if_pos c1, moved_hi _ (by omega) hq]; exact ih
    · rw [if_neg c1]
      by_cases c2 : B.1 (0 + 87 + 10 * i + 5) = 2
      · rw [if_pos c2]; exact ih
      · rw [if_neg c2, moved_hi _ (by omega) hq]; exact ih
theorem fs_hi (z : Int32) (u dm : Nat → Int32) (c : Int32) {q : Nat} (hq : 156 ≤ q) : ∀ n, (sp_fs z u dm c n).1 q = u q
  | 0 => rfl
  | n + 1 => by
    have ih := fs_hi z u dm c hq n
    simp only [sp_fs]
    rw [frs_hi _ _ _ _ hq 6 (by omega), fr3_hi _ _ _ hq]
    exact ih
set_option maxHeartbeats 4000000 in
theorem P_send (r : xR) (po : Int32) (pn : Int32) (pl : Int32) (tx : Nat → Int32) (rp : Int32) (rl : Int32) (rs : Int32) (rm : Int32) (rn : Int32) (rz : Int32) (sv : xPl) (mm : xPl) (u : Nat → Int32) (fi : Nat → Int32) (t2 : Nat → Int32) (dm : Nat → Int32) (th : Int32) (sa : Int32) (ln : Int32) (pa : Int32) (le : Int32) (sk : Int32) (nu : Int32) (h : Int64) (qa : Int32) (H : RI r po pn pl tx sv mm u fi t2 sa ln) : ((er_X6_send qa) = none → (sp_X7_send_th qa) = 0 ∧ (sp_X6_send r qa) = (sp_X7_send u dm sa qa) ∧ ∀ adn : Nat → Nat, RI (xRk r.kp r.ke r.kr r.kt r.kh r.kc r.xn r.xs r.xv r.xh r.xo r.xc r.vd r.vn r.vl r.vu r.vs r.vm r.vp (sp_X6_send_vt r qa) (sp_X6_send_va r qa) (sp_X6_send_vw r qa) r.jd (sp_X6_send_jb r qa) r.jc (sp_X6_send_js r qa) (sp_X6_send_jl r qa) (sp_X6_send_jx r qa) (sp_X6_send_ji r qa) (sp_X6_send_jf r qa) (sp_X6_send_jn r qa) (sp_cdm r.kp r.ke r.kr r.kt r.kh r.kc r.xn r.xs r.xv r.xh r.xo r.xc r.dq 6)) (sp_spo2 po pn) (sp_spn2 pn) pl tx (svS sv adn r po pn) mm (sp_X7_send_s u dm sa qa) fi t2 (sp_X7_send_sa sa qa) ln) ∧ (∀ (E : String) (cd : Int32), (er_X6_send qa) = some E → ((E = xIA ∧ cd = 1)) → (sp_X7_send_th qa) = cd ∧ RI r po pn pl tx sv mm (sp_X7_send_s u dm sa qa) fi t2 (sp_X7_send_sa sa qa) ln) := by
  unfold er_X6_send sp_X7_send_th sp_X7_send sp_X7_send_s sp_X7_send_sa sp_X6_send sp_X6_send_vt sp_X6_send_va sp_X6_send_vw sp_X6_send_jb sp_X6_send_js sp_X6_send_jl sp_X6_send_jx sp_X6_send_ji sp_X6_send_jf sp_X6_send_jn sp_X4_transmit sp_X4_transmit_vt sp_X4_transmit_va sp_X4_transmit_vw sp_X4_transmit_jb sp_X4_transmit_js sp_X4_transmit_jl sp_X4_transmit_jx sp_X4_transmit_ji sp_X4_transmit_jf sp_X4_transmit_jn
  by_cases c : (¬ qa < 1 ∧ qa ≤ 50)
  · have e := in_iff.mp c
    simp only [if_pos c, if_neg e]
    obtain ⟨hA, hB⟩ := trs_RS H.sv0 dm 1 (Int32.toNatClampNeg qa + 0)
    exact ⟨fun _ => ⟨trivial, hB, fun adn => H.saved adn (fun q q1 _ => fs_hi 1 _ _ _ q1 _) (hA.dq_c _)⟩, fun E cd q => absurd q (by simp)⟩
  · have e : sp_X7_in qa 1 50 = 0 := Decidable.not_not.mp (fun q => c (in_iff.mpr q))
    simp only [if_neg c, if_pos e]
    exact ⟨fun q => absurd q (by simp), fun E cd q w => ⟨w.2.symm, H⟩⟩
set_option maxHeartbeats 4000000 in
theorem P_lose (r : xR) (po : Int32) (pn : Int32) (pl : Int32) (tx : Nat → Int32) (rp : Int32) (rl : Int32) (rs : Int32) (rm : Int32) (rn : Int32) (rz : Int32) (sv : xPl) (mm : xPl) (u : Nat → Int32) (fi : Nat → Int32) (t2 : Nat → Int32) (dm : Nat → Int32) (th : Int32) (sa : Int32) (ln : Int32) (pa : Int32) (le : Int32) (sk : Int32) (nu : Int32) (h : Int64) (qa : Int32) (H : RI r po pn pl tx sv mm u fi t2 sa ln) : ((er_X6_lose qa) = none → (sp_X7_lose_th qa) = 0 ∧ (sp_X6_lose r qa) = (sp_X7_lose u dm sa qa) ∧ ∀ adn : Nat → Nat, RI (xRk r.kp r.ke r.kr r.kt r.kh r.kc r.xn r.xs r.xv r.xh r.xo r.xc r.vd r.vn r.vl r.vu r.vs r.vm r.vp (sp_X6_lose_vt r qa) (sp_X6_lose_va r qa) (sp_X6_lose_vw r qa) r.jd (sp_X6_lose_jb r qa) r.jc (sp_X6_lose_js r qa) (sp_X6_lose_jl r qa) (sp_X6_lose_jx r qa) (sp_X6_lose_ji r qa) (sp_X6_lose_jf r qa) (sp_X6_lose_jn r qa) (sp_cdm r.kp r.ke r.kr r.kt r.kh r.kc r.xn r.xs r.xv r.xh r.xo r.xc r.dq 6)) (sp_spo2 po pn) (sp_spn2 pn) pl tx (svS sv adn r po pn) mm (sp_X7_lose_s u dm sa qa) fi t2 (sp_X7_lose_sa sa qa) ln) ∧ (∀ (E : String) (cd : Int32), (er_X6_lose qa) = some E → ((E = xIA ∧ cd = 1)) → (sp_X7_lose_th qa) = cd ∧ RI r po pn pl tx sv mm (sp_X7_lose_s u dm sa qa) fi t2 (sp_X7_lose_sa sa qa) ln) := by
  unfold er_X6_lose sp_X7_lose_th sp_X7_lose sp_X7_lose_s sp_X7_lose_sa sp_X6_lose sp_X6_lose_vt sp_X6_lose_va sp_X6_lose_vw sp_X6_lose_jb sp_X6_lose_js sp_X6_lose_jl sp_X6_lose_jx sp_X6_lose_ji sp_X6_lose_jf sp_X6_lose_jn sp_X4_transmit sp_X4_transmit_vt sp_X4_transmit_va sp_X4_transmit_vw sp_X4_transmit_jb sp_X4_transmit_js sp_X4_transmit_jl sp_X4_transmit_jx sp_X4_transmit_ji sp_X4_transmit_jf sp_X4_transmit_jn
  by_cases c : (¬ qa < 1 ∧ qa ≤ 50)
  · have e := in_iff.mp c
    simp only [if_pos c, if_neg e]
    obtain ⟨hA, hB⟩ := trs_RS H.sv0 dm 0 (Int32.toNatClampNeg qa + 0)
    exact ⟨fun _ => ⟨trivial, hB, fun adn => H.saved adn (fun q q1 _ => fs_hi 0 _ _ _ q1 _) (hA.dq_c _)⟩, fun E cd q => absurd q (by simp)⟩
  · have e : sp_X7_in qa 1 50 = 0 := Decidable.not_not.mp (fun q => c (in_iff.mpr q))
    simp only [if_neg c, if_pos e]
    exact ⟨fun q => absurd q (by simp), fun E cd q w => ⟨w.2.symm, H⟩⟩
