theorem sd_frC (c : xR) (z : Int32) (n : Nat) (d : Nat → Int32) : xRk c.kp c.ke c.kr c.kt c.kh c.kc c.xn c.xs c.xv c.xh c.xo c.xc c.vd c.vn c.vl c.vu c.vs c.vm c.vp ((fr c z n).vt) ((fr c z n).va) ((fr c z n).vw) c.jd ((fr c z n).jb) c.jc ((fr c z n).js) ((fr c z n).jl) ((fr c z n).jx) ((fr c z n).ji) ((fr c z n).jf) ((fr c z n).jn) d = (frC c z n).set_dq d := by
  unfold frC
  simp only [xR.set_dq, pr_kp, pr_ke, pr_kr, pr_kt, pr_kh, pr_kc, pr_xn, pr_xs, pr_xv, pr_xh, pr_xo, pr_xc, pr_vd, pr_vn, pr_vl, pr_vu, pr_vs, pr_vm, pr_vp, pr_vt, pr_va, pr_vw, pr_jd, pr_jb, pr_jc, pr_js, pr_jl, pr_jx, pr_ji, pr_jf, pr_jn, pr_dq]
theorem s1_mv (c : xR) (d : Nat → Int32) (n : Nat) (hn : n < 2 ^ 31) : sp_X6_send (c.set_dq d) (nI n) = (frR c d 1 n).mv := by
  unfold sp_X6_send sp_X4_transmit frR xF.mv
  rw [nI_clamp hn]
  simp only [gq_kp, gq_ke, gq_kr, gq_kt, gq_kh, gq_kc, gq_xn, gq_xs, gq_xv, gq_xh, gq_xo, gq_xc, gq_vd, gq_vn, gq_vl, gq_vu, gq_vs, gq_vm, gq_vp, gq_vt, gq_va, gq_vw, gq_jd, gq_jb, gq_jc, gq_js, gq_jl, gq_jx, gq_ji, gq_jf, gq_jn, gq_dq, Nat.add_zero]
theorem s1_vt (c : xR) (d : Nat → Int32) (n : Nat) (hn : n < 2 ^ 31) : sp_X6_send_vt (c.set_dq d) (nI n) = (frR c d 1 n).vt := by
  unfold sp_X6_send_vt sp_X4_transmit_vt frR xF.vt
  rw [nI_clamp hn]
  simp only [gq_kp, gq_ke, gq_kr, gq_kt, gq_kh, gq_kc, gq_xn, gq_xs, gq_xv, gq_xh, gq_xo, gq_xc, gq_vd, gq_vn, gq_vl, gq_vu, gq_vs, gq_vm, gq_vp, gq_vt, gq_va, gq_vw, gq_jd, gq_jb, gq_jc, gq_js, gq_jl, gq_jx, gq_ji, gq_jf, gq_jn, gq_dq, Nat.add_zero]
theorem s1_va (c : xR) (d : Nat → Int32) (n : Nat) (hn : n < 2 ^ 31) : sp_X6_send_va (c.set_dq d) (nI n) = (frR c d 1 n).va := by
  unfold sp_X6_send_va sp_X4_transmit_va frR xF.va
  rw [nI_clamp hn]
  simp only [gq_kp, gq_ke, gq_kr, gq_kt, gq_kh, gq_kc, gq_xn, gq_xs, gq_xv, gq_xh, gq_xo, gq_xc, gq_vd, gq_vn, gq_vl, gq_vu, gq_vs, gq_vm, gq_vp, gq_vt, gq_va, gq_vw, gq_jd, gq_jb, gq_jc, gq_js, gq_jl, gq_jx, gq_ji, gq_jf, gq_jn, gq_dq, Nat.add_zero]
theorem s1_vw (c : xR) (d : Nat → Int32) (n : Nat) (hn : n < 2 ^ 31) : sp_X6_send_vw (c.set_dq d) (nI n) = (frR c d 1 n).vw := by
  unfold sp_X6_send_vw sp_X4_transmit_vw frR xF.vw
  rw [nI_clamp hn]
  simp only [gq_kp, gq_ke, gq_kr, gq_kt, gq_kh, gq_kc, gq_xn, gq_xs, gq_xv, gq_xh, gq_xo, gq_xc, gq_vd, gq_vn, gq_vl, gq_vu, gq_vs, gq_vm, gq_vp, gq_vt, gq_va, gq_vw, gq_jd, gq_jb, gq_jc, gq_js, gq_jl, gq_jx, gq_ji, gq_jf, gq_jn, gq_dq, Nat.add_zero]
theorem s1_jb (c : xR) (d : Nat → Int32) (n : Nat) (hn : n < 2 ^ 31) : sp_X6_send_jb (c.set_dq d) (nI n) = (frR c d 1 n).jb := by
  unfold sp_X6_send_jb sp_X4_transmit_jb frR xF.jb
  rw [nI_clamp hn]
  simp only [gq_kp, gq_ke, gq_kr, gq_kt, gq_kh, gq_kc, gq_xn, gq_xs, gq_xv, gq_xh, gq_xo, gq_xc, gq_vd, gq_vn, gq_vl, gq_vu, gq_vs, gq_vm, gq_vp, gq_vt, gq_va, gq_vw, gq_jd, gq_jb, gq_jc, gq_js, gq_jl, gq_jx, gq_ji, gq_jf, gq_jn, gq_dq, Nat.add_zero]
theorem s1_js (c : xR) (d : Nat → Int32) (n : Nat) (hn : n < 2 ^ 31) : sp_X6_send_js (c.set_dq d) (nI n) = (frR c d 1 n).js := by
  unfold sp_X6_send_js sp_X4_transmit_js frR xF.js
  rw [nI_clamp hn]
  simp only [gq_kp, gq_ke, gq_kr, gq_kt, gq_kh, gq_kc, gq_xn, gq_xs, gq_xv, gq_xh, gq_xo, gq_xc, gq_vd, gq_vn, gq_vl, gq_vu, gq_vs, gq_vm, gq_vp, gq_vt, gq_va, gq_vw, gq_jd, gq_jb, gq_jc, gq_js, gq_jl, gq_jx, gq_ji, gq_jf, gq_jn, gq_dq, Nat.add_zero]
theorem s1_jl (c : xR) (d : Nat → Int32) (n : Nat) (hn : n < 2 ^ 31) : sp_X6_send_jl (c.set_dq d) (nI n) = (frR c d 1 n).jl := by
  unfold sp_X6_send_jl sp_X4_transmit_jl frR xF.jl
  rw [nI_clamp hn]
  simp only [gq_kp, gq_ke, gq_kr, gq_kt, gq_kh, gq_kc, gq_xn, gq_xs, gq_xv, gq_xh, gq_xo, gq_xc, gq_vd, gq_vn, gq_vl, gq_vu, gq_vs, gq_vm, gq_vp, gq_vt, gq_va, gq_vw, gq_jd, gq_jb, gq_jc, gq_js, gq_jl, gq_jx, gq_ji, gq_jf, gq_jn, gq_dq, Nat.add_zero]
theorem s1_jx (c : xR) (d : Nat → Int32) (n : Nat) (hn : n < 2 ^ 31) : sp_X6_send_jx (c.set_dq d) (nI n) = (frR c d 1 n).jx := by
  unfold sp_X6_send_jx sp_X4_transmit_jx frR xF.jx
  rw [nI_clamp hn]
  simp only [gq_kp, gq_ke, gq_kr, gq_kt, gq_kh, gq_kc, gq_xn, gq_xs, gq_xv, gq_xh, gq_xo, gq_xc, gq_vd, gq_vn, gq_vl, gq_vu, gq_vs, gq_vm, gq_vp, gq_vt, gq_va, gq_vw, gq_jd, gq_jb, gq_jc, gq_js, gq_jl, gq_jx, gq_ji, gq_jf, gq_jn, gq_dq, Nat.add_zero]
theorem s1_ji (c : xR) (d : Nat → Int32) (n : Nat) (hn : n < 2 ^ 31) : sp_X6_send_ji (c.set_dq d) (nI n) = (frR c d 1 n).ji := by
  unfold sp_X6_send_ji sp_X4_transmit_ji frR xF.ji
  rw [nI_clamp hn]
  simp only [gq_kp, gq_ke, gq_kr, gq_kt, gq_kh, gq_kc, gq_xn, gq_xs, gq_xv, gq_xh, gq_xo, gq_xc, gq_vd, gq_vn, gq_vl, gq_vu, gq_vs, gq_vm, gq_vp, gq_vt, gq_va, gq_vw, gq_jd, gq_jb, gq_jc, gq_js, gq_jl, gq_jx, gq_ji, gq_jf, gq_jn, gq_dq, Nat.add_zero]
theorem s1_jf (c : xR) (d : Nat → Int32) (n : Nat) (hn : n < 2 ^ 31) : sp_X6_send_jf (c.set_dq d) (nI n) = (frR c d 1 n).jf := by
  unfold sp_X6_send_jf sp_X4_transmit_jf frR xF.jf
  rw [nI_clamp hn]
  simp only [gq_kp, gq_ke, gq_kr, gq_kt, gq_kh, gq_kc, gq_xn, gq_xs, gq_xv, gq_xh, gq_xo, gq_xc, gq_vd, gq_vn, gq_vl, gq_vu, gq_vs, gq_vm, gq_vp, gq_vt, gq_va, gq_vw, gq_jd, gq_jb, gq_jc, gq_js, gq_jl, gq_jx, gq_ji, gq_jf, gq_jn, gq_dq, Nat.add_zero]
theorem s1_jn (c : xR) (d : Nat → Int32) (n : Nat) (hn : n < 2 ^ 31) : sp_X6_send_jn (c.set_dq d) (nI n) = (frR c d 1 n).jn := by
  unfold sp_X6_send_jn sp_X4_transmit_jn frR xF.jn
  rw [nI_clamp hn]
  simp only [gq_kp, gq_ke, gq_kr, gq_kt, gq_kh, gq_kc, gq_xn, gq_xs, gq_xv, gq_xh, gq_xo, gq_xc, gq_vd, gq_vn, gq_vl, gq_vu, gq_vs, gq_vm, gq_vp, gq_vt, gq_va, gq_vw, gq_jd, gq_jb, gq_jc, gq_js, gq_jl, gq_jx, gq_ji, gq_jf, gq_jn, gq_dq, Nat.add_zero]
set_option maxRecDepth 100000 in
theorem a_send (l : Launch) (g : xGt) (ap ad : Nat → Nat) (c : xR) (d : Nat → Int32) (po pn : Int32) (sv mm : xPl) (n : Nat) (h_n : 1 ≤ n ∧ n ≤ 50) (H : rnP c) (Hp : pk po pn sv) (hM : gM c) : xM l g.1 (xT g) yX6_send (ws_ yX6_send cX6_send 2 (some .int)) (xRm 7 131 26 192) 26 192 [.ref (ap 0), .int (nI n)] (wB g ap ad c d po pn sv mm) (fun r9 w9 => r9 = some (.int (fr c 1 n).mv) ∧ ∃ d1 po1 pn1 sv1, w9 = wB g ap ad (frC c 1 n) d1 po1 pn1 sv1 mm ∧ sd c pn po1 pn1 sv1) (fun _ _ => False) := by
  have hn : n < 2 ^ 31 := by omega
  refine xM_mono (k_X6_send l g ap ad (c.set_dq d) po pn 0 (fun _ => (0 : Int32)) 0 0 0 0 0 0 sv mm (nI n) (pk_clO H.1 Hp d)) (fun r w h => ?_) (fun E w h => ?_)
  · obtain ⟨-, hr, adn, hw⟩ := h
    rw [s1_mv c d n hn, fr_eq d hM H.1 1 n] at hr
    simp only [gq_kp, gq_ke, gq_kr, gq_kt, gq_kh, gq_kc, gq_xn, gq_xs, gq_xv, gq_xh, gq_xo, gq_xc, gq_vd, gq_vn, gq_vl, gq_vu, gq_vs, gq_vm, gq_vp, gq_vt, gq_va, gq_vw, gq_jd, gq_jb, gq_jc, gq_js, gq_jl, gq_jx, gq_ji, gq_jf, gq_jn, gq_dq, s1_vt c d n hn, s1_va c d n hn, s1_vw c d n hn, s1_jb c d n hn, s1_js c d n hn, s1_jl c d n hn, s1_jx c d n hn, s1_ji c d n hn, s1_jf c d n hn, s1_jn c d n hn, fr_eq d hM H.1 1 n] at hw
    rw [sd_frC] at hw
    exact ⟨hr, _, _, _, _, hw, save_ok H.1 H.2 Hp adn d⟩
  · exact no_er (show er_X6_send (nI n) = none by unfold er_X6_send; rw [if_pos (frn h_n.1 h_n.2)]) h
theorem t1_mv (c : xR) (d : Nat → Int32) (n : Nat) (hn : n < 2 ^ 31) : sp_X6_lose (c.set_dq d) (nI n) = (frR c d 0 n).mv := by
  unfold sp_X6_lose sp_X4_transmit frR xF.mv
  rw [nI_clamp hn]
  simp only [gq_kp, gq_ke, gq_kr, gq_kt, gq_kh, gq_kc, gq_xn, gq_xs, gq_xv, gq_xh, gq_xo, gq_xc, gq_vd, gq_vn, gq_vl, gq_vu, gq_vs, gq_vm, gq_vp, gq_vt, gq_va, gq_vw, gq_jd, gq_jb, gq_jc, gq_js, gq_jl, gq_jx, gq_ji, gq_jf, gq_jn, gq_dq, Nat.add_zero]
theorem t1_vt (c : xR) (d : Nat → Int32) (n : Nat) (hn : n < 2 ^ 31) : sp_X6_lose_vt (c.set_dq d) (nI n) = (frR c d 0 n).vt := by
  unfold sp_X6_lose_vt sp_X4_transmit_vt frR xF.vt
  rw [nI_clamp hn]
  simp only [gq_kp, gq_ke, gq_kr, gq_kt, gq_kh, gq_kc, gq_xn, gq_xs, gq_xv, gq_xh, gq_xo, gq_xc, gq_vd, gq_vn, gq_vl, gq_vu, gq_vs, gq_vm, gq_vp, gq_vt, gq_va, gq_vw, gq_jd, gq_jb, gq_jc, gq_js, gq_jl, gq_jx, gq_ji, gq_jf, gq_jn, gq_dq, Nat.add_zero]
theorem t1_va (c : xR) (d : Nat → Int32) (n : Nat) (hn : n < 2 ^ 31) : sp_X6_lose_va (c.set_dq d) (nI n) = (frR c d 0 n).va := by
  unfold sp_X6_lose_va sp_X4_transmit_va frR xF.va
  rw [nI_clamp hn]
  simp only [gq_kp, gq_ke, gq_kr, gq_kt, gq_kh, gq_kc, gq_xn, gq_xs, gq_xv, gq_xh, gq_xo, gq_xc, gq_vd, gq_vn, gq_vl, gq_vu, gq_vs, gq_vm, gq_vp, gq_vt, gq_va, gq_vw, gq_jd, gq_jb, gq_jc, gq_js, gq_jl, gq_jx, gq_ji, gq_jf, gq_jn, gq_dq, Nat.add_zero]
theorem t1_vw (c : xR) (d : Nat → Int32) (n : Nat) (hn : n < 2 ^ 31) : sp_X6_lose_vw (c.set_dq d) (nI n) = (frR c d 0 n).vw := by
  unfold sp_X6_lose_vw sp_X4_transmit_vw frR xF.vw
  rw [nI_clamp hn]
  simp only [gq_kp, gq_ke, gq_kr, gq_kt, gq_kh, gq_kc, gq_xn, gq_xs, gq_xv, gq_xh, gq_xo, gq_xc, gq_vd, gq_vn, gq_vl, gq_vu, gq_vs, gq_vm, gq_vp, gq_vt, gq_va, gq_vw, gq_jd, gq_jb, gq_jc, gq_js, gq_jl, gq_jx, gq_ji, gq_jf, gq_jn, gq_dq, Nat.add_zero]
theorem t1_jb (c : xR) (d : Nat → Int32) (n : Nat) (hn : n < 2 ^ 31) : sp_X6_lose_jb (c.set_dq d) (nI n) = (frR c d 0 n).jb := by
  unfold sp_X6_lose_jb sp_X4_transmit_jb frR xF.jb
  rw [nI_clamp hn]
  simp only [gq_kp, gq_ke, gq_kr, gq_kt, gq_kh, gq_kc, gq_xn, gq_xs, gq_xv, gq_xh, gq_xo, gq_xc, gq_vd, gq_vn, gq_vl, gq_vu, gq_vs, gq_vm, gq_vp, gq_vt, gq_va, gq_vw, gq_jd, gq_jb, gq_jc, gq_js, gq_jl, gq_jx, gq_ji, gq_jf, gq_jn, gq_dq, Nat.add_zero]
theorem t1_js (c : xR) (d : Nat → Int32) (n : Nat) (hn : n < 2 ^ 31) : sp_X6_lose_js (c.set_dq d) (nI n) = (frR c d 0 n).js := by
  unfold sp_X6_lose_js sp_X4_transmit_js frR xF.js
  rw [nI_clamp hn]
  simp only [gq_kp, gq_ke, gq_kr, gq_kt, gq_kh, gq_kc, gq_xn, gq_xs, gq_xv, gq_xh, gq_xo, gq_xc, gq_vd, gq_vn, gq_vl, gq_vu, gq_vs, gq_vm, gq_vp, gq_vt, gq_va, gq_vw, gq_jd, gq_jb, gq_jc, gq_js, gq_jl, gq_jx, gq_ji, gq_jf, gq_jn, gq_dq, Nat.add_zero]
theorem t1_jl (c : xR) (d : Nat → Int32) (n : Nat) (hn : n < 2 ^ 31) : sp_X6_lose_jl (c.set_dq d) (nI n) = (frR c d 0 n).jl := by
  unfold sp_X6_lose_jl sp_X4_transmit_jl frR xF.jl
  rw [nI_clamp hn]
  simp only [gq_kp, gq_ke, gq_kr, gq_kt, gq_kh, gq_kc, gq_xn, gq_xs, gq_xv, gq_xh, gq_xo, gq_xc, gq_vd, gq_vn, gq_vl, gq_vu, gq_vs, gq_vm, gq_vp, gq_vt, gq_va, gq_vw, gq_jd, gq_jb, gq_jc, gq_js, gq_jl, gq_jx, gq_ji, gq_jf, gq_jn, gq_dq, Nat.add_zero]
theorem t1_jx (c : xR) (d : Nat → Int32) (n : Nat) (hn : n < 2 ^ 31) : sp_X6_lose_jx (c.set_dq d) (nI n) = (frR c d 0 n).jx := by
  unfold sp_X6_lose_jx sp_X4_transmit_jx frR xF.jx
  rw [nI_clamp hn]
  simp only [gq_kp, gq_ke, gq_kr, gq_kt, gq_kh, gq_kc, gq_xn, gq_xs, gq_xv, gq_xh, gq_xo, gq_xc, gq_vd, gq_vn, gq_vl, gq_vu, gq_vs, gq_vm, gq_vp, gq_vt, gq_va, gq_vw, gq_jd, gq_jb, gq_jc, gq_js, gq_jl, gq_jx, gq_ji, gq_jf, gq_jn, gq_dq, Nat.add_zero]
theorem t1_ji (c : xR) (d : Nat → Int32) (n : Nat) (hn : n < 2 ^ 31) : sp_X6_lose_ji (c.set_dq d) (nI n) = (frR c d 0 n).ji := by
  unfold sp_X6_lose_ji sp_X4_transmit_ji frR xF.ji
  rw [nI_clamp hn]
  simp only [gq_kp, gq_ke, gq_kr, gq_kt, gq_kh, gq_kc, gq_xn, gq_xs, gq_xv, gq_xh, gq_xo, gq_xc, gq_vd, gq_vn, gq_vl, gq_vu, gq_vs, gq_vm, gq_vp, gq_vt, gq_va, gq_vw, gq_jd, gq_jb, gq_jc, gq_js, gq_jl, gq_jx, gq_ji, gq_jf, gq_jn, gq_dq, Nat.add_zero]
theorem t1_jf (c : xR) (d : Nat → Int32) (n : Nat) (hn : n < 2 ^ 31) : sp_X6_lose_jf (c.set_dq d) (nI n) = (frR c d 0 n).jf := by
  unfold sp_X6_lose_jf sp_X4_transmit_jf frR xF.jf
  rw [nI_clamp hn]
  simp only [gq_kp, gq_ke, gq_kr, gq_kt, gq_kh, gq_kc, gq_xn, gq_xs, gq_xv, gq_xh, gq_xo, gq_xc, gq_vd, gq_vn, gq_vl, gq_vu, gq_vs, gq_vm, gq_vp, gq_vt, gq_va, gq_vw, gq_jd, gq_jb, gq_jc, gq_js, gq_jl, gq_jx, gq_ji, gq_jf, gq_jn, gq_dq, Nat.add_zero]
theorem t1_jn (c : xR) (d : Nat → Int32) (n : Nat) (hn : n < 2 ^ 31) : sp_X6_lose_jn (c.set_dq d) (nI n) = (frR c d 0 n).jn := by
  unfold sp_X6_lose_jn sp_X4_transmit_jn frR xF.jn
  rw [nI_clamp hn]
  simp only [gq_kp, gq_ke, gq_kr, gq_kt, gq_kh, gq_kc, gq_xn, gq_xs, gq_xv, gq_xh, gq_xo, gq_xc, gq_vd, gq_vn, gq_vl, gq_vu, gq_vs, gq_vm, gq_vp, gq_vt, gq_va, gq_vw, gq_jd, gq_jb, gq_jc, gq_js, gq_jl, gq_jx, gq_ji, gq_jf, gq_jn, gq_dq, Nat.add_zero]
set_option maxRecDepth 100000 in
theorem a_lose (l : Launch) (g : xGt) (ap ad : Nat → Nat) (c : xR) (d : Nat → Int32) (po pn : Int32) (sv mm : xPl) (n : Nat) (h_n : 1 ≤ n ∧ n ≤ 50) (H : rnP c) (Hp : pk po pn sv) (hM : gM c) : xM l g.1 (xT g) yX6_lose (ws_ yX6_lose cX6_lose 2 (some .int)) (xRm 7 131 26 192) 26 192 [.ref (ap 0), .int (nI n)] (wB g ap ad c d po pn sv mm) (fun r9 w9 => r9 = some (.int (fr c 0 n).mv) ∧ ∃ d1 po1 pn1 sv1, w9 = wB g ap ad (frC c 0 n) d1 po1 pn1 sv1 mm ∧ sd c pn po1 pn1 sv1) (fun _ _ => False) := by
  have hn : n < 2 ^ 31 := by omega
  refine xM_mono (k_X6_lose l g ap ad (c.set_dq d) po pn 0 (fun _ => (0 : Int32)) 0 0 0 0 0 0 sv mm (nI n) (pk_clO H.1 Hp d)) (fun r w h => ?_) (fun E w h => ?_)
  · obtain ⟨-, hr, adn, hw⟩ := h
    rw [t1_mv c d n hn, fr_eq d hM H.1 0 n] at hr
    simp only [gq_kp, gq_ke, gq_kr, gq_kt, gq_kh, gq_kc, gq_xn, gq_xs, gq_xv, gq_xh, gq_xo, gq_xc, gq_vd, gq_vn, gq_vl, gq_vu, gq_vs, gq_vm, gq_vp, gq_vt, gq_va, gq_vw, gq_jd, gq_jb, gq_jc, gq_js, gq_jl, gq_jx, gq_ji, gq_jf, gq_jn, gq_dq, t1_vt c d n hn, t1_va c d n hn, t1_vw c d n hn, t1_jb c d n hn, t1_js c d n hn, t1_jl c d n hn, t1_jx c d n hn, t1_ji c d n hn, t1_jf c d n hn, t1_jn c d n hn, fr_eq d hM H.1 0 n] at hw
    rw [sd_frC] at hw
    exact ⟨hr, _, _, _, _, hw, save_ok H.1 H.2 Hp adn d⟩
  · exact no_er (show er_X6_lose (nI n) = none by unfold er_X6_lose; rw [if_pos (frn h_n.1 h_n.2)]) h
theorem put_lt {c : xR} (hb : rB c) (h : xN c < 12) : c.xn < 12 := by
  rw [hb.1.2.1]
  exact nI_lt (b := 12) h (by decide)
def adC (c : xR) (a k : Nat) (h o e : Int32) : xR := xRk c.kp c.ke c.kr c.kt c.kh c.kc (c.xn + 1) (upd c.xs (xN c) (nI a)) (upd c.xv (xN c) (nI k)) (upd c.xh (xN c) h) (upd c.xo (xN c) o) (upd c.xc (xN c) e) c.vd c.vn c.vl c.vu c.vs c.vm c.vp c.vt c.va c.vw c.jd c.jb c.jc c.js c.jl c.jx c.ji c.jf c.jn c.dq
theorem sd_adC (c : xR) (a k : Nat) (h o e : Int32) (d : Nat → Int32) : xRk c.kp c.ke c.kr c.kt c.kh c.kc (c.xn + 1) (upd c.xs (xN c) (nI a)) (upd c.xv (xN c) (nI k)) (upd c.xh (xN c) h) (upd c.xo (xN c) o) (upd c.xc (xN c) e) c.vd c.vn c.vl c.vu c.vs c.vm c.vp c.vt c.va c.vw c.jd c.jb c.jc c.js c.jl c.jx c.ji c.jf c.jn d = (adC c a k h o e).set_dq d := by
  unfold adC
  simp only [xR.set_dq, pr_kp, pr_ke, pr_kr, pr_kt, pr_kh, pr_kc, pr_xn, pr_xs, pr_xv, pr_xh, pr_xo, pr_xc, pr_vd, pr_vn, pr_vl, pr_vu, pr_vs, pr_vm, pr_vp, pr_vt, pr_va, pr_vw, pr_jd, pr_jb, pr_jc, pr_js, pr_jl, pr_jx, pr_ji, pr_jf, pr_jn, pr_dq]
set_option maxRecDepth 100000 in
theorem a_addMix (l : Launch) (g : xGt) (ap ad : Nat → Nat) (c : xR) (d : Nat → Int32) (po pn : Int32) (sv mm : xPl) (a k : Nat) (h_k : k < 6) (h_a : a < 4 + k) (h o e : Int32) (h_h : bt 1 150 h) (h_o : bt (-50) 50 o) (h_e : bt 0 2 e) (h_x : xN c < 12) (H : rnP c) (Hp : pk po pn sv) : xM l g.1 (xT g) yX6_addMix (ws_ yX6_addMix cX6_addMix 6 (some .int)) (xRm 7 116 31 222) 31 222 [.ref (ap 0), .int (nI a), .int (nI k), .int h, .int o, .int e] (wB g ap ad c d po pn sv mm) (fun r9 w9 => r9 = some (.int (c.xn + 1 - 1)) ∧ ∃ d1 po1 pn1 sv1, w9 = wB g ap ad (adC c a k h o e) d1 po1 pn1 sv1 mm ∧ sd c pn po1 pn1 sv1) (fun _ _ => False) := by
  have hlt := put_lt H.1 h_x
  refine xM_mono (k_X6_addMix l g ap ad (c.set_dq d) po pn 0 (fun _ => (0 : Int32)) 0 0 0 0 0 0 sv mm (nI a) (nI k) h o e (pk_clO H.1 Hp d)) (fun r w q => ?_) (fun E w q => ?_)
  · obtain ⟨-, hr, adn, hw⟩ := q
    simp only [gq_kp, gq_ke, gq_kr, gq_kt, gq_kh, gq_kc, gq_xn, gq_xs, gq_xv, gq_xh, gq_xo, gq_xc, gq_vd, gq_vn, gq_vl, gq_vu, gq_vs, gq_vm, gq_vp, gq_vt, gq_va, gq_vw, gq_jd, gq_jb, gq_jc, gq_js, gq_jl, gq_jx, gq_ji, gq_jf, gq_jn, gq_dq, sp_X2_put_xn, if_pos hlt] at hr
    simp only [gq_kp, gq_ke, gq_kr, gq_kt, gq_kh, gq_kc, gq_xn, gq_xs, gq_xv, gq_xh, gq_xo, gq_xc, gq_vd, gq_vn, gq_vl, gq_vu, gq_vs, gq_vm, gq_vp, gq_vt, gq_va, gq_vw, gq_jd, gq_jb, gq_jc, gq_js, gq_jl, gq_jx, gq_ji, gq_jf, gq_jn, gq_dq, sp_X2_put_xn, sp_X2_put_xs, sp_X2_put_xv, sp_X2_put_xh, sp_X2_put_xo, sp_X2_put_xc, if_pos hlt] at hw
    have hx := sd_adC c a k h o e d
    unfold xN at hx
    rw [hx] at hw
    exact ⟨hr, _, _, _, _, hw, save_ok H.1 H.2 Hp adn d⟩
  · refine no_er (show er_X6_addMix (c.set_dq d) (nI a) (nI k) h o e = none from ?_) q
    unfold er_X6_addMix
    rw [gq_xn, nc6 h_k, if_pos (ix (N := 6) (n := 6) rfl (by decide) h_k), if_pos, if_pos, if_neg, if_pos (rgP (lo := (-50)) (hi := 50) h_o rfl rfl), if_pos (rgP (lo := 0) (hi := 2) h_e rfl rfl), if_pos]
    · rw [H.1.1.2.1, nI_1]
      exact nI_le (b := 12) h_x (by decide)
    · intro q0
      have := h_h.1
      rw [q0] at this
      exact absurd this (by decide)
    · exact rgP (a := -150) (b := 150) (lo := (-150)) (hi := 150) ⟨by have := h_h.1; omega, h_h.2⟩ rfl rfl
    · rw [show nI (4 + k) - 1 = nI (4 + k - 1) from pk_sub1 (by omega)]
      exact ⟨nI_pos (by omega), nI_le (by omega) (by omega)⟩
def rmC (c : xR) (j : Nat) : xR := xRk c.kp c.ke c.kr c.kt c.kh c.kc (c.xn - 1) ((sp_dra j c.xs c.xv c.xh c.xo c.xc ((xN c - 1) - j)).1) ((sp_dra j c.xs c.xv c.xh c.xo c.xc ((xN c - 1) - j)).2.1) ((sp_dra j c.xs c.xv c.xh c.xo c.xc ((xN c - 1) - j)).2.2.1) ((sp_dra j c.xs c.xv c.xh c.xo c.xc ((xN c - 1) - j)).2.2.2.1) ((sp_dra j c.xs c.xv c.xh c.xo c.xc ((xN c - 1) - j)).2.2.2.2) c.vd c.vn c.vl c.vu c.vs c.vm c.vp c.vt c.va c.vw c.jd c.jb c.jc c.js c.jl c.jx c.ji c.jf c.jn c.dq
theorem sd_rmC (c : xR) (j : Nat) (d : Nat → Int32) : xRk c.kp c.ke c.kr c.kt c.kh c.kc (c.xn - 1) ((sp_dra j c.xs c.xv c.xh c.xo c.xc ((xN c - 1) - j)).1) ((sp_dra j c.xs c.xv c.xh c.xo c.xc ((xN c - 1) - j)).2.1) ((sp_dra j c.xs c.xv c.xh c.xo c.xc ((xN c - 1) - j)).2.2.1) ((sp_dra j c.xs c.xv c.xh c.xo c.xc ((xN c - 1) - j)).2.2.2.1) ((sp_dra j c.xs c.xv c.xh c.xo c.xc ((xN c - 1) - j)).2.2.2.2) c.vd c.vn c.vl c.vu c.vs c.vm c.vp c.vt c.va c.vw c.jd c.jb c.jc c.js c.jl c.jx c.ji c.jf c.jn d = (rmC c j).set_dq d := by
  unfold rmC
  simp only [xR.set_dq, pr_kp, pr_ke, pr_kr, pr_kt, pr_kh, pr_kc, pr_xn, pr_xs, pr_xv, pr_xh, pr_xo, pr_xc, pr_vd, pr_vn, pr_vl, pr_vu, pr_vs, pr_vm, pr_vp, pr_vt, pr_va, pr_vw, pr_jd, pr_jb, pr_jc, pr_js, pr_jl, pr_jx, pr_ji, pr_jf, pr_jn, pr_dq]
set_option maxRecDepth 100000 in
theorem a_removeMix (l : Launch) (g : xGt) (ap ad : Nat → Nat) (c : xR) (d : Nat → Int32) (po pn : Int32) (sv mm : xPl) (j : Nat) (h_j : j < xN c) (H : rnP c) (Hp : pk po pn sv) : xM l g.1 (xT g) yX6_removeMix (ws_ yX6_removeMix cX6_removeMix 2 (some .int)) (xRm 7 115 26 192) 26 192 [.ref (ap 0), .int (nI j)] (wB g ap ad c d po pn sv mm) (fun r9 w9 => r9 = some (.int (c.xn - 1)) ∧ ∃ d1 po1 pn1 sv1, w9 = wB g ap ad (rmC c j) d1 po1 pn1 sv1 mm ∧ sd c pn po1 pn1 sv1) (fun _ _ => False) := by
  refine xM_mono (k_X6_removeMix l g ap ad (c.set_dq d) po pn 0 (fun _ => (0 : Int32)) 0 0 0 0 0 0 sv mm (nI j) (pk_clO H.1 Hp d)) (fun r w q => ?_) (fun E w q => ?_)
  · obtain ⟨-, hr, adn, hw⟩ := q
    simp only [gq_kp, gq_ke, gq_kr, gq_kt, gq_kh, gq_kc, gq_xn, gq_xs, gq_xv, gq_xh, gq_xo, gq_xc, gq_vd, gq_vn, gq_vl, gq_vu, gq_vs, gq_vm, gq_vp, gq_vt, gq_va, gq_vw, gq_jd, gq_jb, gq_jc, gq_js, gq_jl, gq_jx, gq_ji, gq_jf, gq_jn, gq_dq] at hr
    simp only [gq_kp, gq_ke, gq_kr, gq_kt, gq_kh, gq_kc, gq_xn, gq_xs, gq_xv, gq_xh, gq_xo, gq_xc, gq_vd, gq_vn, gq_vl, gq_vu, gq_vs, gq_vm, gq_vp, gq_vt, gq_va, gq_vw, gq_jd, gq_jb, gq_jc, gq_js, gq_jl, gq_jx, gq_ji, gq_jf, gq_jn, gq_dq, sp_X6_removeMix_xs, sp_X6_removeMix_xv, sp_X6_removeMix_xh, sp_X6_removeMix_xo, sp_X6_removeMix_xc, nc12 H.1 h_j] at hw
    have hx := sd_rmC c j d
    unfold xN at hx
    rw [hx] at hw
    exact ⟨hr, _, _, _, _, hw, save_ok H.1 H.2 Hp adn d⟩
  · exact no_er (show er_X6_removeMix (c.set_dq d) (nI j) = none by unfold er_X6_removeMix; rw [gq_xn, if_pos (ixm (c := c) H.1 h_j)]) q
def clC (c : xR) (k : Nat) : xR := xRk c.kp c.ke c.kr c.kt c.kh c.kc ((sp_dal (nI k) c.xs c.xv c.xh c.xo c.xc 0 (xN c)).2.2.2.2.2) ((sp_dal (nI k) c.xs c.xv c.xh c.xo c.xc 0 (xN c)).1) ((sp_dal (nI k) c.xs c.xv c.xh c.xo c.xc 0 (xN c)).2.1) ((sp_dal (nI k) c.xs c.xv c.xh c.xo c.xc 0 (xN c)).2.2.1) ((sp_dal (nI k) c.xs c.xv c.xh c.xo c.xc 0 (xN c)).2.2.2.1) ((sp_dal (nI k) c.xs c.xv c.xh c.xo c.xc 0 (xN c)).2.2.2.2.1) c.vd c.vn c.vl c.vu c.vs c.vm c.vp c.vt c.va c.vw c.jd c.jb c.jc c.js c.jl c.jx c.ji c.jf c.jn c.dq
theorem sd_clC (c : xR) (k : Nat) (d : Nat → Int32) : xRk c.kp c.ke c.kr c.kt c.kh c.kc ((sp_dal (nI k) c.xs c.xv c.xh c.xo c.xc 0 (xN c)).2.2.2.2.2) ((sp_dal (nI k) c.xs c.xv c.xh c.xo c.xc 0 (xN c)).1) ((sp_dal (nI k) c.xs c.xv c.xh c.xo c.xc 0 (xN c)).2.1) ((sp_dal (nI k) c.xs c.xv c.xh c.xo c.xc 0 (xN c)).2.2.1) ((sp_dal (nI k) c.xs c.xv c.xh c.xo c.xc 0 (xN c)).2.2.2.1) ((sp_dal (nI k) c.xs c.xv c.xh c.xo c.xc 0 (xN c)).2.2.2.2.1) c.vd c.vn c.vl c.vu c.vs c.vm c.vp c.vt c.va c.vw c.jd c.jb c.jc c.js c.jl c.jx c.ji c.jf c.jn d = (clC c k).set_dq d := by
  unfold clC
  simp only [xR.set_dq, pr_kp, pr_ke, pr_kr, pr_kt, pr_kh, pr_kc, pr_xn, pr_xs, pr_xv, pr_xh, pr_xo, pr_xc, pr_vd, pr_vn, pr_vl, pr_vu, pr_vs, pr_vm, pr_vp, pr_vt, pr_va, pr_vw, pr_jd, pr_jb, pr_jc, pr_js, pr_jl, pr_jx, pr_ji, pr_jf, pr_jn, pr_dq]
set_option maxRecDepth 100000 in
theorem a_clearMixes (l : Launch) (g : xGt) (ap ad : Nat → Nat) (c : xR) (d : Nat → Int32) (po pn : Int32) (sv mm : xPl) (k : Nat) (h_k : k < 6) (H : rnP c) (Hp : pk po pn sv) : xM l g.1 (xT g) yX6_clearMixes (ws_ yX6_clearMixes cX6_clearMixes 2 (some .int)) (xRm 7 114 26 192) 26 192 [.ref (ap 0), .int (nI k)] (wB g ap ad c d po pn sv mm) (fun r9 w9 => r9 = some (.int (c.xn - (clC c k).xn)) ∧ ∃ d1 po1 pn1 sv1, w9 = wB g ap ad (clC c k) d1 po1 pn1 sv1 mm ∧ sd c pn po1 pn1 sv1) (fun _ _ => False) := by
  refine xM_mono (k_X6_clearMixes l g ap ad (c.set_dq d) po pn 0 (fun _ => (0 : Int32)) 0 0 0 0 0 0 sv mm (nI k) (pk_clO H.1 Hp d)) (fun r w q => ?_) (fun E w q => ?_)
  · obtain ⟨-, hr, adn, hw⟩ := q
    simp only [gq_kp, gq_ke, gq_kr, gq_kt, gq_kh, gq_kc, gq_xn, gq_xs, gq_xv, gq_xh, gq_xo, gq_xc, gq_vd, gq_vn, gq_vl, gq_vu, gq_vs, gq_vm, gq_vp, gq_vt, gq_va, gq_vw, gq_jd, gq_jb, gq_jc, gq_js, gq_jl, gq_jx, gq_ji, gq_jf, gq_jn, gq_dq] at hr
    simp only [gq_kp, gq_ke, gq_kr, gq_kt, gq_kh, gq_kc, gq_xn, gq_xs, gq_xv, gq_xh, gq_xo, gq_xc, gq_vd, gq_vn, gq_vl, gq_vu, gq_vs, gq_vm, gq_vp, gq_vt, gq_va, gq_vw, gq_jd, gq_jb, gq_jc, gq_js, gq_jl, gq_jx, gq_ji, gq_jf, gq_jn, gq_dq] at hw
    have hx := sd_clC c k d
    unfold xN at hx
    rw [hx] at hw
    exact ⟨hr, _, _, _, _, hw, save_ok H.1 H.2 Hp adn d⟩
  · exact no_er (show er_X6_clearMixes (nI k) = none by unfold er_X6_clearMixes; rw [if_pos (ix (N := 6) (n := 6) rfl (by decide) h_k)]) q
def elC (c : xR) (a b : Nat) (h : Int32) : xR := xRk c.kp c.ke c.kr c.kt c.kh c.kc 4 (upd (upd (upd (upd c.xs 0 0) 1 1) 2 0) 3 1) (upd (upd (upd (upd c.xv 0 (nI a)) 1 (nI a)) 2 (nI b)) 3 (nI b)) (upd (upd (upd (upd c.xh 0 h) 1 h) 2 (-h)) 3 h) (upd (upd (upd (upd c.xo 0 0) 1 0) 2 0) 3 0) (upd (upd (upd (upd c.xc 0 0) 1 0) 2 0) 3 0) c.vd c.vn c.vl c.vu c.vs c.vm c.vp c.vt c.va c.vw c.jd c.jb c.jc c.js c.jl c.jx c.ji c.jf c.jn c.dq
theorem sd_elC (c : xR) (a b : Nat) (h : Int32) (d : Nat → Int32) : xRk c.kp c.ke c.kr c.kt c.kh c.kc 4 (upd (upd (upd (upd c.xs 0 0) 1 1) 2 0) 3 1) (upd (upd (upd (upd c.xv 0 (nI a)) 1 (nI a)) 2 (nI b)) 3 (nI b)) (upd (upd (upd (upd c.xh 0 h) 1 h) 2 (-h)) 3 h) (upd (upd (upd (upd c.xo 0 0) 1 0) 2 0) 3 0) (upd (upd (upd (upd c.xc 0 0) 1 0) 2 0) 3 0) c.vd c.vn c.vl c.vu c.vs c.vm c.vp c.vt c.va c.vw c.jd c.jb c.jc c.js c.jl c.jx c.ji c.jf c.jn d = (elC c a b h).set_dq d := by
  unfold elC
  simp only [xR.set_dq, pr_kp, pr_ke, pr_kr, pr_kt, pr_kh, pr_kc, pr_xn, pr_xs, pr_xv, pr_xh, pr_xo, pr_xc, pr_vd, pr_vn, pr_vl, pr_vu, pr_vs, pr_vm, pr_vp, pr_vt, pr_va, pr_vw, pr_jd, pr_jb, pr_jc, pr_js, pr_jl, pr_jx, pr_ji, pr_jf, pr_jn, pr_dq]
theorem e1_xn (c : xR) (hx : c.xn = 0) : sp_el1_xn c = 1 := by
  unfold sp_el1_xn
  rw [hx]
  unfold sp_X2_put_xn
  rw [if_pos (show (0 : Int32) < 12 by decide)]
  rfl
theorem e1_xs (c : xR) (hx : c.xn = 0) : sp_el1_xs c = (upd c.xs 0 0) := by
  unfold sp_el1_xs
  rw [hx]
  unfold sp_X2_put_xs
  rw [if_pos (show (0 : Int32) < 12 by decide)]
  rfl
theorem e1_xv (c : xR) (a b : Nat) (hx : c.xn = 0) : sp_el1_xv c (nI a) = (upd c.xv 0 (nI a)) := by
  unfold sp_el1_xv
  rw [hx]
  unfold sp_X2_put_xv
  rw [if_pos (show (0 : Int32) < 12 by decide)]
  rfl
theorem e1_xh (c : xR) (h : Int32) (hx : c.xn = 0) : sp_el1_xh c h = (upd c.xh 0 h) := by
  unfold sp_el1_xh
  rw [hx]
  unfold sp_X2_put_xh
  rw [if_pos (show (0 : Int32) < 12 by decide)]
  rfl
theorem e1_xo (c : xR) (hx : c.xn = 0) : sp_el1_xo c = (upd c.xo 0 0) := by
  unfold sp_el1_xo
  rw [hx]
  unfold sp_X2_put_xo
  rw [if_pos (show (0 : Int32) < 12 by decide)]
  rfl
theorem e1_xc (c : xR) (hx : c.xn = 0) : sp_el1_xc c = (upd c.xc 0 0) := by
  unfold sp_el1_xc
  rw [hx]
  unfold sp_X2_put_xc
  rw [if_pos (show (0 : Int32) < 12 by decide)]
  rfl
theorem e2_xn (c : xR) (hx : c.xn = 0) : sp_el2_xn c = 2 := by
  unfold sp_el2_xn
  rw [e1_xn c hx]
  unfold sp_X2_put_xn
  rw [if_pos (show (1 : Int32) < 12 by decide)]
  rfl
theorem e2_xs (c : xR) (hx : c.xn = 0) : sp_el2_xs c = (upd (upd c.xs 0 0) 1 1) := by
  unfold sp_el2_xs
  rw [e1_xn c hx, e1_xs c hx]
  unfold sp_X2_put_xs
  rw [if_pos (show (1 : Int32) < 12 by decide)]
  rfl
theorem e2_xv (c : xR) (a b : Nat) (hx : c.xn = 0) : sp_el2_xv c (nI a) = (upd (upd c.xv 0 (nI a)) 1 (nI a)) := by
  unfold sp_el2_xv
  rw [e1_xn c hx, e1_xv c a b hx]
  unfold sp_X2_put_xv
  rw [if_pos (show (1 : Int32) < 12 by decide)]
  rfl
theorem e2_xh (c : xR) (h : Int32) (hx : c.xn = 0) : sp_el2_xh c h = (upd (upd c.xh 0 h) 1 h) := by
  unfold sp_el2_xh
  rw [e1_xn c hx, e1_xh c h hx]
  unfold sp_X2_put_xh
  rw [if_pos (show (1 : Int32) < 12 by decide)]
  rfl
theorem e2_xo (c : xR) (hx : c.xn = 0) : sp_el2_xo c = (upd (upd c.xo 0 0) 1 0) := by
  unfold sp_el2_xo
  rw [e1_xn c hx, e1_xo c hx]
  unfold sp_X2_put_xo
  rw [if_pos (show (1 : Int32) < 12 by decide)]
  rfl
theorem e2_xc (c : xR) (hx : c.xn = 0) : sp_el2_xc c = (upd (upd c.xc 0 0) 1 0) := by
  unfold sp_el2_xc
  rw [e1_xn c hx, e1_xc c hx]
  unfold sp_X2_put_xc
  rw [if_pos (show (1 : Int32) < 12 by decide)]
  rfl
theorem e3_xn (c : xR) (hx : c.xn = 0) : sp_el3_xn c = 3 := by
  unfold sp_el3_xn
  rw [e2_xn c hx]
  unfold sp_X2_put_xn
  rw [if_pos (show (2 : Int32) < 12 by decide)]
  rfl
theorem e3_xs (c : xR) (hx : c.xn = 0) : sp_el3_xs c = (upd (upd (upd c.xs 0 0) 1 1) 2 0) := by
  unfold sp_el3_xs
  rw [e2_xn c hx, e2_xs c hx]
  unfold sp_X2_put_xs
  rw [if_pos (show (2 : Int32) < 12 by decide)]
  rfl
theorem e3_xv (c : xR) (a b : Nat) (hx : c.xn = 0) : sp_el3_xv c (nI a) (nI b) = (upd (upd (upd c.xv 0 (nI a)) 1 (nI a)) 2 (nI b)) := by
  unfold sp_el3_xv
  rw [e2_xn c hx, e2_xv c a b hx]
  unfold sp_X2_put_xv
  rw [if_pos (show (2 : Int32) < 12 by decide)]
  rfl
theorem e3_xh (c : xR) (h : Int32) (hx : c.xn = 0) : sp_el3_xh c h = (upd (upd (upd c.xh 0 h) 1 h) 2 (-h)) := by
  unfold sp_el3_xh
  rw [e2_xn c hx, e2_xh c h hx]
  unfold sp_X2_put_xh
  rw [if_pos (show (2 : Int32) < 12 by decide)]
  rfl
theorem e3_xo (c : xR) (hx : c.xn = 0) : sp_el3_xo c = (upd (upd (upd c.xo 0 0) 1 0) 2 0) := by
  unfold sp_el3_xo
  rw [e2_xn c hx, e2_xo c hx]
  unfold sp_X2_put_xo
  rw [if_pos (show (2 : Int32) < 12 by decide)]
  rfl
theorem e3_xc (c : xR) (hx : c.xn = 0) : sp_el3_xc c = (upd (upd (upd c.xc 0 0) 1 0) 2 0) := by
  unfold sp_el3_xc
  rw [e2_xn c hx, e2_xc c hx]
  unfold sp_X2_put_xc
  rw [if_pos (show (2 : Int32) < 12 by decide)]
  rfl
theorem e4_xn (c : xR) (hx : c.xn = 0) : sp_el4_xn c = 4 := by
  unfold sp_el4_xn
  rw [e3_xn c hx]
  unfold sp_X2_put_xn
  rw [if_pos (show (3 : Int32) < 12 by decide)]
  rfl
theorem e4_xs (c : xR) (hx : c.xn = 0) : sp_el4_xs c = (upd (upd (upd (upd c.xs 0 0) 1 1) 2 0) 3 1) := by
  unfold sp_el4_xs
  rw [e3_xn c hx, e3_xs c hx]
  unfold sp_X2_put_xs
  rw [if_pos (show (3 : Int32) < 12 by decide)]
  rfl
theorem e4_xv (c : xR) (a b : Nat) (hx : c.xn = 0) : sp_el4_xv c (nI a) (nI b) = (upd (upd (upd (upd c.xv 0 (nI a)) 1 (nI a)) 2 (nI b)) 3 (nI b)) := by
  unfold sp_el4_xv
  rw [e3_xn c hx, e3_xv c a b hx]
  unfold sp_X2_put_xv
  rw [if_pos (show (3 : Int32) < 12 by decide)]
  rfl
theorem e4_xh (c : xR) (h : Int32) (hx : c.xn = 0) : sp_el4_xh c h = (upd (upd (upd (upd c.xh 0 h) 1 h) 2 (-h)) 3 h) := by
  unfold sp_el4_xh
  rw [e3_xn c hx, e3_xh c h hx]
  unfold sp_X2_put_xh
  rw [if_pos (show (3 : Int32) < 12 by decide)]
  rfl
theorem e4_xo (c : xR) (hx : c.xn = 0) : sp_el4_xo c = (upd (upd (upd (upd c.xo 0 0) 1 0) 2 0) 3 0) := by
  unfold sp_el4_xo
  rw [e3_xn c hx, e3_xo c hx]
  unfold sp_X2_put_xo
  rw [if_pos (show (3 : Int32) < 12 by decide)]
  rfl
theorem e4_xc (c : xR) (hx : c.xn = 0) : sp_el4_xc c = (upd (upd (upd (upd c.xc 0 0) 1 0) 2 0) 3 0) := by
  unfold sp_el4_xc
  rw [e3_xn c hx, e3_xc c hx]
  unfold sp_X2_put_xc
  rw [if_pos (show (3 : Int32) < 12 by decide)]
  rfl
theorem f1_xn (c : xR) (d : Nat → Int32) : sp_el1_xn (c.set_dq d) = sp_el1_xn c := by
  simp only [sp_el1_xn, gq_xn]
theorem f1_xs (c : xR) (d : Nat → Int32) : sp_el1_xs (c.set_dq d) = sp_el1_xs c := by
  simp only [sp_el1_xs, gq_xn, gq_xs]
theorem f1_xv (c : xR) (d : Nat → Int32) (a : Int32) : sp_el1_xv (c.set_dq d) a = sp_el1_xv c a := by
  simp only [sp_el1_xv, gq_xn, gq_xv]
theorem f1_xh (c : xR) (d : Nat → Int32) (h : Int32) : sp_el1_xh (c.set_dq d) h = sp_el1_xh c h := by
  simp only [sp_el1_xh, gq_xn, gq_xh]
theorem f1_xo (c : xR) (d : Nat → Int32) : sp_el1_xo (c.set_dq d) = sp_el1_xo c := by
  simp only [sp_el1_xo, gq_xn, gq_xo]
theorem f1_xc (c : xR) (d : Nat → Int32) : sp_el1_xc (c.set_dq d) = sp_el1_xc c := by
  simp only [sp_el1_xc, gq_xn, gq_xc]
theorem f2_xn (c : xR) (d : Nat → Int32) : sp_el2_xn (c.set_dq d) = sp_el2_xn c := by
  simp only [sp_el2_xn, f1_xn]
theorem f2_xs (c : xR) (d : Nat → Int32) : sp_el2_xs (c.set_dq d) = sp_el2_xs c := by
  simp only [sp_el2_xs, f1_xn, f1_xs]
theorem f2_xv (c : xR) (d : Nat → Int32) (a : Int32) : sp_el2_xv (c.set_dq d) a = sp_el2_xv c a := by
  simp only [sp_el2_xv, f1_xn, f1_xv]
theorem f2_xh (c : xR) (d : Nat → Int32) (h : Int32) : sp_el2_xh (c.set_dq d) h = sp_el2_xh c h := by
  simp only [sp_el2_xh, f1_xn, f1_xh]
theorem f2_xo (c : xR) (d : Nat → Int32) : sp_el2_xo (c.set_dq d) = sp_el2_xo c := by
  simp only [sp_el2_xo, f1_xn, f1_xo]
theorem f2_xc (c : xR) (d : Nat → Int32) : sp_el2_xc (c.set_dq d) = sp_el2_xc c := by
  simp only [sp_el2_xc, f1_xn, f1_xc]
theorem f3_xn (c : xR) (d : Nat → Int32) : sp_el3_xn (c.set_dq d) = sp_el3_xn c := by
  simp only [sp_el3_xn, f2_xn]
theorem f3_xs (c : xR) (d : Nat → Int32) : sp_el3_xs (c.set_dq d) = sp_el3_xs c := by
  simp only [sp_el3_xs, f2_xn, f2_xs]
theorem f3_xv (c : xR) (d : Nat → Int32) (a b : Int32) : sp_el3_xv (c.set_dq d) a b = sp_el3_xv c a b := by
  simp only [sp_el3_xv, f2_xn, f2_xv]
theorem f3_xh (c : xR) (d : Nat → Int32) (h : Int32) : sp_el3_xh (c.set_dq d) h = sp_el3_xh c h := by
  simp only [sp_el3_xh, f2_xn, f2_xh]
theorem f3_xo (c : xR) (d : Nat → Int32) : sp_el3_xo (c.set_dq d) = sp_el3_xo c := by
  simp only [sp_el3_xo, f2_xn, f2_xo]
theorem f3_xc (c : xR) (d : Nat → Int32) : sp_el3_xc (c.set_dq d) = sp_el3_xc c := by
  simp only [sp_el3_xc, f2_xn, f2_xc]
theorem f4_xn (c : xR) (d : Nat → Int32) : sp_el4_xn (c.set_dq d) = sp_el4_xn c := by
  simp only [sp_el4_xn, f3_xn]
theorem f4_xs (c : xR) (d : Nat → Int32) : sp_el4_xs (c.set_dq d) = sp_el4_xs c := by
  simp only [sp_el4_xs, f3_xn, f3_xs]
theorem f4_xv (c : xR) (d : Nat → Int32) (a b : Int32) : sp_el4_xv (c.set_dq d) a b = sp_el4_xv c a b := by
  simp only [sp_el4_xv, f3_xn, f3_xv]
theorem f4_xh (c : xR) (d : Nat → Int32) (h : Int32) : sp_el4_xh (c.set_dq d) h = sp_el4_xh c h := by
  simp only [sp_el4_xh, f3_xn, f3_xh]
theorem f4_xo (c : xR) (d : Nat → Int32) : sp_el4_xo (c.set_dq d) = sp_el4_xo c := by
  simp only [sp_el4_xo, f3_xn, f3_xo]
theorem f4_xc (c : xR) (d : Nat → Int32) : sp_el4_xc (c.set_dq d) = sp_el4_xc c := by
  simp only [sp_el4_xc, f3_xn, f3_xc]
set_option maxRecDepth 100000 in
theorem a_elevons (l : Launch) (g : xGt) (ap ad : Nat → Nat) (c : xR) (d : Nat → Int32) (po pn : Int32) (sv mm : xPl) (a b : Nat) (h_a : a < 6) (h_b : b < 6) (hab : ¬ a = b) (h : Int32) (h_h : bt 1 150 h) (hx : c.xn = 0) (H : rnP c) (Hp : pk po pn sv) : xM l g.1 (xT g) yX6_elevons (ws_ yX6_elevons cX6_elevons 4 (some .int)) (xRm 7 116 29 210) 29 210 [.ref (ap 0), .int (nI a), .int (nI b), .int h] (wB g ap ad c d po pn sv mm) (fun r9 w9 => r9 = some (.int 4) ∧ ∃ d1 po1 pn1 sv1, w9 = wB g ap ad (elC c a b h) d1 po1 pn1 sv1 mm ∧ sd c pn po1 pn1 sv1) (fun _ _ => False) := by
  refine xM_mono (k_X6_elevons l g ap ad (c.set_dq d) po pn 0 (fun _ => (0 : Int32)) 0 0 0 0 0 0 sv mm (nI a) (nI b) h (pk_clO H.1 Hp d)) (fun r w q => ?_) (fun E w q => ?_)
  · obtain ⟨-, hr, adn, hw⟩ := q
    rw [f4_xn, e4_xn c hx] at hr
    simp only [gq_kp, gq_ke, gq_kr, gq_kt, gq_kh, gq_kc, gq_xn, gq_xs, gq_xv, gq_xh, gq_xo, gq_xc, gq_vd, gq_vn, gq_vl, gq_vu, gq_vs, gq_vm, gq_vp, gq_vt, gq_va, gq_vw, gq_jd, gq_jb, gq_jc, gq_js, gq_jl, gq_jx, gq_ji, gq_jf, gq_jn, gq_dq] at hw
    rw [f4_xn, f4_xs, f4_xv, f4_xh, f4_xo, f4_xc, e4_xn c hx, e4_xs c hx, e4_xv c a b hx, e4_xh c h hx, e4_xo c hx, e4_xc c hx, sd_elC] at hw
    exact ⟨hr, _, _, _, _, hw, save_ok H.1 H.2 Hp adn d⟩
  · refine no_er (show er_X6_elevons (c.set_dq d) (nI a) (nI b) h = none from ?_) q
    unfold er_X6_elevons
    rw [gq_xn, hx, if_pos (ix (N := 6) (n := 6) rfl (by decide) h_a), if_pos (ix (N := 6) (n := 6) rfl (by decide) h_b), if_neg (fun y => hab ((nI_eq (by omega) (by omega)).mp y)), if_pos (rgP (lo := 1) (hi := 150) h_h rfl rfl), if_pos (by decide)]
