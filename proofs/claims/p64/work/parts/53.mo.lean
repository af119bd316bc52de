/-! more contracts in the law's words -/
theorem mow_dq (c : xR) (d : Nat → Int32) (a b : Int32) : ∀ n, sp_mow (c.set_dq d) a b n = sp_mow c a b n
  | 0 => rfl
  | n + 1 => by simp only [sp_mow, mow_dq c d a b n, gq_vw]
theorem dby_dq (c : xR) (d : Nat → Int32) (q a : Int32) : ∀ n, sp_dby (c.set_dq d) q a n = sp_dby c q a n
  | 0 => rfl
  | n + 1 => by simp only [sp_dby, dby_dq c d q a n, gq_xn, gq_xs, gq_xv, gq_xc, gq_kh]
set_option maxRecDepth 100000 in
theorem a_mostWorn (l : Launch) (g : xGt) (ap ad : Nat → Nat) (c : xR) (d : Nat → Int32) (po pn : Int32) (sv mm : xPl) (H : rnP c) (Hp : pk po pn sv) : xM l g.1 (xT g) yX6_mostWorn (ws_ yX6_mostWorn cX6_mostWorn 4 (some .int)) (xRm 0 0 0 0) 0 0 [.ref (ap 0)] (wB g ap ad c d po pn sv mm) (fun r9 w9 => r9 = some (.int (sp_mow c (-1) 0 6).1) ∧ w9 = wB g ap ad c d po pn sv mm) (fun _ _ => False) := by
  refine xM_mono (k_X6_mostWorn l g ap ad (c.set_dq d) po pn 0 (fun _ => (0 : Int32)) 0 0 0 0 0 0 sv mm (pk_clO H.1 Hp d)) (fun r w h => ?_) (fun E w h => h)
  obtain ⟨hr, hw⟩ := h
  rw [mow_dq] at hr
  exact ⟨hr, hw⟩
set_option maxRecDepth 100000 in
theorem a_linkQuality (l : Launch) (g : xGt) (ap ad : Nat → Nat) (c : xR) (d : Nat → Int32) (po pn : Int32) (sv mm : xPl) (H : rnP c) (Hp : pk po pn sv) : xM l g.1 (xT g) yX6_linkQuality (ws_ yX6_linkQuality cX6_linkQuality 1 (some .double)) (xRm 0 0 0 0) 0 0 [.ref (ap 0)] (wB g ap ad c d po pn sv mm) (fun r9 w9 => r9 = some (.double (lqV c.js c.jl)) ∧ w9 = wB g ap ad c d po pn sv mm) (fun _ _ => False) := by
  refine xM_mono (k_X6_linkQuality l g ap ad (c.set_dq d) po pn 0 (fun _ => (0 : Int32)) 0 0 0 0 0 0 sv mm (pk_clO H.1 Hp d)) (fun r w h => ?_) (fun E w h => h)
  obtain ⟨hr, hw⟩ := h
  simp only [gq_js, gq_jl] at hr
  exact ⟨hr, hw⟩
set_option maxRecDepth 100000 in
theorem a_drivenBy (l : Launch) (g : xGt) (ap ad : Nat → Nat) (c : xR) (d : Nat → Int32) (po pn : Int32) (sv mm : xPl) (k : Nat) (h_k : k < 4) (H : rnP c) (Hp : pk po pn sv) : xM l g.1 (xT g) yX6_drivenBy (ws_ yX6_drivenBy cX6_drivenBy 4 (some .int)) (xRm 7 114 1 6) 1 6 [.ref (ap 0), .int (nI k)] (wB g ap ad c d po pn sv mm) (fun r9 w9 => r9 = some (.int (sp_dby c (nI k) 0 6)) ∧ w9 = wB g ap ad c d po pn sv mm) (fun _ _ => False) := by
  refine xM_mono (k_X6_drivenBy l g ap ad (c.set_dq d) po pn 0 (fun _ => (0 : Int32)) 0 0 0 0 0 0 sv mm (nI k) (pk_clO H.1 Hp d)) (fun r w h => ?_) (fun E w h => ?_)
  · obtain ⟨-, hr, hw⟩ := h
    rw [dby_dq] at hr
    exact ⟨hr, hw⟩
  · exact no_er (show er_X6_drivenBy (nI k) = none by unfold er_X6_drivenBy; rw [if_pos (ix (N := 4) (n := 4) rfl (by decide) h_k)]) h
set_option maxRecDepth 100000 in
theorem a_undo (l : Launch) (g : xGt) (ap ad : Nat → Nat) (c c0 : xR) (d : Nat → Int32) (po pn : Int32) (sv mm : xPl) (H : rnP c) (Hp : pk po pn sv) (Ht : tp po pn sv c0) : xM l g.1 (xT g) yX6_undo (ws_ yX6_undo cX6_undo 2 (some .int)) (xRm 6 94 1 6) 1 6 [.ref (ap 0)] (wB g ap ad c d po pn sv mm) (fun r9 w9 => r9 = some (.int (pn - 1)) ∧ w9 = wB g ap ad c0 d po (pn - 1) sv mm ∧ pk po (pn - 1) sv ∧ ¬ pn - 1 < 0) (fun _ _ => False) := by
  refine xM_mono (k_X6_undo l g ap ad (c.set_dq d) po pn 0 (fun _ => (0 : Int32)) 0 0 0 0 0 0 sv mm (pk_clO H.1 Hp d) (pk_svK Hp)) (fun r w h => ?_) (fun E w h => no_er (undo_er Hp Ht) h)
  obtain ⟨-, hr, hw⟩ := h
  obtain ⟨e1, e2, e3⟩ := undo_ok H.2 Hp Ht d
  rw [e1] at hw
  refine ⟨hr, hw, e2, ?_⟩
  rw [e3]
  exact nI_pos (Nat.lt_of_le_of_lt (Nat.sub_le _ _) (Int32.toNatClampNeg_lt _))
set_option maxRecDepth 100000 in
theorem a_store (l : Launch) (g : xGt) (ap ad : Nat → Nat) (c : xR) (d : Nat → Int32) (po pn : Int32) (sv mm : xPl) (k : Nat) (h_k : k < 2) (H : rnP c) (Hp : pk po pn sv) (Hm : mk2 mm) : xM l g.1 (xT g) yX6_store (ws_ yX6_store cX6_store 2 (some .int)) (xRm 7 116 26 192) 26 192 [.ref (ap 0), .int (nI k)] (wB g ap ad c d po pn sv mm) (fun r9 w9 => r9 = some (.int c.xn) ∧ ∃ mm1, w9 = wB g ap ad c d po pn sv mm1 ∧ mk2 mm1 ∧ mt mm1 k c ∧ ∀ j, ¬ j = k → mm1 j = mm j) (fun _ _ => False) := by
  have ek : (nI k).toNatClampNeg = k := nI_clamp (by omega)
  refine xM_mono (k_X6_store l g ap ad (c.set_dq d) po pn 0 (fun _ => (0 : Int32)) 0 0 0 0 0 0 sv mm (nI k) (pk_clO H.1 Hp d)) (fun r w h => ?_) (fun E w h => ?_)
  · obtain ⟨-, hr, adn, hw⟩ := h
    rw [ek] at hw
    obtain ⟨e1, e2, e3⟩ := store_ok (k := k) H.1 H.2 Hm adn d
    exact ⟨hr, _, hw, e1, e2, e3⟩
  · exact no_er (show er_X6_store (nI k) = none by unfold er_X6_store; rw [if_pos (ixl (N := 1) (n := 1) rfl (by decide) (by omega))]) h
set_option maxRecDepth 100000 in
theorem a_recall (l : Launch) (g : xGt) (ap ad : Nat → Nat) (c c0 : xR) (d : Nat → Int32) (po pn : Int32) (sv mm : xPl) (k : Nat) (h_k : k < 2) (H : rnP c) (Hp : pk po pn sv) (Hm : mk2 mm) (Ht : mt mm k c0) : xM l g.1 (xT g) yX6_recall (ws_ yX6_recall cX6_recall 3 (some .int)) (xRm 7 116 26 192) 26 192 [.ref (ap 0), .int (nI k)] (wB g ap ad c d po pn sv mm) (fun r9 w9 => r9 = some (.int c0.xn) ∧ ∃ d1 po1 pn1 sv1, w9 = wB g ap ad c0 d1 po1 pn1 sv1 mm ∧ sd c pn po1 pn1 sv1) (fun _ _ => False) := by
  have ek : (nI k).toNatClampNeg = k := nI_clamp (by omega)
  obtain ⟨e1, e2, -, -⟩ := recall_ok H.2 Hm Ht d
  refine xM_mono (k_X6_recall l g ap ad (c.set_dq d) po pn 0 (fun _ => (0 : Int32)) 0 0 0 0 0 0 sv mm (nI k) (pk_clO H.1 Hp d) (fun k x hx => (Hm k x hx).1)) (fun r w h => ?_) (fun E w h => ?_)
  · obtain ⟨-, hr, adn, hw⟩ := h
    rw [ek, e1] at hr hw
    exact ⟨hr, _, _, _, _, hw, save_ok H.1 H.2 Hp adn d⟩
  · exact no_er (show er_X6_recall mm (nI k) = none by unfold er_X6_recall; rw [if_pos (ixl (N := 1) (n := 1) rfl (by decide) (by omega)), ek, e2]; rfl) h
theorem aim_set (c : xR) (f : Nat → Int32) (hM : gM c) (hb : rB c) (d : Nat → Int32) {k : Nat} (hk : k < 6) : sp_X3_limited c.vl c.vu k (c.vn k + c.vd k * dmr (c.set_kp f) d 6 k) = aimA (c.set_kp f) k := by
  rw [dm_eq (c := c.set_kp f) d hM hb k hk]
  rfl
set_option maxRecDepth 100000 in
theorem a_aimIfMoved (l : Launch) (g : xGt) (ap ad : Nat → Nat) (c : xR) (d : Nat → Int32) (po pn : Int32) (sv mm : xPl) (k : Nat) (h_k : k < 4) (p : Int32) (h_p : bt (-100) 100 p) (v : Nat) (h_v : v < 6) (H : rnP c) (Hp : pk po pn sv) (hM : gM c) : xM l g.1 (xT g) yX6_aimIfMoved (ws_ yX6_aimIfMoved cX6_aimIfMoved 6 (some .int)) (xRm 7 116 3 18) 3 18 [.ref (ap 0), .int (nI k), .int p, .int (nI v)] (wB g ap ad c d po pn sv mm) (fun r9 w9 => r9 = some (.int (aimA (c.set_kp (upd c.kp k p)) v)) ∧ ∃ d1, w9 = wB g ap ad c d1 po pn sv mm) (fun _ _ => False) := by
  refine xM_mono (k_X6_aimIfMoved l g ap ad (c.set_dq d) po pn 0 (fun _ => (0 : Int32)) 0 0 0 0 0 0 sv mm (nI k) p (nI v) (pk_clO H.1 Hp d)) (fun r w h => ?_) (fun E w h => ?_)
  · obtain ⟨-, hr, hw⟩ := h
    unfold sp_X6_aimIfMoved at hr
    unfold sp_X6_aimIfMoved_kp at hw
    simp only [nc4 h_k, nc6 h_v, gq_kp, gq_ke, gq_kr, gq_kt, gq_kh, gq_kc, gq_xn, gq_xs, gq_xv, gq_xh, gq_xo, gq_xc, gq_vd, gq_vn, gq_vl, gq_vu, gq_dq] at hr
    simp only [nc4 h_k, up_upd, gq_kp, gq_ke, gq_kr, gq_kt, gq_kh, gq_kc, gq_xn, gq_xs, gq_xv, gq_xh, gq_xo, gq_xc, gq_vd, gq_vn, gq_vl, gq_vu, gq_vs, gq_vm, gq_vp, gq_vt, gq_va, gq_vw, gq_jd, gq_jb, gq_jc, gq_js, gq_jl, gq_jx, gq_ji, gq_jf, gq_jn] at hw
    rw [up_self] at hw
    exact ⟨hr.trans (congrArg (fun x => some (Value.int x)) (aim_set c (upd c.kp k p) hM H.1 d h_v)), _, hw⟩
  · exact no_er (show er_X6_aimIfMoved (nI k) p (nI v) = none by unfold er_X6_aimIfMoved; rw [if_pos (ix (N := 4) (n := 4) rfl (by decide) h_k), if_pos (ix (N := 6) (n := 6) rfl (by decide) h_v), if_pos (rgP (lo := (-100)) (hi := 100) h_p rfl rfl)]) h
