theorem cmd_eq {r : xR} {u : Nat → Int32} {b : Nat} (h : RS r u b) {k : Nat} (hk : k < 4) : sp_X5_commandOf r.kp r.ke r.kr r.kt r.kh r.kc k = sp_X7_commandOf u b k := by
  have e1 := h.1.1 k hk
  have e2 := h.1.2.1 k hk
  have es : (if r.kh = 0 then k else 4 + k) = 4 * (u (b + 24)).toNatClampNeg + k := slN_eq h k
  have hb := slN_b h
  have e3 := h.1.2.2.1 (4 * (u (b + 24)).toNatClampNeg + k) (by omega)
  have e4 := h.1.2.2.2.1 (4 * (u (b + 24)).toNatClampNeg + k) (by omega)
  have ec : r.kc = u (b + 25) := h.1.2.2.2.2.1.2.1
  unfold sp_X5_commandOf sp_X7_commandOf
  rw [es, e1, e2, e3, e4, ec]
  rcases h.2.2.1 with q | q
  · rw [q, if_pos rfl, if_neg (show ¬ (0 : Int32) = 1 by decide)]
  · rw [q, if_neg (show ¬ (1 : Int32) = 0 by decide), if_pos rfl]
theorem holds_eq {r : xR} {u : Nat → Int32} {b : Nat} (h : RS r u b) {j : Nat} (hj : j < rN u b) : sp_X2_holds r.xc j r.kh = sp_X7_holdsNow u b j := by
  have e1 := (h.1.2.2.2.2.2.1 j hj).2.2.2.2
  have e2 : r.kh = u (b + 24) := h.1.2.2.2.2.1.1
  have hc := (h.2.2.2.2.2.1 j hj).2.2
  unfold sp_X2_holds sp_X7_holdsNow
  rw [e1, e2]
  rcases h.2.1.2.2.1 with q | q <;> rcases hc with c | c | c <;> rw [q, c] <;> decide
theorem hN01 (u : Nat → Int32) (b j : Nat) : sp_X7_holdsNow u b j = 0 ∨ sp_X7_holdsNow u b j = 1 := by
  unfold sp_X7_holdsNow
  exact bool_ite (Or.inr rfl) (bool_ite (Or.inr rfl) (Or.inl rfl))
theorem val_eq {r : xR} {u : Nat → Int32} {b : Nat} (h : RS r u b) {j : Nat} (hj : j < rN u b) (dq dm : Nat → Int32) (hd : ∀ q, q < (u (b + 27 + 5 * j + 1)).toNatClampNeg → dq q = dm q) : sp_X4_valueOf r.kp r.ke r.kr r.kt r.kh r.kc r.xs r.xh r.xo r.xc dq j = sp_X7_adding u dm b j := by
  obtain ⟨a0, a1, a2, a3, a4⟩ := h.1.2.2.2.2.2.1 j hj
  have ho := h.2.1.2.2.2 j hj
  have hm := (h.2.2.2.2.2.1 j hj).1
  have hr : (u (b + 27 + 5 * j + 0)).toNatClampNeg = rS u b j := rfl
  rw [hr] at hm
  unfold sp_X4_valueOf sp_X7_adding
  rw [holds_eq h hj, a0, a2, a3, hr]
  by_cases c : 4 ≤ u (b + 27 + 5 * j + 0)
  · have h4 : 4 ≤ rS u b j := xle_of (k := 4) (c := 4) rfl ho.1 (by decide) (by omega) c
    rw [if_pos c, if_pos c, hd _ (by omega)]
  · have h4 : rS u b j < 4 := xlt_of (k := 4) (c := 4) rfl ho.1 (by decide) (by omega) c
    rw [if_neg c, if_neg c, cmd_eq h h4]
theorem csm_eq {r : xR} {u : Nat → Int32} {b : Nat} (h : RS r u b) (i : Nat) (hi : i < 6) (dq dm : Nat → Int32) (hd : ∀ q, q < i → dq q = dm q) : ∀ n, n ≤ rN u b → sp_csm r.kp r.ke r.kr r.kt r.kh r.kc r.xs r.xv r.xh r.xo r.xc i dq 0 n = sp_dsum u b i dm 0 n
  | 0, _ => rfl
  | n + 1, hn => by
    simp only [sp_csm, sp_dsum]
    rw [csm_eq h i hi dq dm hd n (by omega), (h.1.2.2.2.2.2.1 n (by omega)).2.1]
    by_cases c : u (b + 27 + 5 * n + 1) = nI i
    · rw [if_pos c, if_pos c, val_eq h (by omega) dq dm (fun q hq => hd q (by rw [c, nI_clamp (by omega)] at hq; exact hq))]
    · rw [if_neg c, if_neg c, Int32.add_zero]
theorem clamp_eq (s : Int32) : (if 300 < (if s < (-300) then (-300) else s) then 300 else (if s < (-300) then (-300) else s)) = sp_X7_within s (-300) 300 := by
  unfold sp_X7_within
  by_cases c : s < -300
  · rw [if_pos c, if_neg (by decide), if_neg (Int32.not_le.mpr c)]
  · rw [if_neg c, if_pos (Int32.not_lt.mp c)]
    by_cases d : 300 < s
    · rw [if_pos d, if_neg (Int32.not_le.mpr d)]
    · rw [if_neg d, if_pos (Int32.not_lt.mp d)]
theorem cdm_eq {r : xR} {u : Nat → Int32} {b : Nat} (h : RS r u b) (dq dm : Nat → Int32) : ∀ i, i ≤ 6 → ∀ q, q < i → sp_cdm r.kp r.ke r.kr r.kt r.kh r.kc r.xn r.xs r.xv r.xh r.xo r.xc dq i q = sp_dems u b dm i q
  | 0, _, q, hq => absurd hq (Nat.not_lt_zero _)
  | i + 1, hi, q, hq => by
    simp only [sp_cdm, sp_dems]
    by_cases c : q = i
    · have e : r.xn.toNatClampNeg = rN u b := by rw [h.1.2.2.2.2.1.2.2]; rfl
      rw [ue c, ue c, clamp_eq, e, csm_eq h i (by omega) _ (sp_dems u b dm i) (fun q2 hq2 => cdm_eq h dq dm i (by omega) q2 hq2) _ (Nat.le_refl _)]
    · rw [un c, un c]
      exact cdm_eq h dq dm i (by omega) q (by omega)
theorem dem_eq {r : xR} {u : Nat → Int32} {b : Nat} (h : RS r u b) (dq dm : Nat → Int32) {k : Nat} (hk : k < 6) : sp_cdm r.kp r.ke r.kr r.kt r.kh r.kc r.xn r.xs r.xv r.xh r.xo r.xc dq 6 k = sp_dems u b dm 6 k := cdm_eq h dq dm 6 (Nat.le_refl _) k hk
theorem lim_eq (v lo hi : Int32) (h : lo ≤ hi) : (if hi < (if v < lo then lo else v) then hi else (if v < lo then lo else v)) = sp_X7_within v lo hi := by
  unfold sp_X7_within
  by_cases c : v < lo
  · rw [if_pos c, if_neg (Int32.not_lt.mpr h), if_neg (Int32.not_le.mpr c)]
  · rw [if_neg c, if_pos (Int32.not_lt.mp c)]
    by_cases d : hi < v
    · rw [if_pos d, if_neg (Int32.not_le.mpr d)]
    · rw [if_neg d, if_pos (Int32.not_lt.mp d)]
theorem lo_hi {r : xR} {u : Nat → Int32} {b : Nat} (h : RS r u b) {k : Nat} (hk : k < 6) : u (b + 87 + 10 * k + 2) ≤ u (b + 87 + 10 * k + 3) := by
  obtain ⟨-, s2, s3, -⟩ := h.2.2.2.2.2.2 k hk
  exact Int32.le_trans s2.2 s3.1
theorem raw_eq {r : xR} {u : Nat → Int32} {b : Nat} (h : RS r u b) {k : Nat} (hk : k < 6) (d : Int32) (dm : Nat → Int32) (hd : d = dm k) : r.vn k + r.vd k * d = sp_X7_raw u dm b k := by
  obtain ⟨a0, a1, -⟩ := h.1.2.2.2.2.2.2.1 k hk
  unfold sp_X7_raw
  rw [a0, a1, hd]
  by_cases c : u (b + 87 + 10 * k + 0) = 1
  · rw [if_pos c, if_pos c, ← Int32.neg_eq_neg_one_mul]
  · rw [if_neg c, if_neg c, Int32.one_mul]
theorem aim_eq {r : xR} {u : Nat → Int32} {b : Nat} (h : RS r u b) {k : Nat} (hk : k < 6) (v : Int32) : sp_X3_limited r.vl r.vu k v = sp_X7_within v (u (b + 87 + 10 * k + 2)) (u (b + 87 + 10 * k + 3)) := by
  obtain ⟨-, -, a2, a3, -⟩ := h.1.2.2.2.2.2.2.1 k hk
  unfold sp_X3_limited
  rw [a2, a3]
  exact lim_eq _ _ _ (lo_hi h hk)
theorem aimr_eq {r : xR} {u : Nat → Int32} {b : Nat} (h : RS r u b) {k : Nat} (hk : k < 6) (dq dm : Nat → Int32) : sp_X3_limited r.vl r.vu k (r.vn k + r.vd k * (sp_cdm r.kp r.ke r.kr r.kt r.kh r.kc r.xn r.xs r.xv r.xh r.xo r.xc dq 6) k) = sp_X7_within (sp_X7_raw u (sp_dems u b dm 6) b k) (u (b + 87 + 10 * k + 2)) (u (b + 87 + 10 * k + 3)) := by
  rw [raw_eq h hk _ (sp_dems u b dm 6) (dem_eq h dq dm hk), aim_eq h hk]
theorem size_eq (d : Int32) : (if 0 ≤ d then d else 0 - d) = sp_X7_size d := by
  unfold sp_X7_size
  rw [Int32.zero_sub]
theorem P_command (r : xR) (po : Int32) (pn : Int32) (pl : Int32) (tx : Nat → Int32) (rp : Int32) (rl : Int32) (rs : Int32) (rm : Int32) (rn : Int32) (rz : Int32) (sv : xPl) (mm : xPl) (u : Nat → Int32) (fi : Nat → Int32) (t2 : Nat → Int32) (dm : Nat → Int32) (th : Int32) (sa : Int32) (ln : Int32) (pa : Int32) (le : Int32) (sk : Int32) (nu : Int32) (h : Int64) (qa : Int32) (H : RI r po pn pl tx sv mm u fi t2 sa ln) : ((er_X6_command qa) = none → (sp_X7_command_th qa) = 0 ∧ (sp_X5_commandOf r.kp r.ke r.kr r.kt r.kh r.kc (Int32.toNatClampNeg qa)) = (sp_X7_command u qa) ∧ RI r po pn pl tx sv mm u fi t2 sa ln) ∧ (∀ (E : String) (cd : Int32), (er_X6_command qa) = some E → ((E = xIO ∧ cd = 1)) → (sp_X7_command_th qa) = cd ∧ RI r po pn pl tx sv mm u fi t2 sa ln) := g1 in_S (fun c => cmd_eq H.1 (S_lt c)) H
theorem P_isActive (r : xR) (po : Int32) (pn : Int32) (pl : Int32) (tx : Nat → Int32) (rp : Int32) (rl : Int32) (rs : Int32) (rm : Int32) (rn : Int32) (rz : Int32) (sv : xPl) (mm : xPl) (u : Nat → Int32) (fi : Nat → Int32) (t2 : Nat → Int32) (dm : Nat → Int32) (th : Int32) (sa : Int32) (ln : Int32) (pa : Int32) (le : Int32) (sk : Int32) (nu : Int32) (h : Int64) (qa : Int32) (H : RI r po pn pl tx sv mm u fi t2 sa ln) : ((er_X6_isActive r qa) = none → (sp_X7_isActive_th u qa) = 0 ∧ (sp_X2_holds r.xc (Int32.toNatClampNeg qa) r.kh) = (sp_X7_isActive u qa) ∧ RI r po pn pl tx sv mm u fi t2 sa ln) ∧ (∀ (E : String) (cd : Int32), (er_X6_isActive r qa) = some E → ((E = xIO ∧ cd = 1)) → (sp_X7_isActive_th u qa) = cd ∧ RI r po pn pl tx sv mm u fi t2 sa ln) := g1 (in_M H.1) (fun c => by
  rw [holds_eq H.1 (M_lt H.1 c)]
  rcases hN01 u 0 qa.toNatClampNeg with q | q <;> rw [q] <;> decide) H
theorem P_demand (r : xR) (po : Int32) (pn : Int32) (pl : Int32) (tx : Nat → Int32) (rp : Int32) (rl : Int32) (rs : Int32) (rm : Int32) (rn : Int32) (rz : Int32) (sv : xPl) (mm : xPl) (u : Nat → Int32) (fi : Nat → Int32) (t2 : Nat → Int32) (dm : Nat → Int32) (th : Int32) (sa : Int32) (ln : Int32) (pa : Int32) (le : Int32) (sk : Int32) (nu : Int32) (h : Int64) (qa : Int32) (H : RI r po pn pl tx sv mm u fi t2 sa ln) : ((er_X6_demand qa) = none → (sp_X7_demand_th qa) = 0 ∧ (sp_X6_demand r qa) = (sp_X7_demand u dm qa) ∧ RI (r.set_dq (sp_cdm r.kp r.ke r.kr r.kt r.kh r.kc r.xn r.xs r.xv r.xh r.xo r.xc r.dq 6)) po pn pl tx sv mm u fi t2 sa ln) ∧ (∀ (E : String) (cd : Int32), (er_X6_demand qa) = some E → ((E = xIO ∧ cd = 1)) → (sp_X7_demand_th qa) = cd ∧ RI r po pn pl tx sv mm u fi t2 sa ln) := g1 in_V (fun c => dem_eq H.1 _ _ (V_lt c)) H
theorem P_aim (r : xR) (po : Int32) (pn : Int32) (pl : Int32) (tx : Nat → Int32) (rp : Int32) (rl : Int32) (rs : Int32) (rm : Int32) (rn : Int32) (rz : Int32) (sv : xPl) (mm : xPl) (u : Nat → Int32) (fi : Nat → Int32) (t2 : Nat → Int32) (dm : Nat → Int32) (th : Int32) (sa : Int32) (ln : Int32) (pa : Int32) (le : Int32) (sk : Int32) (nu : Int32) (h : Int64) (qa : Int32) (H : RI r po pn pl tx sv mm u fi t2 sa ln) : ((er_X6_aim qa) = none → (sp_X7_aim_th qa) = 0 ∧ (sp_X6_aim r qa) = (sp_X7_aim u dm qa) ∧ RI (r.set_dq (sp_cdm r.kp r.ke r.kr r.kt r.kh r.kc r.xn r.xs r.xv r.xh r.xo r.xc r.dq 6)) po pn pl tx sv mm u fi t2 sa ln) ∧ (∀ (E : String) (cd : Int32), (er_X6_aim qa) = some E → ((E = xIO ∧ cd = 1)) → (sp_X7_aim_th qa) = cd ∧ RI r po pn pl tx sv mm u fi t2 sa ln) := g1 in_V (fun c => aimr_eq H.1 (V_lt c) _ _) H
theorem P_excess (r : xR) (po : Int32) (pn : Int32) (pl : Int32) (tx : Nat → Int32) (rp : Int32) (rl : Int32) (rs : Int32) (rm : Int32) (rn : Int32) (rz : Int32) (sv : xPl) (mm : xPl) (u : Nat → Int32) (fi : Nat → Int32) (t2 : Nat → Int32) (dm : Nat → Int32) (th : Int32) (sa : Int32) (ln : Int32) (pa : Int32) (le : Int32) (sk : Int32) (nu : Int32) (h : Int64) (qa : Int32) (H : RI r po pn pl tx sv mm u fi t2 sa ln) : ((er_X6_excess qa) = none → (sp_X7_excess_th qa) = 0 ∧ (sp_X6_excess r qa) = (sp_X7_excess u dm qa) ∧ RI (r.set_dq (sp_cdm r.kp r.ke r.kr r.kt r.kh r.kc r.xn r.xs r.xv r.xh r.xo r.xc r.dq 6)) po pn pl tx sv mm u fi t2 sa ln) ∧ (∀ (E : String) (cd : Int32), (er_X6_excess qa) = some E → ((E = xIO ∧ cd = 1)) → (sp_X7_excess_th qa) = cd ∧ RI r po pn pl tx sv mm u fi t2 sa ln) := g1 in_V (fun c => by
  unfold sp_X6_excess
  rw [aimr_eq H.1 (V_lt c) r.dq dm, raw_eq H.1 (V_lt c) _ (sp_dems u 0 dm 6) (dem_eq H.1 r.dq dm (V_lt c))]) H
theorem P_mixValue (r : xR) (po : Int32) (pn : Int32) (pl : Int32) (tx : Nat → Int32) (rp : Int32) (rl : Int32) (rs : Int32) (rm : Int32) (rn : Int32) (rz : Int32) (sv : xPl) (mm : xPl) (u : Nat → Int32) (fi : Nat → Int32) (t2 : Nat → Int32) (dm : Nat → Int32) (th : Int32) (sa : Int32) (ln : Int32) (pa : Int32) (le : Int32) (sk : Int32) (nu : Int32) (h : Int64) (qa : Int32) (H : RI r po pn pl tx sv mm u fi t2 sa ln) : ((er_X6_mixValue r qa) = none → (sp_X7_mixValue_th u qa) = 0 ∧ (sp_X6_mixValue r qa) = (sp_X7_mixValue u dm qa) ∧ RI (r.set_dq (sp_cdm r.kp r.ke r.kr r.kt r.kh r.kc r.xn r.xs r.xv r.xh r.xo r.xc r.dq 6)) po pn pl tx sv mm u fi t2 sa ln) ∧ (∀ (E : String) (cd : Int32), (er_X6_mixValue r qa) = some E → ((E = xIO ∧ cd = 1)) → (sp_X7_mixValue_th u qa) = cd ∧ RI r po pn pl tx sv mm u fi t2 sa ln) := g1 (in_M H.1) (fun c => val_eq H.1 (M_lt H.1 c) _ _ (fun q hq => dem_eq H.1 _ _ (Nat.lt_trans hq (H.1.2.2.2.2.2.1 _ (M_lt H.1 c)).2.1.2))) H
theorem P_reason (r : xR) (po : Int32) (pn : Int32) (pl : Int32) (tx : Nat → Int32) (rp : Int32) (rl : Int32) (rs : Int32) (rm : Int32) (rn : Int32) (rz : Int32) (sv : xPl) (mm : xPl) (u : Nat → Int32) (fi : Nat → Int32) (t2 : Nat → Int32) (dm : Nat → Int32) (th : Int32) (sa : Int32) (ln : Int32) (pa : Int32) (le : Int32) (sk : Int32) (nu : Int32) (h : Int64) (qa : Int32) (H : RI r po pn pl tx sv mm u fi t2 sa ln) : ((er_X6_reason qa) = none → (sp_X7_reason_th qa) = 0 ∧ (sp_X6_reason r qa) = (sp_X7_reason u dm qa) ∧ RI (r.set_dq (sp_cdm r.kp r.ke r.kr r.kt r.kh r.kc r.xn r.xs r.xv r.xh r.xo r.xc r.dq 6)) po pn pl tx sv mm u fi t2 sa ln) ∧ (∀ (E : String) (cd : Int32), (er_X6_reason qa) = some E → ((E = xIO ∧ cd = 1)) → (sp_X7_reason_th qa) = cd ∧ RI r po pn pl tx sv mm u fi t2 sa ln) := g1 in_V (fun c => by
  have hk := V_lt c
  have ea : r.va qa.toNatClampNeg = u (0 + 87 + 10 * qa.toNatClampNeg + 8) := (H.1.1.2.2.2.2.2.2.1 _ hk).2.2.2.2.2.2.2.2.1
  obtain ⟨-, eb, -, -, -, -, ei, -, ef⟩ := H.1.1.2.2.2.2.2.2.2
  unfold sp_X6_reason sp_X1_reasonForLag
  rw [aimr_eq H.1 hk r.dq dm, ea, eb, ei, ef]
  have hb := H.1.2.2.2.1
  rcases hb with q | q
  · first | (rw [q, if_pos rfl, if_neg (show ¬ (0 : Int32) = 1 by decide)]; done) | (rw [q, if_pos rfl, if_neg (show ¬ (0 : Int32) = 1 by decide)]; rfl)
  · first | (rw [q, if_neg (show ¬ (1 : Int32) = 0 by decide), if_pos rfl]; done) | (rw [q, if_neg (show ¬ (1 : Int32) = 0 by decide), if_pos rfl]; rfl)) H
theorem P_framesToAim (r : xR) (po : Int32) (pn : Int32) (pl : Int32) (tx : Nat → Int32) (rp : Int32) (rl : Int32) (rs : Int32) (rm : Int32) (rn : Int32) (rz : Int32) (sv : xPl) (mm : xPl) (u : Nat → Int32) (fi : Nat → Int32) (t2 : Nat → Int32) (dm : Nat → Int32) (th : Int32) (sa : Int32) (ln : Int32) (pa : Int32) (le : Int32) (sk : Int32) (nu : Int32) (h : Int64) (qa : Int32) (H : RI r po pn pl tx sv mm u fi t2 sa ln) : ((er_X6_framesToAim qa) = none → (sp_X7_framesToAim_th qa) = 0 ∧ (sp_X6_framesToAim r qa) = (sp_X7_framesToAim u dm qa) ∧ RI (r.set_dq (sp_cdm r.kp r.ke r.kr r.kt r.kh r.kc r.xn r.xs r.xv r.xh r.xo r.xc r.dq 6)) po pn pl tx sv mm u fi t2 sa ln) ∧ (∀ (E : String) (cd : Int32), (er_X6_framesToAim qa) = some E → ((E = xIO ∧ cd = 1)) → (sp_X7_framesToAim_th qa) = cd ∧ RI r po pn pl tx sv mm u fi t2 sa ln) := g1 in_V (fun c => by
  have hk := V_lt c
  obtain ⟨-, -, -, -, e4, -, -, -, e8, -⟩ := H.1.1.2.2.2.2.2.2.1 _ hk
  have hs := (H.1.2.2.2.2.2.2 _ hk).2.2.2.1
  have em : ∀ x : Int32, 1 ≤ x → (if 1 < x then x else 1) = x := fun x hx => by
    by_cases d : 1 < x
    · exact if_pos d
    · rw [if_neg d]; exact Int32.le_antisymm hx (Int32.not_lt.mp d)
  unfold sp_X6_framesToAim
  rw [aimr_eq H.1 hk r.dq dm, e4, e8, size_eq, em _ hs]) H
