def btT (i : Nat) : Int32 := (if ((nI i) - (nI i) / 2 * 2) = 1 then ((nI (i + 1)) / 2) else ((-(nI i)) / 2))
def btS (M : Int32 → Int32) : Nat → Int32 × Int32
  | 0 => (0, 1000)
  | i + 1 => ((if (btS M i).2 ≤ M (btT i) then (btS M i).1 else btT i), (if (btS M i).2 ≤ M (btT i) then (btS M i).2 else M (btT i)))
theorem btS_s (M : Int32 → Int32) (i : Nat) : btS M (i + 1) = ((if (btS M i).2 ≤ M (btT i) then (btS M i).1 else btT i), (if (btS M i).2 ≤ M (btT i) then (btS M i).2 else M (btT i))) := rfl
theorem btT_v : ∀ j, j < 25 → btT (2 * j + 1) = nI (1 + j) ∧ btT (2 * j + 1 + 1) = -(nI (1 + j)) := by decide +kernel
theorem bt_m0 {r : xR} {W : Nat → Int32} {s k2 : Nat} {t : Int32} {kt : Nat → Int32} (hT : RS (r.set_kt (upd kt s t)) W 1404) (hk : k2 < 6) (dq dm : Nat → Int32) : sp_X6_missWithTrim (rTD r kt dq) s t k2 = sp_X7_size (sp_X7_within (sp_X7_raw W (sp_dems W 1404 dm 6) 1404 k2) (W (1404 + 87 + 10 * k2 + 2)) (W (1404 + 87 + 10 * k2 + 3))) := by
  have e := aimr_eq hT hk dq dm
  simp only [xR.set_kt, pj_kp, pj_ke, pj_kr, pj_kt, pj_kh, pj_kc, pj_xn, pj_xs, pj_xv, pj_xh, pj_xo, pj_xc, pj_vd, pj_vn, pj_vl, pj_vu, pj_vs, pj_vm, pj_vp, pj_vt, pj_va, pj_vw, pj_jd, pj_jb, pj_jc, pj_js, pj_jl, pj_jx, pj_ji, pj_jf, pj_jn, pj_dq] at e
  unfold sp_X6_missWithTrim rTD
  simp only [pj_kp, pj_ke, pj_kr, pj_kt, pj_kh, pj_kc, pj_xn, pj_xs, pj_xv, pj_xh, pj_xo, pj_xc, pj_vd, pj_vn, pj_vl, pj_vu, pj_vs, pj_vm, pj_vp, pj_vt, pj_va, pj_vw, pj_jd, pj_jb, pj_jc, pj_js, pj_jl, pj_jx, pj_ji, pj_jf, pj_jn, pj_dq]
  exact (congrArg (fun x : Int32 => if 0 ≤ x then x else 0 - x) e).trans (size_eq _)
theorem bt_b0 {r : xR} {W : Nat → Int32} {b k2 : Nat} (hT : RS r W b) (hk : k2 < 6) (v : Int32) : -150 ≤ sp_X7_within v (W (b + 87 + 10 * k2 + 2)) (W (b + 87 + 10 * k2 + 3)) ∧ sp_X7_within v (W (b + 87 + 10 * k2 + 2)) (W (b + 87 + 10 * k2 + 3)) ≤ 150 := by
  have b := wth_in (v := v) (lo_hi hT hk)
  obtain ⟨s0, s2, s3, s4, s7, s8⟩ := hT.2.2.2.2.2.2 _ hk
  exact ⟨Int32.le_trans s2.1 b.1, Int32.le_trans b.2 s3.2⟩
theorem bt_T {r : xR} {u : Nat → Int32} (h : RS r u 0) {qa : Int32} (hq : qa.toNatClampNeg < 4) (t : Int32) : RS (r.set_kt (upd r.kt (slN r.kh qa.toNatClampNeg) t)) (upd (sp_cp 0 9 u 156) (1420 + 4 * (u 24).toNatClampNeg + qa.toNatClampNeg) t) 1404 := by
  have hp : (slN r.kh qa.toNatClampNeg) = 4 * (u 24).toNatClampNeg + qa.toNatClampNeg := slN_eq h _
  have hb : (u 24).toNatClampNeg ≤ 1 := slN_b h
  generalize (slN r.kh qa.toNatClampNeg) = s at hp ⊢
  have hS : RS (r.set_kt (upd r.kt s t)) (upd u (16 + s) t) 0 := ⟨h.1.set_kt h.2.1.2.1 (by omega) rfl, h.2.free (Or.inl (by omega))⟩
  exact hS.mv fun q hq2 => by
    by_cases d : q = 16 + s
    · rw [ue (by omega), ue (by omega)]
    · rw [un (by omega), un (by omega)]
      have h1 := cp_in (f := 0) (t := 9) u (by omega) hq2
      rw [show 1404 + q = 156 * 9 + q from by omega, h1]
theorem bt_miss {r : xR} {u : Nat → Int32} (h : RS r u 0) {qa qb : Int32} (hq : qa.toNatClampNeg < 4) (hk : qb.toNatClampNeg < 6) (t : Int32) (kt dq dm : Nat → Int32) (hkt : ∀ q, q ≠ (slN r.kh qa.toNatClampNeg) → kt q = r.kt q) : sp_X6_missWithTrim (rTD r kt dq) (slN r.kh qa.toNatClampNeg) t qb.toNatClampNeg = sp_X7_size (sp_X7_within (sp_X7_raw (upd (sp_cp 0 9 u 156) (1420 + 4 * (u 24).toNatClampNeg + qa.toNatClampNeg) t) (sp_dems (upd (sp_cp 0 9 u 156) (1420 + 4 * (u 24).toNatClampNeg + qa.toNatClampNeg) t) 1404 dm 6) 1404 qb.toNatClampNeg) ((upd (sp_cp 0 9 u 156) (1420 + 4 * (u 24).toNatClampNeg + qa.toNatClampNeg) t) (1404 + 87 + 10 * qb.toNatClampNeg + 2)) ((upd (sp_cp 0 9 u 156) (1420 + 4 * (u 24).toNatClampNeg + qa.toNatClampNeg) t) (1404 + 87 + 10 * qb.toNatClampNeg + 3))) := by
  have ek : upd kt (slN r.kh qa.toNatClampNeg) t = upd r.kt (slN r.kh qa.toNatClampNeg) t := by
    funext q
    by_cases c : q = (slN r.kh qa.toNatClampNeg)
    · rw [ue c, ue c]
    · rw [un c, un c, hkt q c]
  have hT := bt_T h hq t
  rw [← ek] at hT
  exact bt_m0 hT hk dq dm
theorem bt_M {r : xR} {u : Nat → Int32} (h : RS r u 0) {qa qb : Int32} (hq : qa.toNatClampNeg < 4) (hk : qb.toNatClampNeg < 6) (t : Int32) (kt dq : Nat → Int32) (hkt : ∀ q, q ≠ (slN r.kh qa.toNatClampNeg) → kt q = r.kt q) : sp_X6_missWithTrim (rTD r kt dq) (slN r.kh qa.toNatClampNeg) t qb.toNatClampNeg = sp_X6_missWithTrim r (slN r.kh qa.toNatClampNeg) t qb.toNatClampNeg := by
  have e : sp_X6_missWithTrim r (slN r.kh qa.toNatClampNeg) t qb.toNatClampNeg = sp_X6_missWithTrim (rTD r r.kt r.dq) (slN r.kh qa.toNatClampNeg) t qb.toNatClampNeg := rfl
  rw [e, bt_miss h hq hk t kt dq dq hkt, bt_miss h hq hk t r.kt r.dq dq (fun _ _ => rfl)]
theorem bt_Q {r : xR} {u : Nat → Int32} (h : RS r u 0) {qa qb : Int32} (hq : qa.toNatClampNeg < 4) (hk : qb.toNatClampNeg < 6) (t : Int32) (dm : Nat → Int32) : sp_X6_missWithTrim r (slN r.kh qa.toNatClampNeg) t qb.toNatClampNeg = sp_X7_size (sp_X7_within (sp_X7_raw (upd (sp_cp 0 9 u 156) (1420 + 4 * (u 24).toNatClampNeg + qa.toNatClampNeg) t) (sp_dems (upd (sp_cp 0 9 u 156) (1420 + 4 * (u 24).toNatClampNeg + qa.toNatClampNeg) t) 1404 dm 6) 1404 qb.toNatClampNeg) ((upd (sp_cp 0 9 u 156) (1420 + 4 * (u 24).toNatClampNeg + qa.toNatClampNeg) t) (1404 + 87 + 10 * qb.toNatClampNeg + 2)) ((upd (sp_cp 0 9 u 156) (1420 + 4 * (u 24).toNatClampNeg + qa.toNatClampNeg) t) (1404 + 87 + 10 * qb.toNatClampNeg + 3))) := bt_miss h hq hk t r.kt r.dq dm (fun _ _ => rfl)
theorem bt_lt {r : xR} {u : Nat → Int32} (h : RS r u 0) {qa qb : Int32} (hq : qa.toNatClampNeg < 4) (hk : qb.toNatClampNeg < 6) (t : Int32) : ¬ 1000 ≤ sp_X6_missWithTrim r (slN r.kh qa.toNatClampNeg) t qb.toNatClampNeg := by
  rw [bt_Q h hq hk t r.dq]
  obtain ⟨b1, b2⟩ := bt_b0 (bt_T h hq t) hk (sp_X7_raw (upd (sp_cp 0 9 u 156) (1420 + 4 * (u 24).toNatClampNeg + qa.toNatClampNeg) t) (sp_dems (upd (sp_cp 0 9 u 156) (1420 + 4 * (u 24).toNatClampNeg + qa.toNatClampNeg) t) 1404 r.dq 6) 1404 qb.toNatClampNeg)
  generalize sp_X7_within _ _ _ = x at b1 b2
  have i1 : (150 : Int32).toInt = 150 := by decide
  have i2 : (-150 : Int32).toInt = -150 := by decide
  have i3 : (1000 : Int32).toInt = 1000 := by decide
  unfold sp_X7_size
  simp only [Int32.le_iff_toInt_le] at b1 b2 ⊢
  have hn : (-x).toInt = -x.toInt := xi_neg (by omega) (by omega)
  split <;> omega
theorem bt_ref {r : xR} {u : Nat → Int32} (h : RS r u 0) {qa qb : Int32} (hq : qa.toNatClampNeg < 4) (hk : qb.toNatClampNeg < 6) (dm : Nat → Int32) : ∀ i, (sp_bt qa qb (sp_cp 0 9 u 156) dm 0 1000 i).2.2 = btS (fun t => sp_X6_missWithTrim r (slN r.kh qa.toNatClampNeg) t qb.toNatClampNeg) i ∧ ∀ q, q ≠ (1420 + 4 * (u 24).toNatClampNeg + qa.toNatClampNeg) → (sp_bt qa qb (sp_cp 0 9 u 156) dm 0 1000 i).1 q = sp_cp 0 9 u 156 q
  | 0 => ⟨rfl, fun _ _ => rfl⟩
  | i + 1 => by
    obtain ⟨i1, i2⟩ := bt_ref h hq hk dm i
    have hb : (u 24).toNatClampNeg ≤ 1 := slN_b h
    have eT : (if ((nI i) - (nI i) / 2 * 2) = 1 then ((nI (i + 1)) / 2) else ((-(nI i)) / 2)) = btT i := rfl
    simp only [sp_bt, eT]
    generalize sp_bt qa qb (sp_cp 0 9 u 156) dm 0 1000 i = F at i1 i2 ⊢
    have e24 : F.1 24 = u 24 := (i2 24 (by omega)).trans (cp_out _ (by omega) (by omega))
    have eW : upd F.1 (1420 + 4 * (u 24).toNatClampNeg + qa.toNatClampNeg) (btT i) = (upd (sp_cp 0 9 u 156) (1420 + 4 * (u 24).toNatClampNeg + qa.toNatClampNeg) (btT i)) := by
      funext q
      by_cases c : q = (1420 + 4 * (u 24).toNatClampNeg + qa.toNatClampNeg)
      · rw [ue c, ue c]
      · rw [un c, un c, i2 q c]
    rw [e24, eW]
    have hM := bt_Q h hq hk (btT i) F.2.1
    refine ⟨?_, fun q hq2 => un hq2⟩
    rw [← hM]
    show _ = ((if (btS (fun t => sp_X6_missWithTrim r (slN r.kh qa.toNatClampNeg) t qb.toNatClampNeg) i).2 ≤ sp_X6_missWithTrim r (slN r.kh qa.toNatClampNeg) (btT i) qb.toNatClampNeg then (btS (fun t => sp_X6_missWithTrim r (slN r.kh qa.toNatClampNeg) t qb.toNatClampNeg) i).1 else btT i), (if (btS (fun t => sp_X6_missWithTrim r (slN r.kh qa.toNatClampNeg) t qb.toNatClampNeg) i).2 ≤ sp_X6_missWithTrim r (slN r.kh qa.toNatClampNeg) (btT i) qb.toNatClampNeg then (btS (fun t => sp_X6_missWithTrim r (slN r.kh qa.toNatClampNeg) t qb.toNatClampNeg) i).2 else sp_X6_missWithTrim r (slN r.kh qa.toNatClampNeg) (btT i) qb.toNatClampNeg))
    rw [← i1]
theorem bt_cls {r : xR} {qa qb : Int32} {M : Int32 → Int32} {a2 a3 : Nat → Int32} (hM : ∀ t kt dq, (∀ q, q ≠ (slN r.kh qa.toNatClampNeg) → kt q = r.kt q) → sp_X6_missWithTrim (rTD r kt dq) (slN r.kh qa.toNatClampNeg) t qb.toNatClampNeg = M t) (hl : ¬ 1000 ≤ M 0) (ha : ∀ q, q ≠ (slN r.kh qa.toNatClampNeg) → a2 q = r.kt q) : ∀ i, i ≤ 25 → ((sp_btl r qa qb 0 (M 0) a2 a3 i).1 = (btS M (2 * i + 1)).1 ∧ (sp_btl r qa qb 0 (M 0) a2 a3 i).2.1 = (btS M (2 * i + 1)).2) ∧ ∀ q, q ≠ (slN r.kh qa.toNatClampNeg) → (sp_btl r qa qb 0 (M 0) a2 a3 i).2.2.1 q = r.kt q
  | 0, _ => by
    have e0 : btT 0 = 0 := by decide
    have eS : btS M (2 * 0 + 1) = (0, M 0) := by
      show ((if (1000 : Int32) ≤ M (btT 0) then (0 : Int32) else btT 0), (if (1000 : Int32) ≤ M (btT 0) then (1000 : Int32) else M (btT 0))) = _
      rw [e0, if_neg hl, if_neg hl]
    rw [eS]
    exact ⟨⟨rfl, rfl⟩, ha⟩
  | i + 1, hi => by
    obtain ⟨⟨i1, i2⟩, i3⟩ := bt_cls hM hl ha i (by omega)
    obtain ⟨t1, t2⟩ := btT_v i (by omega)
    simp only [sp_btl]
    generalize (sp_btl r qa qb 0 (M 0) a2 a3 i) = B at i1 i2 i3 ⊢
    have m2 : ∀ dq, sp_X6_missWithTrim (rTD r (upd B.2.2.1 (slN r.kh qa.toNatClampNeg) (nI (1 + i))) dq) (slN r.kh qa.toNatClampNeg) (-(nI (1 + i))) qb.toNatClampNeg = M (-(nI (1 + i))) := fun dq => hM _ _ dq (fun q hq2 => (un hq2).trans (i3 q hq2))
    rw [hM _ _ _ i3, m2]
    have eS : btS M (2 * (i + 1) + 1) = btS M (2 * i + 1 + 1 + 1) := rfl
    have e3 : btS M (2 * i + 1) = (B.1, B.2.1) := by rw [i1, i2]
    rw [eS, btS_s M (2 * i + 1 + 1), btS_s M (2 * i + 1), e3, t1, t2]
    exact ⟨⟨rfl, rfl⟩, fun q hq2 => by rw [un hq2, un hq2]; exact i3 q hq2⟩
theorem P_bestTrim (r : xR) (po : Int32) (pn : Int32) (pl : Int32) (tx : Nat → Int32) (rp : Int32) (rl : Int32) (rs : Int32) (rm : Int32) (rn : Int32) (rz : Int32) (sv : xPl) (mm : xPl) (u : Nat → Int32) (fi : Nat → Int32) (t2 : Nat → Int32) (dm : Nat → Int32) (th : Int32) (sa : Int32) (ln : Int32) (pa : Int32) (le : Int32) (sk : Int32) (nu : Int32) (h : Int64) (qa : Int32) (qb : Int32) (H : RI r po pn pl tx sv mm u fi t2 sa ln) : ((er_X6_bestTrim qa qb) = none → (sp_X7_bestTrim_th qa qb) = 0 ∧ (sp_X6_bestTrim r qa qb) = (sp_X7_bestTrim u dm qa qb) ∧ RI (rTD r (sp_X6_bestTrim_kt r qa qb) (sp_X6_bestTrim_dq r qa qb)) po pn pl tx sv mm (sp_X7_bestTrim_s u dm qa qb) fi t2 sa ln) ∧ (∀ (E : String) (cd : Int32), (er_X6_bestTrim qa qb) = some E → ((E = xIO ∧ cd = 1)) → (sp_X7_bestTrim_th qa qb) = cd ∧ RI r po pn pl tx sv mm (sp_X7_bestTrim_s u dm qa qb) fi t2 sa ln) := by
  have hA : ∀ (u' : Nat → Int32), (∀ q, q < 1404 → u' q = u q) → RI r po pn pl tx sv mm u' fi t2 sa ln := fun u' hu => by
    obtain ⟨hr, he, hpl, hpo, hpn, hsv, hmm, hmn⟩ := H
    refine ⟨hr.mv fun q hq => hu _ (by omega), he, hpl, hpo, hpn, fun k hk => ?_, fun k x hx => ?_, hmn⟩
    · obtain ⟨a, r1, q1, q2⟩ := hsv k hk
      have := hpn.2
      exact ⟨a, r1, q1, q2.mv fun q hq => hu _ (by omega)⟩
    · obtain ⟨m1, m2, m3⟩ := hmm k x hx
      exact ⟨m1, m2, m3.mv fun q hq => hu _ (by omega)⟩
  unfold er_X6_bestTrim sp_X7_bestTrim_th sp_X7_bestTrim sp_X7_bestTrim_s
  by_cases c : (¬ qa < 0 ∧ qa < 4)
  · have e := in_S.mp c
    by_cases c2 : (¬ qb < 0 ∧ qb < 6)
    · have e2 := in_V.mp c2
      simp only [if_pos c, if_neg e, if_pos c2, if_neg e2]
      have hq := S_lt c
      have hk := V_lt c2
      have hb : (u 24).toNatClampNeg ≤ 1 := slN_b H.1
      obtain ⟨f1, f2⟩ := bt_ref H.1 hq hk dm 51
      obtain ⟨⟨b1, b2⟩, b3⟩ := bt_cls (M := (fun t => sp_X6_missWithTrim r (slN r.kh qa.toNatClampNeg) t qb.toNatClampNeg)) (a2 := upd r.kt (slN r.kh qa.toNatClampNeg) 0) (a3 := sp_cdm r.kp r.ke r.kr (upd r.kt (slN r.kh qa.toNatClampNeg) 0) r.kh r.kc r.xn r.xs r.xv r.xh r.xo r.xc r.dq 6) (fun t kt dq hkt => bt_M H.1 hq hk t kt dq hkt) (bt_lt H.1 hq hk 0) (fun q hq2 => un hq2) 25 (Nat.le_refl _)
      refine ⟨fun _ => ⟨trivial, ?_, ?_⟩, fun E cd q => absurd q (by simp)⟩
      · unfold sp_X6_bestTrim
        rw [b1, f1]
      · have ek : sp_X6_bestTrim_kt r qa qb = r.kt := by
          unfold sp_X6_bestTrim_kt
          funext q
          by_cases d : q = (slN r.kh qa.toNatClampNeg)
          · rw [ue d, d]
          · rw [un d]; exact b3 q d
        rw [ek]
        have hR := hA (sp_bt qa qb (sp_cp 0 9 u 156) dm 0 1000 51).1 (fun q hq2 => (f2 q (by omega)).trans (cp_out _ (by omega) (by omega)))
        exact ⟨hR.1.dq_c _, hR.2⟩
    · have e2 : sp_X7_in qb 0 5 = 0 := Decidable.not_not.mp (fun q => c2 (in_V.mpr q))
      simp only [if_pos c, if_neg e, if_neg c2, if_pos e2]
      exact ⟨fun q => absurd q (by simp), fun E cd q w => ⟨w.2.symm, H⟩⟩
  · have e : sp_X7_in qa 0 3 = 0 := Decidable.not_not.mp (fun q => c (in_S.mpr q))
    simp only [if_neg c, if_pos e]
    exact ⟨fun q => absurd q (by simp), fun E cd q w => ⟨w.2.symm, H⟩⟩
