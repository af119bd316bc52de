theorem P_cutThrottle (r : xR) (po : Int32) (pn : Int32) (pl : Int32) (tx : Nat → Int32) (rp : Int32) (rl : Int32) (rs : Int32) (rm : Int32) (rn : Int32) (rz : Int32) (sv : xPl) (mm : xPl) (u : Nat → Int32) (fi : Nat → Int32) (t2 : Nat → Int32) (dm : Nat → Int32) (th : Int32) (sa : Int32) (ln : Int32) (pa : Int32) (le : Int32) (sk : Int32) (nu : Int32) (h : Int64) (z : Int32) (hz : z = 0 ∨ z = 1) (H : RI r po pn pl tx sv mm u fi t2 sa ln) : r.kc = (sp_X7_cutThrottle u sa) ∧ ∀ adn : Nat → Nat, RI (r.set_kc z) (sp_spo2 po pn) (sp_spn2 pn) pl tx (svS sv adn r po pn) mm (sp_X7_cutThrottle_s u sa z) fi t2 (sp_X7_save_sa sa) ln := by
  have ez : (if z = 0 then (0 : Int32) else 1) = z := by rcases hz with rfl | rfl <;> decide
  have e : r.kc = u 25 := H.1.1.2.2.2.2.1.2.1
  refine ⟨?_, fun adn => ?_⟩
  · unfold sp_X7_cutThrottle
    rw [save_0 H.hs H.hs6 (by omega), e]
    have hb : u 25 = 0 ∨ u 25 = 1 := H.1.2.2.1
    rcases hb with q | q <;> rw [q] <;> decide
  · have eu : sp_X7_cutThrottle_s u sa z = upd (sp_X7_save_s u sa) 25 z := by unfold sp_X7_cutThrottle_s; rw [ez]
    rw [eu]
    exact H.saved adn (fun q q1 q2 => un (by omega)) ⟨H.sv0.1.set_kc H.sv0.2.1.2.1 rfl, H.sv0.2.set (Or.inl (by omega)) (fun e => absurd e (by omega)) (fun _ => hz) (fun e => absurd e (by omega)) (fun e => absurd e (by omega)) (fun k _ => ⟨(fun e => absurd e (by omega)), (fun e => absurd e (by omega)), (fun e => absurd e (by omega)), (fun e => absurd e (by omega)), (fun e => absurd e (by omega)), (fun e => absurd e (by omega))⟩)⟩
theorem P_charge (r : xR) (po : Int32) (pn : Int32) (pl : Int32) (tx : Nat → Int32) (rp : Int32) (rl : Int32) (rs : Int32) (rm : Int32) (rn : Int32) (rz : Int32) (sv : xPl) (mm : xPl) (u : Nat → Int32) (fi : Nat → Int32) (t2 : Nat → Int32) (dm : Nat → Int32) (th : Int32) (sa : Int32) (ln : Int32) (pa : Int32) (le : Int32) (sk : Int32) (nu : Int32) (h : Int64) (H : RI r po pn pl tx sv mm u fi t2 sa ln) : (20000 - r.jb) = (20000 - ((sp_X7_save_s u sa) 148)) ∧ ∀ adn : Nat → Nat, RI (xRk r.kp r.ke r.kr r.kt r.kh r.kc r.xn r.xs r.xv r.xh r.xo r.xc r.vd r.vn r.vl r.vu r.vs r.vm r.vp r.vt r.va r.vw r.jd 20000 (r.jc + (20000 - r.jb)) r.js r.jl r.jx r.ji r.jf r.jn r.dq) (sp_spo2 po pn) (sp_spn2 pn) pl tx (svS sv adn r po pn) mm (sp_X7_charge_s u sa) fi t2 (sp_X7_save_sa sa) ln := by
  have eb : r.jb = sp_X7_save_s u sa 148 := H.sv0.1.2.2.2.2.2.2.2.2.1
  have ec : r.jc = sp_X7_save_s u sa 149 := H.sv0.1.2.2.2.2.2.2.2.2.2.1
  refine ⟨by rw [eb], fun adn => ?_⟩
  have ev : r.jc + (20000 - r.jb) = sp_X7_save_s u sa 149 + (20000 - sp_X7_save_s u sa 148) := by rw [eb, ec]
  rw [ev]
  have hA : RS (r.set_jb 20000) (upd (sp_X7_save_s u sa) 148 20000) 0 := ⟨H.sv0.1.set_jb H.sv0.2.1.2.1 rfl, H.sv0.2.set (Or.inr (by omega)) (fun e => absurd e (by omega)) (fun e => absurd e (by omega)) (fun e => absurd e (by omega)) (fun _ => by decide) (fun k _ => ⟨(fun e => absurd e (by omega)), (fun e => absurd e (by omega)), (fun e => absurd e (by omega)), (fun e => absurd e (by omega)), (fun e => absurd e (by omega)), (fun e => absurd e (by omega))⟩)⟩
  exact H.saved adn (fun q q1 q2 => (un (by omega)).trans (un (by omega))) ⟨hA.1.set_jc hA.2.1.2.1 rfl, hA.2.free (Or.inr (Or.inr (Or.inl (by omega))))⟩
theorem xAS : xIA ≠ xIS := by decide
theorem ge_one {pn : Int32} (h : pn = nI pn.toNatClampNeg) : ¬ pn ≤ 0 ↔ 0 < pn.toNatClampNeg := by
  have hb := Int32.toNatClampNeg_lt pn
  have h0 : (0 : Int32) = nI 0 := rfl
  constructor
  · intro q
    rcases Nat.eq_zero_or_pos pn.toNatClampNeg with c | c
    · exact absurd (by rw [h, c]; decide) q
    · exact c
  · intro q c
    rw [h, h0, nI_leI hb (by decide)] at c
    omega
theorem P_append (r : xR) (po : Int32) (pn : Int32) (pl : Int32) (tx : Nat → Int32) (rp : Int32) (rl : Int32) (rs : Int32) (rm : Int32) (rn : Int32) (rz : Int32) (sv : xPl) (mm : xPl) (u : Nat → Int32) (fi : Nat → Int32) (t2 : Nat → Int32) (dm : Nat → Int32) (th : Int32) (sa : Int32) (ln : Int32) (pa : Int32) (le : Int32) (sk : Int32) (nu : Int32) (h : Int64) (qa : Int32) (H : RI r po pn pl tx sv mm u fi t2 sa ln) : ((er_X6_append pl qa) = none → (sp_X7_append_th ln qa) = 0 ∧ (pl + 1) = (sp_X7_append ln qa) ∧ RI r po pn (pl + 1) (upd tx (Int32.toNatClampNeg pl) qa) sv mm u fi (sp_X7_append_tx t2 ln qa) sa (sp_X7_append_ln ln qa)) ∧ (∀ (E : String) (cd : Int32), (er_X6_append pl qa) = some E → ((E = xIA ∧ cd = 1) ∨ (E = xIS ∧ cd = 2)) → (sp_X7_append_th ln qa) = cd ∧ RI r po pn pl tx sv mm u fi (sp_X7_append_tx t2 ln qa) sa (sp_X7_append_ln ln qa)) := by
  obtain ⟨hr, ⟨rfl, rfl, rfl⟩, hpl, hpo, hpn, hsv, hmm, hmn⟩ := H
  have hb : ln.toNatClampNeg < 2 ^ 31 := Int32.toNatClampNeg_lt ln
  have e60 : ln < 60 ↔ ¬ ln = 60 := by
    have h60 : (60 : Int32) = nI 60 := rfl
    rw [hpl.1, h60, nI_ltI hb (by decide), nI_eq hb (by decide)]
    omega
  unfold er_X6_append sp_X7_append_th sp_X7_append sp_X7_append_tx sp_X7_append_ln
  by_cases c : (¬ qa < 33 ∧ qa ≤ 126)
  · have e := in_iff.mp c
    by_cases d : ln < 60
    · have f := e60.mp d
      simp only [if_pos c, if_neg e, if_pos d, if_neg f]
      refine ⟨fun _ => ⟨trivial, trivial, hr, ⟨rfl, rfl, rfl⟩, ?_, hpo, hpn, hsv, hmm, hmn⟩, fun E cd q => absurd q (by simp)⟩
      have hl : ln.toNatClampNeg < 60 := by
        have h60 : (60 : Int32) = nI 60 := rfl
        rw [hpl.1, h60, nI_ltI hb (by decide)] at d
        exact d
      have e2 : ln + 1 = nI (ln.toNatClampNeg + 1) := by
        conv => lhs; rw [hpl.1]
        exact nI_1 _
      rw [e2, nI_clamp (by omega)]
      exact ⟨rfl, by omega⟩
    · have f : ln = 60 := Decidable.not_not.mp (fun q => d (e60.mpr q))
      simp only [if_pos c, if_neg e, if_neg d, if_pos f]
      refine ⟨fun q => absurd q (by simp), fun E cd q w => ⟨?_, hr, ⟨rfl, rfl, rfl⟩, hpl, hpo, hpn, hsv, hmm, hmn⟩⟩
      cases q
      rcases w with ⟨w, -⟩ | ⟨-, w⟩
      · exact absurd w.symm xAS
      · exact w.symm
  · have e : sp_X7_in qa 33 126 = 0 := Decidable.not_not.mp (fun q => c (in_iff.mpr q))
    simp only [if_neg c, if_pos e]
    refine ⟨fun q => absurd q (by simp), fun E cd q w => ⟨?_, hr, ⟨rfl, rfl, rfl⟩, hpl, hpo, hpn, hsv, hmm, hmn⟩⟩
    cases q
    rcases w with ⟨-, w⟩ | ⟨w, -⟩
    · exact w.symm
    · exact absurd w xAS
theorem P_store (r : xR) (po : Int32) (pn : Int32) (pl : Int32) (tx : Nat → Int32) (rp : Int32) (rl : Int32) (rs : Int32) (rm : Int32) (rn : Int32) (rz : Int32) (sv : xPl) (mm : xPl) (u : Nat → Int32) (fi : Nat → Int32) (t2 : Nat → Int32) (dm : Nat → Int32) (th : Int32) (sa : Int32) (ln : Int32) (pa : Int32) (le : Int32) (sk : Int32) (nu : Int32) (h : Int64) (qa : Int32) (H : RI r po pn pl tx sv mm u fi t2 sa ln) : ((er_X6_store qa) = none → (sp_X7_store_th qa) = 0 ∧ r.xn = (sp_X7_store u qa) ∧ ∀ adn : Nat → Nat, RI r po pn pl tx sv (stS mm adn r (Int32.toNatClampNeg qa)) (sp_X7_store_s u qa) (sp_X7_store_fi fi qa) t2 sa ln) ∧ (∀ (E : String) (cd : Int32), (er_X6_store qa) = some E → ((E = xIA ∧ cd = 1)) → (sp_X7_store_th qa) = cd ∧ RI r po pn pl tx sv mm (sp_X7_store_s u qa) (sp_X7_store_fi fi qa) t2 sa ln) := by
  refine g1s (T := (Nat → Int32) × (Nat → Int32)) (F := fun adn t => RI r po pn pl tx sv (stS mm adn r qa.toNatClampNeg) t.1 t.2 t2 sa ln) (G := fun t => RI r po pn pl tx sv mm t.1 t.2 t2 sa ln) (t0 := (u, fi)) (t1 := (sp_cp 0 (7 + qa.toNatClampNeg) u 156, upd fi qa.toNatClampNeg 1)) (tt := (sp_X7_store_s u qa, sp_X7_store_fi fi qa)) ?_ in_iff (fun c => ?_) (fun c adn => ?_) H
  · unfold sp_X7_store_s sp_X7_store_fi
    rw [ite2]
  · rw [cp_out _ (by omega) (by omega)]
    exact H.1.1.2.2.2.2.1.2.2
  · have hk : qa.toNatClampNeg ≤ 1 := rq_le c (by decide) (show (1 : Int32) = nI 1 from rfl) (by decide)
    obtain ⟨hr, he, hpl, hpo, hpn, hsv, hmm, hmn⟩ := H
    refine ⟨hr.mv fun q hq => ?_, he, hpl, hpo, hpn, fun k hk2 => ?_, fun k x hx => ?_, fun k hk2 hx => ?_⟩
    · exact cp_out _ (by omega) (by omega)
    · obtain ⟨a, r1, q1, q2⟩ := hsv k hk2
      have := hpn.2
      exact ⟨a, r1, q1, q2.mv fun q hq => cp_out _ (by omega) (by omega)⟩
    · unfold stS at hx
      by_cases ck : k = qa.toNatClampNeg
      · subst ck
        rw [upP_eq] at hx
        cases hx
        refine ⟨by omega, ue rfl, ?_⟩
        have hb : ∀ q, q < 156 → sp_cp 0 (7 + qa.toNatClampNeg) u 156 (156 * (7 + qa.toNatClampNeg) + q) = u (0 + q) := fun q hq => (cp_in u (by omega) hq).trans (congrArg u (by omega))
        split <;> exact (hr.cp _).mv hb
      · rw [upP_ne _ _ ck] at hx
        obtain ⟨m1, m2, m3⟩ := hmm k x hx
        refine ⟨m1, (un ck).trans m2, m3.mv fun q hq => cp_out _ (by omega) (by omega)⟩
    · unfold stS at hx
      by_cases ck : k = qa.toNatClampNeg
      · subst ck
        rw [upP_eq] at hx
        cases hx
      · rw [upP_ne _ _ ck] at hx
        exact (un ck).trans (hmn k hk2 hx)
theorem P_recall (r : xR) (po : Int32) (pn : Int32) (pl : Int32) (tx : Nat → Int32) (rp : Int32) (rl : Int32) (rs : Int32) (rm : Int32) (rn : Int32) (rz : Int32) (sv : xPl) (mm : xPl) (u : Nat → Int32) (fi : Nat → Int32) (t2 : Nat → Int32) (dm : Nat → Int32) (th : Int32) (sa : Int32) (ln : Int32) (pa : Int32) (le : Int32) (sk : Int32) (nu : Int32) (h : Int64) (qa : Int32) (H : RI r po pn pl tx sv mm u fi t2 sa ln) : ((er_X6_recall mm qa) = none → (sp_X7_recall_th fi qa) = 0 ∧ (cpR (svR mm (Int32.toNatClampNeg qa) r) r).xn = (sp_X7_recall u fi sa qa) ∧ ∀ adn : Nat → Nat, RI (cpR (svR mm (Int32.toNatClampNeg qa) r) r) (sp_spo2 po pn) (sp_spn2 pn) pl tx (svS sv adn r po pn) mm (sp_X7_recall_s u fi sa qa) fi t2 (sp_X7_recall_sa fi sa qa) ln) ∧ (∀ (E : String) (cd : Int32), (er_X6_recall mm qa) = some E → ((E = xIA ∧ cd = 1) ∨ (E = xIS ∧ cd = 2)) → (sp_X7_recall_th fi qa) = cd ∧ RI r po pn pl tx sv mm (sp_X7_recall_s u fi sa qa) fi t2 (sp_X7_recall_sa fi sa qa) ln) := by
  have h0 : ∀ c : (¬ qa < 0 ∧ qa ≤ 1), qa.toNatClampNeg < 2 := fun c => by
    have := rq_le c (by decide) (show (1 : Int32) = nI 1 from rfl) (by decide)
    omega
  unfold er_X6_recall sp_X7_recall_th sp_X7_recall sp_X7_recall_s sp_X7_recall_sa
  by_cases c : (¬ qa < 0 ∧ qa ≤ 1)
  · have e := in_iff.mp c
    have hk := h0 c
    rcases hm : mm qa.toNatClampNeg with _ | x
    · have f := H.2.2.2.2.2.2.2 _ hk hm
      simp only [if_pos c, if_neg e, Option.isNone_none, if_true, if_pos f]
      refine ⟨fun q => absurd q (by simp), fun E cd q w => ⟨?_, H⟩⟩
      cases q
      rcases w with ⟨w, -⟩ | ⟨-, w⟩
      · exact absurd w.symm xAS
      · exact w.symm
    · obtain ⟨m1, m2, m3⟩ := H.2.2.2.2.2.2.1 _ x hm
      have f : ¬ fi qa.toNatClampNeg = 0 := by rw [m2]; decide
      simp only [if_pos c, if_neg e, Option.isNone_some, if_neg f, Bool.false_eq_true, if_false]
      have hR : svR mm qa.toNatClampNeg r = x.2 := by unfold svR; rw [hm]
      rw [hR]
      have hb : ∀ q, q < 156 → sp_cp (7 + qa.toNatClampNeg) 0 (sp_X7_save_s u sa) 156 (0 + q) = u (156 * (7 + qa.toNatClampNeg) + q) := fun q hq => by
        have h1 := cp_in (f := 7 + qa.toNatClampNeg) (t := 0) (sp_X7_save_s u sa) (by omega) hq
        rw [Nat.mul_zero] at h1
        rw [h1, save_hi H.hs H.hs6 (by omega) hq]
      have hN : RS (cpR x.2 r) (sp_cp (7 + qa.toNatClampNeg) 0 (sp_X7_save_s u sa) 156) 0 := (m3.cp r).mv hb
      refine ⟨fun _ => ⟨trivial, hN.1.2.2.2.2.1.2.2, fun adn => H.saved adn (fun q q1 q2 => cp_out _ (by omega) (by omega)) hN⟩, fun E cd q => absurd q (by simp)⟩
  · have e : sp_X7_in qa 0 1 = 0 := Decidable.not_not.mp (fun q => c (in_iff.mpr q))
    simp only [if_neg c, if_pos e]
    refine ⟨fun q => absurd q (by simp), fun E cd q w => ⟨?_, H⟩⟩
    cases q
    rcases w with ⟨-, w⟩ | ⟨w, -⟩
    · exact w.symm
    · exact absurd w xAS
theorem P_undo (r : xR) (po : Int32) (pn : Int32) (pl : Int32) (tx : Nat → Int32) (rp : Int32) (rl : Int32) (rs : Int32) (rm : Int32) (rn : Int32) (rz : Int32) (sv : xPl) (mm : xPl) (u : Nat → Int32) (fi : Nat → Int32) (t2 : Nat → Int32) (dm : Nat → Int32) (th : Int32) (sa : Int32) (ln : Int32) (pa : Int32) (le : Int32) (sk : Int32) (nu : Int32) (h : Int64) (H : RI r po pn pl tx sv mm u fi t2 sa ln) : ((er_X6_undo pn) = none → (sp_X7_undo_th sa) = 0 ∧ (pn - 1) = (sp_X7_undo sa) ∧ RI (cpR (svR sv (unK po pn) r) r) po (pn - 1) pl tx sv mm (sp_X7_undo_s u sa) fi t2 (sp_X7_undo_sa sa) ln) ∧ (∀ (E : String) (cd : Int32), (er_X6_undo pn) = some E → ((E = xIS ∧ cd = 1)) → (sp_X7_undo_th sa) = cd ∧ RI r po pn pl tx sv mm (sp_X7_undo_s u sa) fi t2 (sp_X7_undo_sa sa) ln) := by
  have H0 := H
  obtain ⟨hr, ⟨rfl, rfl, rfl⟩, hpl, hpo, hpn, hsv, hmm, hmn⟩ := H
  unfold er_X6_undo sp_X7_undo_th sp_X7_undo sp_X7_undo_s sp_X7_undo_sa
  by_cases c : sa ≤ 0
  · simp only [if_pos c]
    exact ⟨fun q => absurd q (by simp), fun E cd q w => ⟨w.2.symm, H0⟩⟩
  · have hp := (ge_one hpn.1).mp c
    simp only [if_neg c]
    refine ⟨fun _ => ⟨trivial, trivial, ?_⟩, fun E cd q => absurd q (by simp)⟩
    obtain ⟨a, r1, q1, q2⟩ := hsv (sa.toNatClampNeg - 1) (by omega)
    have hR : svR sv (unK po sa) r = r1 := by
      unfold svR
      have : sv (unK po sa) = some (a, r1) := q1
      rw [this]
    rw [hR]
    have es : sa - 1 = nI (sa.toNatClampNeg - 1) := by
      conv => lhs; rw [hpn.1]
      exact pk_sub1 hp
    have e2 : (sa - 1).toNatClampNeg = sa.toNatClampNeg - 1 := by rw [es, nI_clamp (by have := hpn.2; omega)]
    have h6 := hpn.2
    refine ⟨(q2.cp r).mv fun q hq => ?_, ⟨rfl, rfl, rfl⟩, hpl, hpo, ⟨by rw [e2]; exact es, by rw [e2]; omega⟩, fun k hk => ?_, fun k x hx => ?_, hmn⟩
    · have h1 := cp_in (f := sa.toNatClampNeg) (t := 0) u (by omega) hq
      rw [Nat.mul_zero] at h1
      rw [h1]
      exact congrArg u (by omega)
    · rw [e2] at hk
      obtain ⟨a2, r2, w1, w2⟩ := hsv k (by omega)
      exact ⟨a2, r2, w1, w2.mv fun q hq => cp_out _ (by omega) (by omega)⟩
    · obtain ⟨m1, m2, m3⟩ := hmm k x hx
      exact ⟨m1, m2, m3.mv fun q hq => cp_out _ (by omega) (by omega)⟩
theorem mow_eq {r : xR} {u : Nat → Int32} (h : RS r u 0) : ∀ i, i ≤ 6 → sp_mow r (-1) 0 i = sp_mw u (-1) 0 i
  | 0, _ => rfl
  | i + 1, hi => by
    simp only [sp_mow, sp_mw]
    rw [mow_eq h i (by omega), (h.1.2.2.2.2.2.2.1 i (by omega)).2.2.2.2.2.2.2.2.2]
theorem P_mostWorn (r : xR) (po : Int32) (pn : Int32) (pl : Int32) (tx : Nat → Int32) (rp : Int32) (rl : Int32) (rs : Int32) (rm : Int32) (rn : Int32) (rz : Int32) (sv : xPl) (mm : xPl) (u : Nat → Int32) (fi : Nat → Int32) (t2 : Nat → Int32) (dm : Nat → Int32) (th : Int32) (sa : Int32) (ln : Int32) (pa : Int32) (le : Int32) (sk : Int32) (nu : Int32) (h : Int64) (H : RI r po pn pl tx sv mm u fi t2 sa ln) : (sp_mow r (-1) 0 6).1 = (sp_mw u (-1) 0 6).1 ∧ RI r po pn pl tx sv mm u fi t2 sa ln := ⟨by rw [mow_eq H.1 6 (Nat.le_refl _)], H⟩
theorem hsk_eq {r : xR} {u : Nat → Int32} (h : RS r u 0) (a : Int64) : ∀ i, i ≤ 4 → sp_hsk r.kp r.ke r.kr r.kt r.kh r.kc a i = sp_dg1 u a i
  | 0, _ => rfl
  | i + 1, hi => by
    simp only [sp_hsk, sp_dg1]
    have es : (if r.kh = 0 then i else 4 + i) = 4 * (u 24).toNatClampNeg + i := by
      have := slN_eq h i
      rw [Nat.zero_add] at this
      exact this
    have hb := slN_b h
    rw [Nat.zero_add] at hb
    have e1 : r.kp i = u (0 + i) := (h.1.1 i (by omega)).trans (congrArg u (by omega))
    have e2 : r.ke i = u (4 + i) := (h.1.2.1 i (by omega)).trans (congrArg u (by omega))
    have e3 : r.kr (4 * (u 24).toNatClampNeg + i) = u (8 + 4 * (u 24).toNatClampNeg + i) := (h.1.2.2.1 _ (by omega)).trans (congrArg u (by omega))
    have e4 : r.kt (4 * (u 24).toNatClampNeg + i) = u (16 + 4 * (u 24).toNatClampNeg + i) := (h.1.2.2.2.1 _ (by omega)).trans (congrArg u (by omega))
    rw [hsk_eq h a i (by omega), es, e1, e2, e3, e4, cmd_eq h (by omega)]
theorem hmx_eq {r : xR} {u : Nat → Int32} (h : RS r u 0) (dq dm : Nat → Int32) (a : Int64) : ∀ i, i ≤ rN u 0 → sp_hmx r.kp r.ke r.kr r.kt r.kh r.kc r.xs r.xv r.xh r.xo r.xc (sp_cdm r.kp r.ke r.kr r.kt r.kh r.kc r.xn r.xs r.xv r.xh r.xo r.xc dq 6) a i = sp_dg2 u dm a i
  | 0, _ => rfl
  | i + 1, hi => by
    simp only [sp_hmx, sp_dg2]
    obtain ⟨a0, a1, -⟩ := h.1.2.2.2.2.2.1 i (by omega)
    rw [hmx_eq h dq dm a i (by omega), a0, a1, val_eq h (by omega) _ (sp_dems u 0 dm 6) (fun q hq => dem_eq h dq dm (Nat.lt_trans hq (h.2.2.2.2.2.1 i (by omega)).2.1.2))]
theorem hsv_eq {r : xR} {u : Nat → Int32} (h : RS r u 0) (dq dm : Nat → Int32) (a : Int64) : ∀ i, i ≤ 6 → sp_hsv r.vd r.vn r.vl r.vu r.vt r.va r.vw (sp_cdm r.kp r.ke r.kr r.kt r.kh r.kc r.xn r.xs r.xv r.xh r.xo r.xc dq 6) a i = sp_dg3 u dm a i
  | 0, _ => rfl
  | i + 1, hi => by
    simp only [sp_hsv, sp_dg3]
    obtain ⟨-, -, -, -, -, -, -, a7, a8, a9⟩ := h.1.2.2.2.2.2.2.1 i (by omega)
    rw [hsv_eq h dq dm a i (by omega), aimr_eq h (by omega) dq dm, dem_eq h dq dm (by omega), a7, a8, a9]
theorem b_l {v : Int32} (h : v = 0 ∨ v = 1) : (if v = 0 then (0 : Int64) else 1) = v.toInt64 := by rcases h with rfl | rfl <;> decide
theorem P_digest (r : xR) (po : Int32) (pn : Int32) (pl : Int32) (tx : Nat → Int32) (rp : Int32) (rl : Int32) (rs : Int32) (rm : Int32) (rn : Int32) (rz : Int32) (sv : xPl) (mm : xPl) (u : Nat → Int32) (fi : Nat → Int32) (t2 : Nat → Int32) (dm : Nat → Int32) (th : Int32) (sa : Int32) (ln : Int32) (pa : Int32) (le : Int32) (sk : Int32) (nu : Int32) (h : Int64) (H : RI r po pn pl tx sv mm u fi t2 sa ln) : (sp_X6_digest r) = (sp_X7_digest u dm) ∧ RI (r.set_dq (sp_cdm r.kp r.ke r.kr r.kt r.kh r.kc r.xn r.xs r.xv r.xh r.xo r.xc r.dq 6)) po pn pl tx sv mm u fi t2 sa ln := by
  refine ⟨?_, H⟩
  have h := H.1
  have e0 : r.kh = u 24 := h.1.2.2.2.2.1.1
  have e1 : r.kc = u 25 := h.1.2.2.2.2.1.2.1
  have e2 : r.xn = u 26 := h.1.2.2.2.2.1.2.2
  have en : r.xn.toNatClampNeg = rN u 0 := by rw [e2]; rfl
  have b0 : u 24 = 0 ∨ u 24 = 1 := h.2.1.2.2.1
  have b1 : u 25 = 0 ∨ u 25 = 1 := h.2.2.1
  obtain ⟨-, g2, g3, g4, g5, g6, g7, g8, -⟩ := h.1.2.2.2.2.2.2.2
  unfold sp_X6_digest sp_X7_digest sp_X4_hashSticks
  rw [hsv_eq h r.dq dm _ 6 (Nat.le_refl _), en, hmx_eq h r.dq dm _ _ (Nat.le_refl _), hsk_eq h _ 4 (Nat.le_refl _), e0, e1, b_l b0, b_l b1, e2, g2, g3, g4, g5, g6, g7, g8]
  rfl
theorem kp_back (f : Nat → Int32) (k : Nat) (v : Int32) : upd (upd f k v) k (f k) = f := by
  funext q
  by_cases c : q = k
  · rw [ue c, c]
  · rw [un c, un c]
theorem P_aimIfMoved (r : xR) (po : Int32) (pn : Int32) (pl : Int32) (tx : Nat → Int32) (rp : Int32) (rl : Int32) (rs : Int32) (rm : Int32) (rn : Int32) (rz : Int32) (sv : xPl) (mm : xPl) (u : Nat → Int32) (fi : Nat → Int32) (t2 : Nat → Int32) (dm : Nat → Int32) (th : Int32) (sa : Int32) (ln : Int32) (pa : Int32) (le : Int32) (sk : Int32) (nu : Int32) (h : Int64) (qa : Int32) (qb : Int32) (qc : Int32) (H : RI r po pn pl tx sv mm u fi t2 sa ln) : ((er_X6_aimIfMoved qa qb qc) = none → (sp_X7_aimIfMoved_th qa qb qc) = 0 ∧ (sp_X6_aimIfMoved r qa qb qc) = (sp_X7_aimIfMoved u dm qa qb qc) ∧ RI (xRk (sp_X6_aimIfMoved_kp r qa qb) r.ke r.kr r.kt r.kh r.kc r.xn r.xs r.xv r.xh r.xo r.xc r.vd r.vn r.vl r.vu r.vs r.vm r.vp r.vt r.va r.vw r.jd r.jb r.jc r.js r.jl r.jx r.ji r.jf r.jn (sp_X6_aimIfMoved_dq r qa qb)) po pn pl tx sv mm (sp_X7_aimIfMoved_s u qa qb qc) fi t2 sa ln) ∧ (∀ (E : String) (cd : Int32), (er_X6_aimIfMoved qa qb qc) = some E → ((E = xIA ∧ cd = 2) ∨ (E = xIO ∧ cd = 1)) → (sp_X7_aimIfMoved_th qa qb qc) = cd ∧ RI r po pn pl tx sv mm (sp_X7_aimIfMoved_s u qa qb qc) fi t2 sa ln) := by
  have hA : ∀ (u' : Nat → Int32), (∀ q, q < 1404 → u' q = u q) → RI r po pn pl tx sv mm u' fi t2 sa ln := fun u' hu => by
    obtain ⟨hr, he, hpl, hpo, hpn, hsv, hmm, hmn⟩ := H
    refine ⟨hr.mv fun q hq => hu _ (by omega), he, hpl, hpo, hpn, fun k hk => ?_, fun k x hx => ?_, hmn⟩
    · obtain ⟨a, r1, q1, q2⟩ := hsv k hk
      have := hpn.2
      exact ⟨a, r1, q1, q2.mv fun q hq => hu _ (by omega)⟩
    · obtain ⟨m1, m2, m3⟩ := hmm k x hx
      exact ⟨m1, m2, m3.mv fun q hq => hu _ (by omega)⟩
  unfold er_X6_aimIfMoved sp_X7_aimIfMoved_th sp_X7_aimIfMoved sp_X7_aimIfMoved_s
  have hX : xIA ≠ xIO := xOA.symm
  by_cases c : (¬ qa < 0 ∧ qa < 4)
  · have e := in_S.mp c
    by_cases c2 : (¬ qc < 0 ∧ qc < 6)
    · have e2 := in_V.mp c2
      by_cases c3 : (¬ qb < (-100) ∧ qb ≤ 100)
      · have e3 := in_iff.mp c3
        simp only [if_pos c, if_neg e, if_pos c2, if_neg e2, if_pos c3, if_neg e3]
        refine ⟨fun _ => ⟨trivial, ?_, ?_⟩, fun E cd q => absurd q (by simp)⟩
        · have hk := S_lt c
          have hS : RS (r.set_kp (upd r.kp qa.toNatClampNeg qb)) (upd u (0 + qa.toNatClampNeg) qb) 0 := ⟨H.1.1.set_kp H.1.2.1.2.1 hk rfl, H.1.2.free (Or.inl (by omega))⟩
          have hT : RS (r.set_kp (upd r.kp qa.toNatClampNeg qb)) (upd (sp_cp 0 9 u 156) (1404 + qa.toNatClampNeg) qb) 1404 := hS.mv fun q hq => by
            by_cases d : q = qa.toNatClampNeg
            · rw [ue (by omega), ue (by omega)]
            · rw [un (by omega), un (by omega)]
              have h1 := cp_in (f := 0) (t := 9) u (by omega) hq
              rw [show 1404 + q = 156 * 9 + q from by omega, h1]
          exact aimr_eq hT (V_lt c2) r.dq dm
        · have eK : sp_X6_aimIfMoved_kp r qa qb = r.kp := kp_back _ _ _
          rw [eK]
          exact hA _ (fun q hq => (un (by omega)).trans (cp_out _ (by omega) (by omega)))
      · have e3 : sp_X7_in qb (-100) 100 = 0 := Decidable.not_not.mp (fun q => c3 (in_iff.mpr q))
        simp only [if_pos c, if_neg e, if_pos c2, if_neg e2, if_neg c3, if_pos e3]
        refine ⟨fun q => absurd q (by simp), fun E cd q w => ⟨?_, H⟩⟩
        cases q
        rcases w with ⟨-, w⟩ | ⟨w, -⟩
        · exact w.symm
        · exact absurd w hX
    · have e2 : sp_X7_in qc 0 5 = 0 := Decidable.not_not.mp (fun q => c2 (in_V.mpr q))
      simp only [if_pos c, if_neg e, if_neg c2, if_pos e2]
      refine ⟨fun q => absurd q (by simp), fun E cd q w => ⟨?_, H⟩⟩
      cases q
      rcases w with ⟨w, -⟩ | ⟨-, w⟩
      · exact absurd w xOA
      · exact w.symm
  · have e : sp_X7_in qa 0 3 = 0 := Decidable.not_not.mp (fun q => c (in_S.mpr q))
    simp only [if_neg c, if_pos e]
    refine ⟨fun q => absurd q (by simp), fun E cd q w => ⟨?_, H⟩⟩
    cases q
    rcases w with ⟨w, -⟩ | ⟨-, w⟩
    · exact absurd w xOA
    · exact w.symm
