theorem dra_at (k : Nat) (xs xv xh xo xc : Nat → Int32) : ∀ n j, mf (sp_dra k xs xv xh xo xc n).1 (sp_dra k xs xv xh xo xc n).2.1 (sp_dra k xs xv xh xo xc n).2.2.1 (sp_dra k xs xv xh xo xc n).2.2.2.1 (sp_dra k xs xv xh xo xc n).2.2.2.2 j = if k ≤ j ∧ j < k + n then mf xs xv xh xo xc (j + 1) else mf xs xv xh xo xc j
  | 0, j => by rw [if_neg (by omega)]; rfl
  | n + 1, j => by
    have ih := dra_at k xs xv xh xo xc n
    simp only [sp_dra]
    generalize sp_dra k xs xv xh xo xc n = D at ih ⊢
    by_cases c : j = k + n
    · have h1 := ih (k + n + 1)
      rw [if_neg (by omega)] at h1
      rw [if_pos (by omega), c, ← h1]
      exact mf5 (ue rfl) (ue rfl) (ue rfl) (ue rfl) (ue rfl)
    · have h1 := ih j
      refine Eq.trans (b := mf D.1 D.2.1 D.2.2.1 D.2.2.2.1 D.2.2.2.2 j) (mf5 (un c) (un c) (un c) (un c) (un c)) ?_
      rw [h1]
      by_cases c2 : k ≤ j ∧ j < k + n
      · rw [if_pos c2, if_pos (by omega)]
      · rw [if_neg c2, if_neg (by omega)]
theorem rm_at (m : Nat) (a : Nat → Int32) : ∀ n q, sp_rm m a n q = if 27 + 5 * m ≤ q ∧ q < 27 + 5 * m + n then a (q + 5) else a q
  | 0, q => by rw [if_neg (by omega)]; rfl
  | n + 1, q => by
    have ih := rm_at m a n
    simp only [sp_rm]
    by_cases c : q = 27 + (5 * m + n)
    · rw [ue c, ih, if_neg (by omega), if_pos (by omega), c]
    · rw [un c, ih]
      by_cases c2 : 27 + 5 * m ≤ q ∧ q < 27 + 5 * m + n
      · rw [if_pos c2, if_pos (by omega)]
      · rw [if_neg c2, if_neg (by omega)]
theorem rm_out {m : Nat} {w : Nat → Int32} {v : Int32} {n : Nat} {q : Nat} (hn : n ≤ 55 - 5 * m) (h : q < 26 ∨ 87 ≤ q) : sp_rm m (upd w 26 v) n q = w q := by
  rw [rm_at]
  by_cases c : 27 + 5 * m ≤ q ∧ q < 27 + 5 * m + n
  · omega
  · rw [if_neg c, un (by omega)]
/-- one mix taken out -/
theorem rm_L {w : Nat → Int32} {m : Nat} (hm : m < rN w 0) (h12 : rN w 0 ≤ 12) (h26 : w 26 = nI (rN w 0)) : sp_rm m (upd w 26 (w 26 - 1)) (5 * (rN w 0 - 1) - 5 * m) 26 = nI (rN w 0 - 1) ∧ (List.range (rN w 0 - 1)).map (mq (sp_rm m (upd w 26 (w 26 - 1)) (5 * (rN w 0 - 1) - 5 * m))) = (mL w).eraseIdx m := by
  refine ⟨by rw [sp_rm_26, ue rfl, h26, pk_sub1 (by omega)], rng_erase hm rfl (fun j hj => ?_)⟩
  by_cases c : j < m
  · rw [if_pos c]
    refine mf5 ?_ ?_ ?_ ?_ ?_ <;> rw [rm_at, if_neg (by omega), un (by omega)]
  · rw [if_neg c]
    refine mf5 ?_ ?_ ?_ ?_ ?_ <;> (rw [rm_at, if_pos (by omega), un (by omega)]; exact congrArg w (by omega))
theorem nI_m1 : ∀ n, n < 13 → (nI n - 1).toInt = (n : Int) - 1 := by decide +kernel
theorem lt_m1 {v : Int32} {n : Nat} (hn : n ≤ 12) : v < nI n ↔ v ≤ nI n - 1 := by
  rw [Int32.lt_iff_toInt_lt, Int32.le_iff_toInt_le, nI_m1 n (by omega), nI_toInt (by omega)]
  omega
theorem P_removeMix (r : xR) (po : Int32) (pn : Int32) (pl : Int32) (tx : Nat → Int32) (rp : Int32) (rl : Int32) (rs : Int32) (rm : Int32) (rn : Int32) (rz : Int32) (sv : xPl) (mm : xPl) (u : Nat → Int32) (fi : Nat → Int32) (t2 : Nat → Int32) (dm : Nat → Int32) (th : Int32) (sa : Int32) (ln : Int32) (pa : Int32) (le : Int32) (sk : Int32) (nu : Int32) (h : Int64) (qa : Int32) (H : RI r po pn pl tx sv mm u fi t2 sa ln) : ((er_X6_removeMix r qa) = none → (sp_X7_removeMix_th u qa) = 0 ∧ (r.xn - 1) = (sp_X7_removeMix u sa qa) ∧ ∀ adn : Nat → Nat, RI (xRk r.kp r.ke r.kr r.kt r.kh r.kc (r.xn - 1) (sp_X6_removeMix_xs r qa) (sp_X6_removeMix_xv r qa) (sp_X6_removeMix_xh r qa) (sp_X6_removeMix_xo r qa) (sp_X6_removeMix_xc r qa) r.vd r.vn r.vl r.vu r.vs r.vm r.vp r.vt r.va r.vw r.jd r.jb r.jc r.js r.jl r.jx r.ji r.jf r.jn r.dq) (sp_spo2 po pn) (sp_spn2 pn) pl tx (svS sv adn r po pn) mm (sp_X7_removeMix_s u sa qa) fi t2 (sp_X7_removeMix_sa u sa qa) ln) ∧ (∀ (E : String) (cd : Int32), (er_X6_removeMix r qa) = some E → ((E = xIO ∧ cd = 1)) → (sp_X7_removeMix_th u qa) = cd ∧ RI r po pn pl tx sv mm (sp_X7_removeMix_s u sa qa) fi t2 (sp_X7_removeMix_sa u sa qa) ln) := by
  obtain ⟨hx, h12, h26⟩ := r_26 H.1
  have hS := H.sv0
  obtain ⟨hxS, h12S, h26S⟩ := r_26 hS
  have hn : rN (sp_X7_save_s u sa) 0 = rN u 0 := by unfold rN; rw [save_0 H.hs H.hs6 (by omega)]
  have hc : (¬ qa < 0 ∧ qa < r.xn) ↔ ¬ sp_X7_in qa 0 (u 26 - 1) = 0 := by rw [hx, lt_m1 h12, h26]; exact in_iff
  unfold er_X6_removeMix sp_X7_removeMix_th sp_X7_removeMix sp_X7_removeMix_s sp_X7_removeMix_sa
  by_cases c : (¬ qa < 0 ∧ qa < r.xn)
  · have e := hc.mp c
    simp only [if_pos c, if_neg e]
    have hk : qa.toNatClampNeg < rN (sp_X7_save_s u sa) 0 := by
      rw [hx] at c
      rw [hn]
      exact rq_lt c (show nI (rN u 0) = nI (rN u 0) from rfl) (by omega)
    obtain ⟨hA, hB⟩ := rm_L hk h12S h26S
    have hR := hS.mixL (n' := rN (sp_X7_save_s u sa) 0 - 1) (xn' := r.xn - 1) (xs' := sp_X6_removeMix_xs r qa) (xv' := sp_X6_removeMix_xv r qa) (xh' := sp_X6_removeMix_xh r qa) (xo' := sp_X6_removeMix_xo r qa) (xc' := sp_X6_removeMix_xc r qa) (fun q q1 q2 => rm_out (by omega) q2) (by rw [hxS, pk_sub1 (by omega)]) hA (by omega) (rng_erase hk (mL_r hS) (fun j hj => by
      refine (dra_at _ _ _ _ _ _ _ j).trans ?_
      have e1 : r.xn.toNatClampNeg = rN (sp_X7_save_s u sa) 0 := by rw [hxS, nI_clamp (by omega)]
      rw [e1]
      by_cases d : j < qa.toNatClampNeg
      · rw [if_pos d, if_neg (by omega)]
      · rw [if_neg d, if_pos (by omega)])) hB (fun t ht => mL_ok hS t (List.mem_of_mem_eraseIdx ht))
    exact ⟨fun _ => ⟨trivial, hR.1.2.2.2.2.1.2.2, fun adn => H.saved adn (fun q q1 q2 => rm_out (by omega) (Or.inr (by omega))) hR⟩, fun E cd q => absurd q (by simp)⟩
  · have e : sp_X7_in qa 0 (u 26 - 1) = 0 := Decidable.not_not.mp (fun q => c (hc.mpr q))
    simp only [if_neg c, if_pos e]
    exact ⟨fun q => absurd q (by simp), fun E cd q w => ⟨w.2.symm, H⟩⟩
theorem dal_L (sv : Int32) (xs xv xh xo xc : Nat → Int32) : ∀ i, i ≤ 12 → ∃ k, k ≤ i ∧ (sp_dal sv xs xv xh xo xc 0 i).2.2.2.2.2 = nI k ∧ (List.range k).map (fun j => mf (sp_dal sv xs xv xh xo xc 0 i).1 (sp_dal sv xs xv xh xo xc 0 i).2.1 (sp_dal sv xs xv xh xo xc 0 i).2.2.1 (sp_dal sv xs xv xh xo xc 0 i).2.2.2.1 (sp_dal sv xs xv xh xo xc 0 i).2.2.2.2.1 j) = ((List.range i).map (mf xs xv xh xo xc)).filter (fun t => !(decide (t.2.1 = sv))) ∧ ∀ j, i ≤ j → mf (sp_dal sv xs xv xh xo xc 0 i).1 (sp_dal sv xs xv xh xo xc 0 i).2.1 (sp_dal sv xs xv xh xo xc 0 i).2.2.1 (sp_dal sv xs xv xh xo xc 0 i).2.2.2.1 (sp_dal sv xs xv xh xo xc 0 i).2.2.2.2.1 j = mf xs xv xh xo xc j
  | 0, _ => ⟨0, Nat.le_refl _, rfl, rfl, fun _ _ => rfl⟩
  | i + 1, hi => by
    obtain ⟨k, hk, e, hl, ho⟩ := dal_L sv xs xv xh xo xc i (by omega)
    simp only [sp_dal]
    generalize sp_dal sv xs xv xh xo xc 0 i = D at e hl ho ⊢
    have hi0 := ho i (Nat.le_refl _)
    have hv : D.2.1 i = xv i := congrArg (fun t => t.2.1) hi0
    rw [List.range_succ, List.map_append, List.filter_append, List.map_cons, List.map_nil]
    by_cases c : D.2.1 i = sv
    · simp only [if_pos c]
      refine ⟨k, by omega, e, ?_, fun j hj => ho j (by omega)⟩
      rw [hl, List.filter_cons_of_neg (by rw [hv] at c; simp [mf, c])]
      simp
    · simp only [if_neg c]
      have ek : D.2.2.2.2.2.toNatClampNeg = k := by rw [e, nI_clamp (by omega)]
      refine ⟨k + 1, by omega, by rw [e]; exact nI_1 _, ?_, fun j hj => ?_⟩
      · rw [List.filter_cons_of_pos (by rw [hv] at c; simp [mf, c]), ek]
        refine rng_snoc hl (fun j hj => mf5 (un (by omega)) (un (by omega)) (un (by omega)) (un (by omega)) (un (by omega))) ?_
        rw [← hi0]
        exact mf5 (ue rfl) (ue rfl) (ue rfl) (ue rfl) (ue rfl)
      · rw [ek, ← ho j (by omega)]
        exact mf5 (un (by omega)) (un (by omega)) (un (by omega)) (un (by omega)) (un (by omega))
theorem mL_len (w : Nat → Int32) : (mL w).length = rN w 0 := by unfold mL; rw [List.length_map, List.length_range]
theorem clr_L {s : Nat → Int32} {sa a : Int32} (h : (sp_X7_save_s s sa) 26 = nI (rN (sp_X7_save_s s sa) 0)) (h12 : rN (sp_X7_save_s s sa) 0 ≤ 12) : ∀ i, i ≤ rN (sp_X7_save_s s sa) 0 → (∃ A B, mL (sp_X7_save_s s sa) = A ++ B ∧ A.length = rN (sp_X7_save_s s sa) 0 - i ∧ mL (sp_clr s sa a (sp_X7_save_s s sa) i) = A ++ B.filter (fun t => !(decide (t.2.1 = a)))) ∧ ∀ q, q < 26 ∨ 87 ≤ q → sp_clr s sa a (sp_X7_save_s s sa) i q = sp_X7_save_s s sa q
  | 0, _ => ⟨⟨mL (sp_X7_save_s s sa), [], (List.append_nil _).symm, mL_len _, (List.append_nil _).symm⟩, fun _ _ => rfl⟩
  | i + 1, hi => by
    obtain ⟨⟨A, B, e1, e2, e3⟩, ho⟩ := clr_L (a := a) h h12 i (by omega)
    obtain ⟨f1, f2, f3⟩ := sp_clr_ok (a := a) h h12 i (by omega)
    have hg : (∃ A' x, A = A' ++ [x]) := by
      rcases List.eq_nil_or_concat A with q | ⟨A', x, q⟩
      · rw [q, List.length_nil] at e2
        omega
      · exact ⟨A', x, by rw [q, List.concat_eq_append]⟩
    obtain ⟨A', x, rfl⟩ := hg
    rw [List.length_append, List.length_singleton] at e2
    simp only [sp_clr]
    generalize sp_clr s sa a (sp_X7_save_s s sa) i = C at e3 f1 f2 f3 ho ⊢
    generalize sp_X7_save_s s sa = S at e1 e2 f3 h h12 hi ho ⊢
    have hx : mq C A'.length = x := by
      have g1 : (mL C)[A'.length]? = some (mq C A'.length) := rng_at (by omega)
      rw [e3, List.append_assoc, List.getElem?_append_right (Nat.le_refl _), Nat.sub_self] at g1
      exact (Option.some.inj g1).symm
    have en : rN S 0 - i - 1 = A'.length := by omega
    have hv : C (0 + 27 + 5 * A'.length + 1) = x.2.1 := by rw [← hx]; rfl
    rw [en, hv]
    by_cases c : x.2.1 = a
    · rw [if_pos c]
      obtain ⟨g1, g2⟩ := rm_L (m := A'.length) (by omega) f2 f1
      have g3 : rN (sp_rm A'.length (upd C 26 (C 26 - 1)) (5 * (rN C 0 - 1) - 5 * A'.length)) 0 = rN C 0 - 1 := (congrArg Int32.toNatClampNeg g1).trans (nI_clamp (by omega))
      refine ⟨⟨A', x :: B, by rw [e1, List.append_assoc]; rfl, by omega, ?_⟩, fun q hq => by rw [rm_out (by omega) hq]; exact ho q hq⟩
      have g4 : mL (sp_rm A'.length (upd C 26 (C 26 - 1)) (5 * (rN C 0 - 1) - 5 * A'.length)) = (mL C).eraseIdx A'.length := by
        rw [← g2]
        unfold mL
        rw [g3]
      rw [g4, e3, List.append_assoc, List.eraseIdx_append_of_length_le (Nat.le_refl _), Nat.sub_self, List.filter_cons_of_neg (by simp [c])]
      rfl
    · rw [if_neg c]
      refine ⟨⟨A', x :: B, by rw [e1, List.append_assoc]; rfl, by omega, ?_⟩, ho⟩
      rw [e3, List.append_assoc, List.filter_cons_of_pos (by simp [c])]
      rfl
theorem P_clearMixes (r : xR) (po : Int32) (pn : Int32) (pl : Int32) (tx : Nat → Int32) (rp : Int32) (rl : Int32) (rs : Int32) (rm : Int32) (rn : Int32) (rz : Int32) (sv : xPl) (mm : xPl) (u : Nat → Int32) (fi : Nat → Int32) (t2 : Nat → Int32) (dm : Nat → Int32) (th : Int32) (sa : Int32) (ln : Int32) (pa : Int32) (le : Int32) (sk : Int32) (nu : Int32) (h : Int64) (qa : Int32) (H : RI r po pn pl tx sv mm u fi t2 sa ln) : ((er_X6_clearMixes qa) = none → (sp_X7_clearMixes_th qa) = 0 ∧ (r.xn - ((sp_dal qa r.xs r.xv r.xh r.xo r.xc 0 (Int32.toNatClampNeg r.xn)).2.2.2.2.2)) = (sp_X7_clearMixes u sa qa) ∧ ∀ adn : Nat → Nat, RI (xRk r.kp r.ke r.kr r.kt r.kh r.kc ((sp_dal qa r.xs r.xv r.xh r.xo r.xc 0 (Int32.toNatClampNeg r.xn)).2.2.2.2.2) ((sp_dal qa r.xs r.xv r.xh r.xo r.xc 0 (Int32.toNatClampNeg r.xn)).1) ((sp_dal qa r.xs r.xv r.xh r.xo r.xc 0 (Int32.toNatClampNeg r.xn)).2.1) ((sp_dal qa r.xs r.xv r.xh r.xo r.xc 0 (Int32.toNatClampNeg r.xn)).2.2.1) ((sp_dal qa r.xs r.xv r.xh r.xo r.xc 0 (Int32.toNatClampNeg r.xn)).2.2.2.1) ((sp_dal qa r.xs r.xv r.xh r.xo r.xc 0 (Int32.toNatClampNeg r.xn)).2.2.2.2.1) r.vd r.vn r.vl r.vu r.vs r.vm r.vp r.vt r.va r.vw r.jd r.jb r.jc r.js r.jl r.jx r.ji r.jf r.jn r.dq) (sp_spo2 po pn) (sp_spn2 pn) pl tx (svS sv adn r po pn) mm (sp_X7_clearMixes_s u sa qa) fi t2 (sp_X7_clearMixes_sa sa qa) ln) ∧ (∀ (E : String) (cd : Int32), (er_X6_clearMixes qa) = some E → ((E = xIO ∧ cd = 1)) → (sp_X7_clearMixes_th qa) = cd ∧ RI r po pn pl tx sv mm (sp_X7_clearMixes_s u sa qa) fi t2 (sp_X7_clearMixes_sa sa qa) ln) := by
  have hS := H.sv0
  obtain ⟨hxS, h12S, h26S⟩ := r_26 hS
  unfold er_X6_clearMixes sp_X7_clearMixes_th sp_X7_clearMixes sp_X7_clearMixes_s sp_X7_clearMixes_sa
  by_cases c : (¬ qa < 0 ∧ qa < 6)
  · have e := in_V.mp c
    simp only [if_pos c, if_neg e]
    have et : r.xn.toNatClampNeg = rN (sp_X7_save_s u sa) 0 := by rw [hxS, nI_clamp (by omega)]
    obtain ⟨k, hk, ek, hl, -⟩ := dal_L qa r.xs r.xv r.xh r.xo r.xc (rN (sp_X7_save_s u sa) 0) h12S
    obtain ⟨⟨A, B, e1, e2, e3⟩, ho⟩ := clr_L (a := qa) h26S h12S (rN (sp_X7_save_s u sa) 0) (Nat.le_refl _)
    obtain ⟨f1, f2, -⟩ := sp_clr_ok (a := qa) h26S h12S (rN (sp_X7_save_s u sa) 0) (Nat.le_refl _)
    rw [Nat.sub_self, List.length_eq_zero_iff] at e2
    subst e2
    rw [List.nil_append] at e1 e3
    rw [mL_r hS, e1] at hl
    rw [← e3] at hl
    rw [et]
    generalize hC : sp_clr u sa qa (sp_X7_save_s u sa) (rN (sp_X7_save_s u sa) 0) = C at e3 ho f1 f2 hl ⊢
    have hkN : k = rN C 0 := (rng_inj hl).1
    have hR := hS.mixL (n' := k) (L := mL C) (fun q q1 q2 => ho q q2) ek (by rw [f1, hkN]) (by omega) hl (by rw [hkN]; rfl) (fun t ht => by
      rw [e3, ← e1] at ht
      exact mL_ok hS t (List.mem_filter.mp ht).1)
    refine ⟨fun _ => ⟨trivial, ?_, fun adn => H.saved adn (fun q q1 q2 => ho q (Or.inr (by omega))) hR⟩, fun E cd q => absurd q (by simp)⟩
    rw [ek, f1, hkN, hxS, h26S]
  · have e : sp_X7_in qa 0 5 = 0 := Decidable.not_not.mp (fun q => c (in_V.mpr q))
    simp only [if_neg c, if_pos e]
    exact ⟨fun q => absurd q (by simp), fun E cd q w => ⟨w.2.symm, H⟩⟩
