/-- where the reading stands: within the text -/
def pOk (ln pa : Int32) : Prop := ln = nI ln.toNatClampNeg ∧ ln.toNatClampNeg ≤ 60 ∧ pa = nI pa.toNatClampNeg ∧ pa.toNatClampNeg ≤ ln.toNatClampNeg
def sp_X7_sign (tx : Nat → Int32) (ln : Int32) (pa : Int32) : Int32 := (if ln ≤ pa then (0 : Int32) else (tx (Int32.toNatClampNeg pa)))
set_option maxRecDepth 100000 in
theorem k_X7_sign (l : Launch) (g : xGt) (am : Nat → Nat) (s fi tx dm : Nat → Int32) (th sa ln pa le sk nu : Int32) (h : Int64) (hpk : pOk ln pa) : xM l g.1 (xT g) yX7_sign (ws_ yX7_sign cX7_sign 1 (some .int)) (xRm 0 0 0 0) 0 0 [.ref (am 0)] (wMo g am s fi tx dm th sa ln pa le sk nu h) (fun r9 w9 => r9 = some (.int (sp_X7_sign tx ln pa)) ∧ w9 = (wMo g am s fi tx dm th sa ln pa le sk nu h)) (fun _ _ => False) := by
  refine x_start (own := RX7) (nm := "sign") rfl rfl (by decide +kernel) rfl (nle rfl) (fun p e σ m args below meth c A C hno hr => ?_)
  refine x_lve (lv' := [(0, .ref (am 0))]) rfl ?_
  refine x_aload_n C 0 rfl rfl dX7_sign_0 ?_
  refine x_get C 0 7 6 rfl rfl wLy_X7 wFL_X7_130 rfl (by decide) rfl dX7_sign_1 ?_
  refine x_aload_n C 0 rfl rfl dX7_sign_4 ?_
  refine x_get C 0 7 5 rfl rfl wLy_X7 wFL_X7_127 rfl (by decide) rfl dX7_sign_5 ?_
  suffices K2 : xW p l e _ σ m args below meth c g.1 A 1 0 0 _ (wMo g am s fi tx dm th sa ln pa le sk nu h) [(0, .ref (am 0))] 24 [.int (if ln ≤ pa then (0 : Int32) else (tx (Int32.toNatClampNeg pa)))] by
    refine x_icmp_ge C 23 (by decide) dX7_sign_8 (fun h1 => ?_) (fun h1 => ?_)
    · refine x_iconst C 0 (by decide) dX7_sign_23 ?_
      refine x_st (st' := [.int (if ln ≤ pa then (0 : Int32) else (tx (Int32.toNatClampNeg pa)))]) (by simp only [if_pos h1]) ?_
      exact K2
    · refine x_aload_n C 0 rfl rfl dX7_sign_11 ?_
      refine x_get C 0 7 4 rfl rfl wLy_X7 wFL_X7_17 rfl (by decide) rfl dX7_sign_12 ?_
      refine x_aload_n C 0 rfl rfl dX7_sign_15 ?_
      refine x_get C 0 7 6 rfl rfl wLy_X7 wFL_X7_130 rfl (by decide) rfl dX7_sign_16 ?_
      refine x_ialdN (f := tx) C 3 0 (Int32.toNatClampNeg pa) rfl rfl hpk.2.2.1 (by have h60 := hpk.2.1; have := xlt_of hpk.1 hpk.2.2.1 (by omega) (by have := hpk.2.2.2; omega) h1; omega) (by decide) dX7_sign_19 ?_
      refine x_goto C 24 (by decide) dX7_sign_20 ?_
      refine x_st (st' := [.int (if ln ≤ pa then (0 : Int32) else (tx (Int32.toNatClampNeg pa)))]) (by simp only [if_neg h1]) ?_
      exact K2
  exact x_iret C hr (nle rfl) (nle rfl) dX7_sign_24 ⟨(by first | (simp only [sp_X7_sign]; done) | (simp only [sp_X7_sign]; rfl)), rfl⟩
def sp_X7_takes (tx : Nat → Int32) (ln : Int32) (pa : Int32) (cq : Int32) : Int32 := (if (sp_X7_sign tx ln pa) = cq then (1 : Int32) else 0)
def sp_X7_takes_pa (tx : Nat → Int32) (ln : Int32) (pa : Int32) (cq : Int32) : Int32 := (pa + (if (if (sp_X7_sign tx ln pa) = cq then (1 : Int32) else 0) = 0 then (0 : Int32) else 1))
theorem spb_X7_takes (tx : Nat → Int32) (ln : Int32) (pa : Int32) (cq : Int32)  : (sp_X7_takes tx ln pa cq) = 0 ∨ (sp_X7_takes tx ln pa cq) = 1 := by
  unfold sp_X7_takes
  exact (bool_ite (Or.inr rfl) (Or.inl rfl))
set_option maxRecDepth 100000 in
theorem k_X7_takes (l : Launch) (g : xGt) (am : Nat → Nat) (s fi tx dm : Nat → Int32) (th sa ln pa le sk nu : Int32) (h : Int64) (cq : Int32) (hpk : pOk ln pa) : xM l g.1 (xT g) yX7_takes (ws_ yX7_takes cX7_takes 3 (some .boolean)) (xRm 1 20 0 0) 0 0 [.ref (am 0), .int cq] (wMo g am s fi tx dm th sa ln pa le sk nu h) (fun r9 w9 => r9 = some (.int (sp_X7_takes tx ln pa cq)) ∧ w9 = (wMo g am s fi tx dm th sa ln (sp_X7_takes_pa tx ln pa cq) le sk nu h)) (fun _ _ => False) := by
  refine x_start (own := RX7) (nm := "takes") rfl rfl (by decide +kernel) rfl (nle rfl) (fun p e σ m args below meth c A C hno hr => ?_)
  refine x_lve (lv' := [(0, .ref (am 0)), (1, .int cq)]) rfl ?_
  refine x_aload_n C 0 rfl rfl dX7_takes_0 ?_
  refine x_FV (w1 := ([] : va_W)) (wc := (wMo g am s fi tx dm th sa ln pa le sk nu h)) (w2 := ([] : va_W)) [] [] (wMo g am s fi tx dm th sa ln pa le sk nu h) C (k_X7_sign l g am s fi tx dm th sa ln pa le sk nu h hpk) rfl yV_X7_sign wML_X7_133 rfl 0 rfl rfl rfl rfl (nle rfl) (nle rfl) (nle rfl) (nle rfl) (nle rfl) dX7_takes_1 ?_
  refine x_iload_n C 1 rfl rfl dX7_takes_4 ?_
  suffices K2 : xW p l e _ σ m args below meth c g.1 A 3 0 0 _ (wMo g am s fi tx dm th sa ln pa le sk nu h) [(0, .ref (am 0)), (1, .int cq)] 13 [.int (if (sp_X7_sign tx ln pa) = cq then (1 : Int32) else 0)] by
    refine x_icmp_ne C 12 (by decide) dX7_takes_5 (fun h1 => ?_) (fun h1 => ?_)
    · refine x_iconst C 0 (by decide) dX7_takes_12 ?_
      refine x_st (st' := [.int (if (sp_X7_sign tx ln pa) = cq then (1 : Int32) else 0)]) (by simp only [if_neg h1]) ?_
      exact K2
    · refine x_iconst C 1 (by decide) dX7_takes_8 ?_
      refine x_goto C 13 (by decide) dX7_takes_9 ?_
      refine x_st (st' := [.int (if (sp_X7_sign tx ln pa) = cq then (1 : Int32) else 0)]) (by simp only [if_pos h1]) ?_
      exact K2
  refine x_istore_n C [(2, .int (if (sp_X7_sign tx ln pa) = cq then (1 : Int32) else 0)), (0, .ref (am 0)), (1, .int cq)] rfl rfl (by decide) dX7_takes_13 ?_
  refine x_aload_n C 1 rfl rfl dX7_takes_14 ?_
  refine x_dup C rfl dX7_takes_15 ?_
  refine x_get C 0 7 6 rfl rfl wLy_X7 wFL_X7_130 rfl (by decide) rfl dX7_takes_16 ?_
  refine x_iload_n C 0 rfl rfl dX7_takes_19 ?_
  suffices K4 : xW p l e _ σ m args below meth c g.1 A 3 0 0 _ (wMo g am s fi tx dm th sa ln pa le sk nu h) [(2, .int (if (sp_X7_sign tx ln pa) = cq then (1 : Int32) else 0)), (0, .ref (am 0)), (1, .int cq)] 28 [.int (if (if (sp_X7_sign tx ln pa) = cq then (1 : Int32) else 0) = 0 then (0 : Int32) else 1), .int pa, .ref (am 0)] by
    refine x_if_eq C 27 (by decide) dX7_takes_20 (fun h3 => ?_) (fun h3 => ?_)
    · refine x_iconst C 0 (by decide) dX7_takes_27 ?_
      refine x_st (st' := [.int (if (if (sp_X7_sign tx ln pa) = cq then (1 : Int32) else 0) = 0 then (0 : Int32) else 1), .int pa, .ref (am 0)]) (by simp only [if_pos h3]) ?_
      exact K4
    · refine x_iconst C 1 (by decide) dX7_takes_23 ?_
      refine x_goto C 28 (by decide) dX7_takes_24 ?_
      refine x_st (st' := [.int (if (if (sp_X7_sign tx ln pa) = cq then (1 : Int32) else 0) = 0 then (0 : Int32) else 1), .int pa, .ref (am 0)]) (by simp only [if_neg h3]) ?_
      exact K4
  refine x_iadd C dX7_takes_28 ?_
  refine x_put C 0 7 6 tyX7 (wMo g am s fi tx dm th sa ln (pa + (if (if (sp_X7_sign tx ln pa) = cq then (1 : Int32) else 0) = 0 then (0 : Int32) else 1)) le sk nu h) rfl rfl rfl wLy_X7 tyX7_ok nmX7 wFL_X7_130 rfl (by decide) rfl rfl rfl rfl (nlt rfl) dX7_takes_29 ?_
  refine x_iload_n C 0 rfl rfl dX7_takes_32 ?_
  exact x_zret C hr (xnz (bool_ite (Or.inr rfl) (Or.inl rfl))) (nle rfl) (nle rfl) dX7_takes_33 ⟨(by first | (simp only [sp_X7_takes]; done) | (simp only [sp_X7_takes]; rfl)), (by first | (simp only [sp_X7_takes_pa]; done) | (simp only [sp_X7_takes_pa]; rfl))⟩
theorem sign_lt {tx : Nat → Int32} {ln pa : Int32} (h : pOk ln pa) (hn : ¬ sp_X7_sign tx ln pa = 0) : pa.toNatClampNeg < ln.toNatClampNeg := by
  have h60 := h.2.1
  have hle := h.2.2.2
  unfold sp_X7_sign at hn
  by_cases c : ln ≤ pa
  · exact absurd (if_pos c) hn
  · exact xlt_of h.1 h.2.2.1 (by omega) (by omega) c
theorem pa1_ok {ln pa : Int32} (h : pOk ln pa) (hl : pa.toNatClampNeg < ln.toNatClampNeg) : pOk ln (pa + 1) ∧ (pa + 1).toNatClampNeg = pa.toNatClampNeg + 1 := by
  obtain ⟨h1, h2, h3, h4⟩ := h
  have e : pa + 1 = nI (pa.toNatClampNeg + 1) := by conv => lhs; rw [h3]
                                                    exact nI_1 _
  have e2 : (pa + 1).toNatClampNeg = pa.toNatClampNeg + 1 := by rw [e, nI_clamp (by omega)]
  exact ⟨⟨h1, h2, by rw [e2]; exact e, by rw [e2]; omega⟩, e2⟩
theorem pa0_ok {ln pa : Int32} (h : pOk ln pa) : pOk ln (pa + 0) ∧ (pa + 0).toNatClampNeg = pa.toNatClampNeg := by
  rw [Int32.add_zero]; exact ⟨h, rfl⟩
theorem takes_fact {tx : Nat → Int32} {ln pa cc : Int32} (h : pOk ln pa) (hc : ¬ cc = 0) : pOk ln (sp_X7_takes_pa tx ln pa cc) ∧ (sp_X7_takes_pa tx ln pa cc).toNatClampNeg = pa.toNatClampNeg + (if sp_X7_takes tx ln pa cc = 0 then 0 else 1) := by
  unfold sp_X7_takes_pa sp_X7_takes
  by_cases c : sp_X7_sign tx ln pa = cc
  · have hl := sign_lt (tx := tx) h (by rw [c]; exact hc)
    simp only [if_pos c]
    rw [if_neg (by decide), if_neg (by decide)]
    exact pa1_ok h hl
  · simp only [if_neg c, if_true]
    exact pa0_ok h
theorem takes_ok {tx : Nat → Int32} {ln pa cc : Int32} (h : pOk ln pa) (hc : ¬ cc = 0) : pOk ln (sp_X7_takes_pa tx ln pa cc) := (takes_fact h hc).1
theorem in_pos {x lo hi : Int32} (h : ¬ sp_X7_in x lo hi = 0) (hl : 0 < lo) : ¬ x = 0 := by
  intro e; subst e; exact h (if_pos hl)
def sp_rdl (tx : Nat → Int32) (ln : Int32) (mst : Int32) : Nat → (Int32) → (Int32) → (Int32) × (Int32)
  | 0, v2_nu, v2_pa => (v2_nu, v2_pa)
  | f_ + 1, v2_nu, v2_pa => (if v2_nu ≤ 0 then (v2_nu, v2_pa) else (if (sp_X7_in (sp_X7_sign tx ln v2_pa) 48 57) = 0 then (v2_nu, v2_pa) else (if mst < (((10 * v2_nu) + (sp_X7_sign tx ln v2_pa)) - 48) then (v2_nu, v2_pa) else (sp_rdl tx ln mst f_ (((10 * v2_nu) + (sp_X7_sign tx ln v2_pa)) - 48) (v2_pa + 1)))))
def sp_X7_readsDigits (tx : Nat → Int32) (ln : Int32) (pa : Int32) (lst : Int32) : Int32 := (if (sp_X7_in (sp_X7_sign tx ln pa) (48 + lst) 57) = 0 then 0 else 1)
def sp_X7_readsDigits_pa (tx : Nat → Int32) (ln : Int32) (pa : Int32) (lst : Int32) (mst : Int32) : Int32 := (if (sp_X7_in (sp_X7_sign tx ln pa) (48 + lst) 57) = 0 then pa else (sp_rdl tx ln mst 61 ((sp_X7_sign tx ln pa) - 48) (pa + 1)).2)
def sp_X7_readsDigits_nu (tx : Nat → Int32) (ln : Int32) (pa : Int32) (nu : Int32) (lst : Int32) (mst : Int32) : Int32 := (if (sp_X7_in (sp_X7_sign tx ln pa) (48 + lst) 57) = 0 then nu else (sp_rdl tx ln mst 61 ((sp_X7_sign tx ln pa) - 48) (pa + 1)).1)
theorem spb_X7_readsDigits (tx : Nat → Int32) (ln : Int32) (pa : Int32) (lst : Int32)  : (sp_X7_readsDigits tx ln pa lst) = 0 ∨ (sp_X7_readsDigits tx ln pa lst) = 1 := by
  unfold sp_X7_readsDigits
  exact (bool_ite (Or.inl rfl) (Or.inr rfl))
set_option maxRecDepth 100000 in
theorem k_X7_readsDigits (l : Launch) (g : xGt) (am : Nat → Nat) (s fi tx dm : Nat → Int32) (th sa ln pa le sk nu : Int32) (h : Int64) (lst : Int32) (mst : Int32) (hpk : pOk ln pa) (hl : 0 < 48 + lst) : xM l g.1 (xT g) yX7_readsDigits (ws_ yX7_readsDigits cX7_readsDigits 3 (some .boolean)) (xRm 1 22 0 0) 0 0 [.ref (am 0), .int lst, .int mst] (wMo g am s fi tx dm th sa ln pa le sk nu h) (fun r9 w9 => r9 = some (.int (sp_X7_readsDigits tx ln pa lst)) ∧ w9 = (wMo g am s fi tx dm th sa ln (sp_X7_readsDigits_pa tx ln pa lst mst) le sk (sp_X7_readsDigits_nu tx ln pa nu lst mst) h)) (fun _ _ => False) := by
  refine x_start (own := RX7) (nm := "readsDigits") rfl rfl (by decide +kernel) rfl (nle rfl) (fun p e σ m args below meth c A C hno hr => ?_)
  refine x_lve (lv' := [(0, .ref (am 0)), (1, .int lst), (2, .int mst)]) rfl ?_
  refine x_aload_n C 0 rfl rfl dX7_readsDigits_0 ?_
  refine x_FV (w1 := ([] : va_W)) (wc := (wMo g am s fi tx dm th sa ln pa le sk nu h)) (w2 := ([] : va_W)) [] [] (wMo g am s fi tx dm th sa ln pa le sk nu h) C (k_X7_sign l g am s fi tx dm th sa ln pa le sk nu h hpk) rfl yV_X7_sign wML_X7_133 rfl 0 rfl rfl rfl rfl (nle rfl) (nle rfl) (nle rfl) (nle rfl) (nle rfl) dX7_readsDigits_1 ?_
  refine x_bipush C 48 (by decide) dX7_readsDigits_4 ?_
  refine x_iload_n C 1 rfl rfl dX7_readsDigits_6 ?_
  refine x_iadd C dX7_readsDigits_7 ?_
  refine x_bipush C 57 (by decide) dX7_readsDigits_8 ?_
  refine x_FS (w1 := ([] : va_W)) (wc := ([] : va_W)) (w2 := (wMo g am s fi tx dm th sa ln pa le sk nu h)) [.int (sp_X7_sign tx ln pa), .int (48 + lst), .int 57] [] (wMo g am s fi tx dm th sa ln pa le sk nu h) C (k_X7_in l g (sp_X7_sign tx ln pa) (48 + lst) 57) rfl yS_X7_in wML_X7_35 rfl rfl rfl (nle rfl) (nle rfl) (nle rfl) (nle rfl) (nle rfl) dX7_readsDigits_10 ?_
  refine x_if_ne C 18 (by decide) dX7_readsDigits_13 (fun h1 => ?_) (fun h1 => ?_)
  · refine x_aload_n C 0 rfl rfl dX7_readsDigits_18 ?_
    refine x_aload_n C 0 rfl rfl dX7_readsDigits_19 ?_
    refine x_FV (w1 := ([] : va_W)) (wc := (wMo g am s fi tx dm th sa ln pa le sk nu h)) (w2 := ([] : va_W)) [] [.ref (am 0)] (wMo g am s fi tx dm th sa ln pa le sk nu h) C (k_X7_sign l g am s fi tx dm th sa ln pa le sk nu h hpk) rfl yV_X7_sign wML_X7_133 rfl 0 rfl rfl rfl rfl (nle rfl) (nle rfl) (nle rfl) (nle rfl) (nle rfl) dX7_readsDigits_20 ?_
    refine x_bipush C 48 (by decide) dX7_readsDigits_23 ?_
    refine x_isub C dX7_readsDigits_25 ?_
    refine x_put C 0 7 9 tyX7 (wMo g am s fi tx dm th sa ln pa le sk ((sp_X7_sign tx ln pa) - 48) h) rfl rfl rfl wLy_X7 tyX7_ok nmX7 wFL_X7_137 rfl (by decide) rfl rfl rfl rfl (nlt rfl) dX7_readsDigits_26 ?_
    refine x_aload_n C 0 rfl rfl dX7_readsDigits_29 ?_
    refine x_dup C rfl dX7_readsDigits_30 ?_
    refine x_get C 0 7 6 rfl rfl wLy_X7 wFL_X7_130 rfl (by decide) rfl dX7_readsDigits_31 ?_
    refine x_iconst C 1 (by decide) dX7_readsDigits_34 ?_
    refine x_iadd C dX7_readsDigits_35 ?_
    refine x_put C 0 7 6 tyX7 (wMo g am s fi tx dm th sa ln (pa + 1) le sk ((sp_X7_sign tx ln pa) - 48) h) rfl rfl rfl wLy_X7 tyX7_ok nmX7 wFL_X7_130 rfl (by decide) rfl rfl rfl rfl (nlt rfl) dX7_readsDigits_36 ?_
    suffices KT2 : xW p l e _ σ m args below meth c g.1 A 3 0 0 _ (wMo g am s fi tx dm th sa ln ((sp_rdl tx ln mst 61 ((sp_X7_sign tx ln pa) - 48) (pa + 1)).2) le sk ((sp_rdl tx ln mst 61 ((sp_X7_sign tx ln pa) - 48) (pa + 1)).1) h) [(0, .ref (am 0)), (1, .int lst), (2, .int mst)] 111 [] by
      suffices KL2 : ∀ (f_ : Nat) (v2_nu : Int32) (v2_pa : Int32), pOk ln v2_pa → ln.toNatClampNeg - v2_pa.toNatClampNeg < f_ → sp_rdl tx ln mst f_ v2_nu v2_pa = (sp_rdl tx ln mst 61 ((sp_X7_sign tx ln pa) - 48) (pa + 1)) → xW p l e _ σ m args below meth c g.1 A 3 0 0 _ (wMo g am s fi tx dm th sa ln v2_pa le sk v2_nu h) [(0, .ref (am 0)), (1, .int lst), (2, .int mst)] 39 [] by
        exact KL2 61 ((sp_X7_sign tx ln pa) - 48) (pa + 1) (pa1_ok hpk (sign_lt (tx := tx) hpk (in_pos h1 hl))).1 (by have := hpk.2.1; omega) rfl
      intro f_
      induction f_ with
      | zero =>
        intro v2_nu v2_pa hi2 hme2 hq2
        exact absurd hme2 (Nat.not_lt_zero _)
      | succ f_ ih2 =>
        intro v2_nu v2_pa hi2 hme2 hq2
        refine x_aload_n C 0 rfl rfl dX7_readsDigits_39 ?_
        refine x_get C 0 7 9 rfl rfl wLy_X7 wFL_X7_137 rfl (by decide) rfl dX7_readsDigits_40 ?_
        refine x_if_le C 111 (by decide) dX7_readsDigits_43 (fun h3 => ?_) (fun h3 => ?_)
        · have e4 : (sp_rdl tx ln mst 61 ((sp_X7_sign tx ln pa) - 48) (pa + 1)) = (v2_nu, v2_pa) := by rw [← hq2]; simp only [sp_rdl, if_pos h3]
          refine x_ws (ws' := (wMo g am s fi tx dm th sa ln ((sp_rdl tx ln mst 61 ((sp_X7_sign tx ln pa) - 48) (pa + 1)).2) le sk ((sp_rdl tx ln mst 61 ((sp_X7_sign tx ln pa) - 48) (pa + 1)).1) h)) (by simp only [e4]) ?_
          exact KT2
        · refine x_aload_n C 0 rfl rfl dX7_readsDigits_46 ?_
          refine x_FV (w1 := ([] : va_W)) (wc := (wMo g am s fi tx dm th sa ln v2_pa le sk v2_nu h)) (w2 := ([] : va_W)) [] [] (wMo g am s fi tx dm th sa ln v2_pa le sk v2_nu h) C (k_X7_sign l g am s fi tx dm th sa ln v2_pa le sk v2_nu h hi2) rfl yV_X7_sign wML_X7_133 rfl 0 rfl rfl rfl rfl (nle rfl) (nle rfl) (nle rfl) (nle rfl) (nle rfl) dX7_readsDigits_47 ?_
          refine x_bipush C 48 (by decide) dX7_readsDigits_50 ?_
          refine x_bipush C 57 (by decide) dX7_readsDigits_52 ?_
          refine x_FS (w1 := ([] : va_W)) (wc := ([] : va_W)) (w2 := (wMo g am s fi tx dm th sa ln v2_pa le sk v2_nu h)) [.int (sp_X7_sign tx ln v2_pa), .int 48, .int 57] [] (wMo g am s fi tx dm th sa ln v2_pa le sk v2_nu h) C (k_X7_in l g (sp_X7_sign tx ln v2_pa) 48 57) rfl yS_X7_in wML_X7_35 rfl rfl rfl (nle rfl) (nle rfl) (nle rfl) (nle rfl) (nle rfl) dX7_readsDigits_54 ?_
          refine x_if_eq C 111 (by decide) dX7_readsDigits_57 (fun h5 => ?_) (fun h5 => ?_)
          · have e6 : (sp_rdl tx ln mst 61 ((sp_X7_sign tx ln pa) - 48) (pa + 1)) = (v2_nu, v2_pa) := by rw [← hq2]; simp only [sp_rdl, if_neg h3, if_pos h5]
            refine x_ws (ws' := (wMo g am s fi tx dm th sa ln ((sp_rdl tx ln mst 61 ((sp_X7_sign tx ln pa) - 48) (pa + 1)).2) le sk ((sp_rdl tx ln mst 61 ((sp_X7_sign tx ln pa) - 48) (pa + 1)).1) h)) (by simp only [e6]) ?_
            exact KT2
          · refine x_bipush C 10 (by decide) dX7_readsDigits_60 ?_
            refine x_aload_n C 0 rfl rfl dX7_readsDigits_62 ?_
            refine x_get C 0 7 9 rfl rfl wLy_X7 wFL_X7_137 rfl (by decide) rfl dX7_readsDigits_63 ?_
            refine x_imul C dX7_readsDigits_66 ?_
            refine x_aload_n C 0 rfl rfl dX7_readsDigits_67 ?_
            refine x_FV (w1 := ([] : va_W)) (wc := (wMo g am s fi tx dm th sa ln v2_pa le sk v2_nu h)) (w2 := ([] : va_W)) [] [.int (10 * v2_nu)] (wMo g am s fi tx dm th sa ln v2_pa le sk v2_nu h) C (k_X7_sign l g am s fi tx dm th sa ln v2_pa le sk v2_nu h hi2) rfl yV_X7_sign wML_X7_133 rfl 0 rfl rfl rfl rfl (nle rfl) (nle rfl) (nle rfl) (nle rfl) (nle rfl) dX7_readsDigits_68 ?_
            refine x_iadd C dX7_readsDigits_71 ?_
            refine x_bipush C 48 (by decide) dX7_readsDigits_72 ?_
            refine x_isub C dX7_readsDigits_74 ?_
            refine x_iload_n C 2 rfl rfl dX7_readsDigits_75 ?_
            refine x_icmp_gt C 111 (by decide) dX7_readsDigits_76 (fun h7 => ?_) (fun h7 => ?_)
            · have e8 : (sp_rdl tx ln mst 61 ((sp_X7_sign tx ln pa) - 48) (pa + 1)) = (v2_nu, v2_pa) := by rw [← hq2]; simp only [sp_rdl, if_neg h3, if_neg h5, if_pos h7]
              refine x_ws (ws' := (wMo g am s fi tx dm th sa ln ((sp_rdl tx ln mst 61 ((sp_X7_sign tx ln pa) - 48) (pa + 1)).2) le sk ((sp_rdl tx ln mst 61 ((sp_X7_sign tx ln pa) - 48) (pa + 1)).1) h)) (by simp only [e8]) ?_
              exact KT2
            · refine x_aload_n C 0 rfl rfl dX7_readsDigits_79 ?_
              refine x_bipush C 10 (by decide) dX7_readsDigits_80 ?_
              refine x_aload_n C 0 rfl rfl dX7_readsDigits_82 ?_
              refine x_get C 0 7 9 rfl rfl wLy_X7 wFL_X7_137 rfl (by decide) rfl dX7_readsDigits_83 ?_
              refine x_imul C dX7_readsDigits_86 ?_
              refine x_aload_n C 0 rfl rfl dX7_readsDigits_87 ?_
              refine x_FV (w1 := ([] : va_W)) (wc := (wMo g am s fi tx dm th sa ln v2_pa le sk v2_nu h)) (w2 := ([] : va_W)) [] [.int (10 * v2_nu), .ref (am 0)] (wMo g am s fi tx dm th sa ln v2_pa le sk v2_nu h) C (k_X7_sign l g am s fi tx dm th sa ln v2_pa le sk v2_nu h hi2) rfl yV_X7_sign wML_X7_133 rfl 0 rfl rfl rfl rfl (nle rfl) (nle rfl) (nle rfl) (nle rfl) (nle rfl) dX7_readsDigits_88 ?_
              refine x_iadd C dX7_readsDigits_91 ?_
              refine x_bipush C 48 (by decide) dX7_readsDigits_92 ?_
              refine x_isub C dX7_readsDigits_94 ?_
              refine x_put C 0 7 9 tyX7 (wMo g am s fi tx dm th sa ln v2_pa le sk (((10 * v2_nu) + (sp_X7_sign tx ln v2_pa)) - 48) h) rfl rfl rfl wLy_X7 tyX7_ok nmX7 wFL_X7_137 rfl (by decide) rfl rfl rfl rfl (nlt rfl) dX7_readsDigits_95 ?_
              refine x_aload_n C 0 rfl rfl dX7_readsDigits_98 ?_
              refine x_dup C rfl dX7_readsDigits_99 ?_
              refine x_get C 0 7 6 rfl rfl wLy_X7 wFL_X7_130 rfl (by decide) rfl dX7_readsDigits_100 ?_
              refine x_iconst C 1 (by decide) dX7_readsDigits_103 ?_
              refine x_iadd C dX7_readsDigits_104 ?_
              refine x_put C 0 7 6 tyX7 (wMo g am s fi tx dm th sa ln (v2_pa + 1) le sk (((10 * v2_nu) + (sp_X7_sign tx ln v2_pa)) - 48) h) rfl rfl rfl wLy_X7 tyX7_ok nmX7 wFL_X7_130 rfl (by decide) rfl rfl rfl rfl (nlt rfl) dX7_readsDigits_105 ?_
              refine x_goto C 39 (by decide) dX7_readsDigits_108 ?_
              exact ih2 (((10 * v2_nu) + (sp_X7_sign tx ln v2_pa)) - 48) (v2_pa + 1) (pa1_ok hi2 (sign_lt (tx := tx) hi2 (in_pos h5 (by decide)))).1 (by have q1 := sign_lt (tx := tx) hi2 (in_pos h5 (by decide)); have q2 := (pa1_ok hi2 q1).2; omega) (by rw [← hq2]; simp only [sp_rdl, if_neg h3, if_neg h5, if_neg h7])
    refine x_iconst C 1 (by decide) dX7_readsDigits_111 ?_
    exact x_zret C hr rfl (nle rfl) (nle rfl) dX7_readsDigits_112 ⟨(by first | (simp only [sp_X7_readsDigits, if_neg h1]; done) | (simp only [sp_X7_readsDigits, if_neg h1]; rfl)), (by first | (simp only [sp_X7_readsDigits_pa, sp_X7_readsDigits_nu, if_neg h1]; done) | (simp only [sp_X7_readsDigits_pa, sp_X7_readsDigits_nu, if_neg h1]; rfl))⟩
  · refine x_iconst C 0 (by decide) dX7_readsDigits_16 ?_
    exact x_zret C hr rfl (nle rfl) (nle rfl) dX7_readsDigits_17 ⟨(by first | (simp only [sp_X7_readsDigits, if_pos h1]; done) | (simp only [sp_X7_readsDigits, if_pos h1]; rfl)), (by first | (simp only [sp_X7_readsDigits_pa, sp_X7_readsDigits_nu, if_pos h1]; done) | (simp only [sp_X7_readsDigits_pa, sp_X7_readsDigits_nu, if_pos h1]; rfl))⟩
theorem rdl_ok {tx : Nat → Int32} {ln mst : Int32} : ∀ (f : Nat) (nu pa : Int32), pOk ln pa → pOk ln (sp_rdl tx ln mst f nu pa).2 ∧ pa.toNatClampNeg ≤ (sp_rdl tx ln mst f nu pa).2.toNatClampNeg
  | 0, _, _, h => ⟨h, Nat.le_refl _⟩
  | f + 1, nu, pa, h => by
    simp only [sp_rdl]
    split
    · exact ⟨h, Nat.le_refl _⟩
    · split
      · exact ⟨h, Nat.le_refl _⟩
      · rename_i c
        split
        · exact ⟨h, Nat.le_refl _⟩
        · obtain ⟨q1, q2⟩ := pa1_ok h (sign_lt (tx := tx) h (in_pos c (by decide)))
          obtain ⟨r1, r2⟩ := rdl_ok f ((10 * nu + sp_X7_sign tx ln pa) - 48) (pa + 1) q1
          exact ⟨r1, by omega⟩
theorem rdD_ok {tx : Nat → Int32} {ln pa lst mst : Int32} (h : pOk ln pa) (hl : 0 < 48 + lst) : pOk ln (sp_X7_readsDigits_pa tx ln pa lst mst) ∧ pa.toNatClampNeg ≤ (sp_X7_readsDigits_pa tx ln pa lst mst).toNatClampNeg := by
  unfold sp_X7_readsDigits_pa
  split
  · exact ⟨h, Nat.le_refl _⟩
  · rename_i c
    obtain ⟨q1, q2⟩ := pa1_ok h (sign_lt (tx := tx) h (in_pos c hl))
    obtain ⟨r1, r2⟩ := rdl_ok (tx := tx) (mst := mst) 61 ((sp_X7_sign tx ln pa) - 48) (pa + 1) q1
    exact ⟨r1, by omega⟩
def sp_X7_readsNumber (tx : Nat → Int32) (ln : Int32) (pa : Int32) : Int32 := (sp_X7_readsDigits tx ln (sp_X7_takes_pa tx ln pa 45) (if (sp_X7_takes tx ln pa 45) = 0 then (0 : Int32) else 1))
def sp_X7_readsNumber_pa (tx : Nat → Int32) (ln : Int32) (pa : Int32) (mst : Int32) : Int32 := (sp_X7_readsDigits_pa tx ln (sp_X7_takes_pa tx ln pa 45) (if (sp_X7_takes tx ln pa 45) = 0 then (0 : Int32) else 1) mst)
def sp_X7_readsNumber_nu (tx : Nat → Int32) (ln : Int32) (pa : Int32) (nu : Int32) (mst : Int32) : Int32 := (if (sp_X7_takes tx ln pa 45) = 0 then (sp_X7_readsDigits_nu tx ln (sp_X7_takes_pa tx ln pa 45) nu (if (sp_X7_takes tx ln pa 45) = 0 then (0 : Int32) else 1) mst) else (-(sp_X7_readsDigits_nu tx ln (sp_X7_takes_pa tx ln pa 45) nu (if (sp_X7_takes tx ln pa 45) = 0 then (0 : Int32) else 1) mst)))
theorem spb_X7_readsNumber (tx : Nat → Int32) (ln : Int32) (pa : Int32)  : (sp_X7_readsNumber tx ln pa) = 0 ∨ (sp_X7_readsNumber tx ln pa) = 1 := by
  unfold sp_X7_readsNumber
  exact (spb_X7_readsDigits tx ln (sp_X7_takes_pa tx ln pa 45) (if (sp_X7_takes tx ln pa 45) = 0 then (0 : Int32) else 1))
set_option maxRecDepth 100000 in
theorem k_X7_readsNumber (l : Launch) (g : xGt) (am : Nat → Nat) (s fi tx dm : Nat → Int32) (th sa ln pa le sk nu : Int32) (h : Int64) (mst : Int32) (hpk : pOk ln pa) : xM l g.1 (xT g) yX7_readsNumber (ws_ yX7_readsNumber cX7_readsNumber 4 (some .boolean)) (xRm 2 44 0 0) 0 0 [.ref (am 0), .int mst] (wMo g am s fi tx dm th sa ln pa le sk nu h) (fun r9 w9 => r9 = some (.int (sp_X7_readsNumber tx ln pa)) ∧ w9 = (wMo g am s fi tx dm th sa ln (sp_X7_readsNumber_pa tx ln pa mst) le sk (sp_X7_readsNumber_nu tx ln pa nu mst) h)) (fun _ _ => False) := by
  refine x_start (own := RX7) (nm := "readsNumber") rfl rfl (by decide +kernel) rfl (nle rfl) (fun p e σ m args below meth c A C hno hr => ?_)
  refine x_lve (lv' := [(0, .ref (am 0)), (1, .int mst)]) rfl ?_
  refine x_aload_n C 0 rfl rfl dX7_readsNumber_0 ?_
  refine x_bipush C 45 (by decide) dX7_readsNumber_1 ?_
  refine x_FV (w1 := ([] : va_W)) (wc := (wMo g am s fi tx dm th sa ln pa le sk nu h)) (w2 := ([] : va_W)) [.int 45] [] (wMo g am s fi tx dm th sa ln (sp_X7_takes_pa tx ln pa 45) le sk nu h) C (k_X7_takes l g am s fi tx dm th sa ln pa le sk nu h 45 hpk) rfl yV_X7_takes wML_X7_140 rfl 0 rfl rfl rfl rfl (nle rfl) (nle rfl) (nle rfl) (nle rfl) (nle rfl) dX7_readsNumber_3 ?_
  refine x_istore_n C [(2, .int (sp_X7_takes tx ln pa 45)), (0, .ref (am 0)), (1, .int mst)] rfl rfl (by decide) dX7_readsNumber_6 ?_
  refine x_aload_n C 1 rfl rfl dX7_readsNumber_7 ?_
  refine x_iload_n C 0 rfl rfl dX7_readsNumber_8 ?_
  suffices K2 : xW p l e _ σ m args below meth c g.1 A 4 0 0 _ (wMo g am s fi tx dm th sa ln (sp_X7_takes_pa tx ln pa 45) le sk nu h) [(2, .int (sp_X7_takes tx ln pa 45)), (0, .ref (am 0)), (1, .int mst)] 17 [.int (if (sp_X7_takes tx ln pa 45) = 0 then (0 : Int32) else 1), .ref (am 0)] by
    refine x_if_eq C 16 (by decide) dX7_readsNumber_9 (fun h1 => ?_) (fun h1 => ?_)
    · refine x_iconst C 0 (by decide) dX7_readsNumber_16 ?_
      refine x_st (st' := [.int (if (sp_X7_takes tx ln pa 45) = 0 then (0 : Int32) else 1), .ref (am 0)]) (by simp only [if_pos h1]) ?_
      exact K2
    · refine x_iconst C 1 (by decide) dX7_readsNumber_12 ?_
      refine x_goto C 17 (by decide) dX7_readsNumber_13 ?_
      refine x_st (st' := [.int (if (sp_X7_takes tx ln pa 45) = 0 then (0 : Int32) else 1), .ref (am 0)]) (by simp only [if_neg h1]) ?_
      exact K2
  refine x_iload_n C 2 rfl rfl dX7_readsNumber_17 ?_
  refine x_FV (w1 := ([] : va_W)) (wc := (wMo g am s fi tx dm th sa ln (sp_X7_takes_pa tx ln pa 45) le sk nu h)) (w2 := ([] : va_W)) [.int (if (sp_X7_takes tx ln pa 45) = 0 then (0 : Int32) else 1), .int mst] [] (wMo g am s fi tx dm th sa ln (sp_X7_readsDigits_pa tx ln (sp_X7_takes_pa tx ln pa 45) (if (sp_X7_takes tx ln pa 45) = 0 then (0 : Int32) else 1) mst) le sk (sp_X7_readsDigits_nu tx ln (sp_X7_takes_pa tx ln pa 45) nu (if (sp_X7_takes tx ln pa 45) = 0 then (0 : Int32) else 1) mst) h) C (k_X7_readsDigits l g am s fi tx dm th sa ln (sp_X7_takes_pa tx ln pa 45) le sk nu h (if (sp_X7_takes tx ln pa 45) = 0 then (0 : Int32) else 1) mst (takes_ok (cc := 45) hpk (by decide)) (by split <;> decide)) rfl yV_X7_readsDigits wML_X7_143 rfl 0 rfl rfl rfl rfl (nle rfl) (nle rfl) (nle rfl) (nle rfl) (nle rfl) dX7_readsNumber_18 ?_
  refine x_istore_n C [(3, .int (sp_X7_readsDigits tx ln (sp_X7_takes_pa tx ln pa 45) (if (sp_X7_takes tx ln pa 45) = 0 then (0 : Int32) else 1))), (2, .int (sp_X7_takes tx ln pa 45)), (0, .ref (am 0)), (1, .int mst)] rfl rfl (by decide) dX7_readsNumber_21 ?_
  refine x_aload_n C 2 rfl rfl dX7_readsNumber_22 ?_
  refine x_iload_n C 1 rfl rfl dX7_readsNumber_23 ?_
  suffices K4 : xW p l e _ σ m args below meth c g.1 A 4 0 0 _ (wMo g am s fi tx dm th sa ln (sp_X7_readsDigits_pa tx ln (sp_X7_takes_pa tx ln pa 45) (if (sp_X7_takes tx ln pa 45) = 0 then (0 : Int32) else 1) mst) le sk (sp_X7_readsDigits_nu tx ln (sp_X7_takes_pa tx ln pa 45) nu (if (sp_X7_takes tx ln pa 45) = 0 then (0 : Int32) else 1) mst) h) [(3, .int (sp_X7_readsDigits tx ln (sp_X7_takes_pa tx ln pa 45) (if (sp_X7_takes tx ln pa 45) = 0 then (0 : Int32) else 1))), (2, .int (sp_X7_takes tx ln pa 45)), (0, .ref (am 0)), (1, .int mst)] 39 [.int (if (sp_X7_takes tx ln pa 45) = 0 then (sp_X7_readsDigits_nu tx ln (sp_X7_takes_pa tx ln pa 45) nu (if (sp_X7_takes tx ln pa 45) = 0 then (0 : Int32) else 1) mst) else (-(sp_X7_readsDigits_nu tx ln (sp_X7_takes_pa tx ln pa 45) nu (if (sp_X7_takes tx ln pa 45) = 0 then (0 : Int32) else 1) mst))), .ref (am 0)] by
    refine x_if_eq C 35 (by decide) dX7_readsNumber_24 (fun h3 => ?_) (fun h3 => ?_)
    · refine x_aload_n C 2 rfl rfl dX7_readsNumber_35 ?_
      refine x_get C 0 7 9 rfl rfl wLy_X7 wFL_X7_137 rfl (by decide) rfl dX7_readsNumber_36 ?_
      refine x_st (st' := [.int (if (sp_X7_takes tx ln pa 45) = 0 then (sp_X7_readsDigits_nu tx ln (sp_X7_takes_pa tx ln pa 45) nu (if (sp_X7_takes tx ln pa 45) = 0 then (0 : Int32) else 1) mst) else (-(sp_X7_readsDigits_nu tx ln (sp_X7_takes_pa tx ln pa 45) nu (if (sp_X7_takes tx ln pa 45) = 0 then (0 : Int32) else 1) mst))), .ref (am 0)]) (by simp only [if_pos h3]) ?_
      exact K4
    · refine x_aload_n C 2 rfl rfl dX7_readsNumber_27 ?_
      refine x_get C 0 7 9 rfl rfl wLy_X7 wFL_X7_137 rfl (by decide) rfl dX7_readsNumber_28 ?_
      refine x_ineg C dX7_readsNumber_31 ?_
      refine x_goto C 39 (by decide) dX7_readsNumber_32 ?_
      refine x_st (st' := [.int (if (sp_X7_takes tx ln pa 45) = 0 then (sp_X7_readsDigits_nu tx ln (sp_X7_takes_pa tx ln pa 45) nu (if (sp_X7_takes tx ln pa 45) = 0 then (0 : Int32) else 1) mst) else (-(sp_X7_readsDigits_nu tx ln (sp_X7_takes_pa tx ln pa 45) nu (if (sp_X7_takes tx ln pa 45) = 0 then (0 : Int32) else 1) mst))), .ref (am 0)]) (by simp only [if_neg h3]) ?_
      exact K4
  refine x_put C 0 7 9 tyX7 (wMo g am s fi tx dm th sa ln (sp_X7_readsDigits_pa tx ln (sp_X7_takes_pa tx ln pa 45) (if (sp_X7_takes tx ln pa 45) = 0 then (0 : Int32) else 1) mst) le sk (if (sp_X7_takes tx ln pa 45) = 0 then (sp_X7_readsDigits_nu tx ln (sp_X7_takes_pa tx ln pa 45) nu (if (sp_X7_takes tx ln pa 45) = 0 then (0 : Int32) else 1) mst) else (-(sp_X7_readsDigits_nu tx ln (sp_X7_takes_pa tx ln pa 45) nu (if (sp_X7_takes tx ln pa 45) = 0 then (0 : Int32) else 1) mst))) h) rfl rfl rfl wLy_X7 tyX7_ok nmX7 wFL_X7_137 rfl (by decide) rfl rfl rfl rfl (nlt rfl) dX7_readsNumber_39 ?_
  refine x_iload_n C 0 rfl rfl dX7_readsNumber_42 ?_
  exact x_zret C hr (xnz (spb_X7_readsDigits tx ln (sp_X7_takes_pa tx ln pa 45) (if (sp_X7_takes tx ln pa 45) = 0 then (0 : Int32) else 1))) (nle rfl) (nle rfl) dX7_readsNumber_43 ⟨(by first | (simp only [sp_X7_readsNumber]; done) | (simp only [sp_X7_readsNumber]; rfl)), (by first | (simp only [sp_X7_readsNumber_pa, sp_X7_readsNumber_nu]; done) | (simp only [sp_X7_readsNumber_pa, sp_X7_readsNumber_nu]; rfl))⟩
theorem rnN_ok {tx : Nat → Int32} {ln pa mst : Int32} (h : pOk ln pa) : pOk ln (sp_X7_readsNumber_pa tx ln pa mst) ∧ pa.toNatClampNeg ≤ (sp_X7_readsNumber_pa tx ln pa mst).toNatClampNeg := by
  obtain ⟨q1, q2⟩ := takes_fact (tx := tx) (cc := 45) h (by decide)
  obtain ⟨r1, r2⟩ := rdD_ok (tx := tx) (lst := (if sp_X7_takes tx ln pa 45 = 0 then (0 : Int32) else 1)) (mst := mst) q1 (by split <;> decide)
  unfold sp_X7_readsNumber_pa
  exact ⟨r1, by split at q2 <;> omega⟩
def stp (tx : Nat → Int32) (ln pa : Int32) : Int32 := pa + (if sp_X7_in (sp_X7_sign tx ln pa - 48) 0 3 = 0 then (0 : Int32) else 1)
theorem pa_st {tx : Nat → Int32} {ln pa : Int32} (h : pOk ln pa) : pOk ln (stp tx ln pa) ∧ pa.toNatClampNeg ≤ (stp tx ln pa).toNatClampNeg := by
  unfold stp
  split
  · exact ⟨(pa0_ok h).1, by rw [(pa0_ok h).2]; exact Nat.le_refl _⟩
  · rename_i c
    have hl := sign_lt (tx := tx) h (fun e => by rw [e] at c; exact c (by decide))
    exact ⟨(pa1_ok h hl).1, by rw [(pa1_ok h hl).2]; omega⟩
def sp_X7_readsCommand (tx : Nat → Int32) (ln : Int32) (pa : Int32) : Int32 := (if (sp_X7_takes tx ln pa 115) = 0 then (if (sp_X7_takes tx ln (sp_X7_takes_pa tx ln pa 115) 116) = 0 then (if (sp_X7_takes tx ln (sp_X7_takes_pa tx ln (sp_X7_takes_pa tx ln pa 115) 116) 102) = 0 then (if (sp_X7_takes tx ln (sp_X7_takes_pa tx ln (sp_X7_takes_pa tx ln (sp_X7_takes_pa tx ln pa 115) 116) 102) 108) = 0 then (if (sp_X7_takes tx ln (sp_X7_takes_pa tx ln (sp_X7_takes_pa tx ln (sp_X7_takes_pa tx ln (sp_X7_takes_pa tx ln pa 115) 116) 102) 108) 114) = 0 then (if (sp_X7_takes tx ln (sp_X7_takes_pa tx ln (sp_X7_takes_pa tx ln (sp_X7_takes_pa tx ln (sp_X7_takes_pa tx ln (sp_X7_takes_pa tx ln pa 115) 116) 102) 108) 114) 99) = 0 then (0 : Int32) else 1) else 1) else (sp_X7_readsDigits tx ln (sp_X7_takes_pa tx ln (sp_X7_takes_pa tx ln (sp_X7_takes_pa tx ln (sp_X7_takes_pa tx ln pa 115) 116) 102) 108) 1)) else (sp_X7_readsDigits tx ln (sp_X7_takes_pa tx ln (sp_X7_takes_pa tx ln (sp_X7_takes_pa tx ln pa 115) 116) 102) 1)) else (if (sp_X7_in ((sp_X7_sign tx ln (sp_X7_takes_pa tx ln (sp_X7_takes_pa tx ln pa 115) 116)) - 48) 0 3) = 0 then (0 : Int32) else (if (sp_X7_takes tx ln (stp tx ln (sp_X7_takes_pa tx ln (sp_X7_takes_pa tx ln pa 115) 116)) 61) = 0 then (0 : Int32) else (if (sp_X7_readsNumber tx ln (sp_X7_takes_pa tx ln (stp tx ln (sp_X7_takes_pa tx ln (sp_X7_takes_pa tx ln pa 115) 116)) 61)) = 0 then (0 : Int32) else 1)))) else (if (sp_X7_in ((sp_X7_sign tx ln (sp_X7_takes_pa tx ln pa 115)) - 48) 0 3) = 0 then (0 : Int32) else (if (sp_X7_takes tx ln (stp tx ln (sp_X7_takes_pa tx ln pa 115)) 61) = 0 then (0 : Int32) else (if (sp_X7_readsNumber tx ln (sp_X7_takes_pa tx ln (stp tx ln (sp_X7_takes_pa tx ln pa 115)) 61)) = 0 then (0 : Int32) else 1))))
def sp_X7_readsCommand_pa (tx : Nat → Int32) (ln : Int32) (pa : Int32) : Int32 := (if (sp_X7_takes tx ln pa 115) = 0 then (if (sp_X7_takes tx ln (sp_X7_takes_pa tx ln pa 115) 116) = 0 then (if (sp_X7_takes tx ln (sp_X7_takes_pa tx ln (sp_X7_takes_pa tx ln pa 115) 116) 102) = 0 then (if (sp_X7_takes tx ln (sp_X7_takes_pa tx ln (sp_X7_takes_pa tx ln (sp_X7_takes_pa tx ln pa 115) 116) 102) 108) = 0 then (if (sp_X7_takes tx ln (sp_X7_takes_pa tx ln (sp_X7_takes_pa tx ln (sp_X7_takes_pa tx ln (sp_X7_takes_pa tx ln pa 115) 116) 102) 108) 114) = 0 then (sp_X7_takes_pa tx ln (sp_X7_takes_pa tx ln (sp_X7_takes_pa tx ln (sp_X7_takes_pa tx ln (sp_X7_takes_pa tx ln (sp_X7_takes_pa tx ln pa 115) 116) 102) 108) 114) 99) else (sp_X7_takes_pa tx ln (sp_X7_takes_pa tx ln (sp_X7_takes_pa tx ln (sp_X7_takes_pa tx ln (sp_X7_takes_pa tx ln pa 115) 116) 102) 108) 114)) else (sp_X7_readsDigits_pa tx ln (sp_X7_takes_pa tx ln (sp_X7_takes_pa tx ln (sp_X7_takes_pa tx ln (sp_X7_takes_pa tx ln pa 115) 116) 102) 108) 1 50)) else (sp_X7_readsDigits_pa tx ln (sp_X7_takes_pa tx ln (sp_X7_takes_pa tx ln (sp_X7_takes_pa tx ln pa 115) 116) 102) 1 50)) else (if (sp_X7_in ((sp_X7_sign tx ln (sp_X7_takes_pa tx ln (sp_X7_takes_pa tx ln pa 115) 116)) - 48) 0 3) = 0 then (stp tx ln (sp_X7_takes_pa tx ln (sp_X7_takes_pa tx ln pa 115) 116)) else (if (sp_X7_takes tx ln (stp tx ln (sp_X7_takes_pa tx ln (sp_X7_takes_pa tx ln pa 115) 116)) 61) = 0 then (sp_X7_takes_pa tx ln (stp tx ln (sp_X7_takes_pa tx ln (sp_X7_takes_pa tx ln pa 115) 116)) 61) else (sp_X7_readsNumber_pa tx ln (sp_X7_takes_pa tx ln (stp tx ln (sp_X7_takes_pa tx ln (sp_X7_takes_pa tx ln pa 115) 116)) 61) (if (sp_X7_sign tx ln pa) = 115 then (100 : Int32) else 25))))) else (if (sp_X7_in ((sp_X7_sign tx ln (sp_X7_takes_pa tx ln pa 115)) - 48) 0 3) = 0 then (stp tx ln (sp_X7_takes_pa tx ln pa 115)) else (if (sp_X7_takes tx ln (stp tx ln (sp_X7_takes_pa tx ln pa 115)) 61) = 0 then (sp_X7_takes_pa tx ln (stp tx ln (sp_X7_takes_pa tx ln pa 115)) 61) else (sp_X7_readsNumber_pa tx ln (sp_X7_takes_pa tx ln (stp tx ln (sp_X7_takes_pa tx ln pa 115)) 61) (if (sp_X7_sign tx ln pa) = 115 then (100 : Int32) else 25)))))
def sp_X7_readsCommand_le (tx : Nat → Int32) (ln : Int32) (pa : Int32) : Int32 := (sp_X7_sign tx ln pa)
def sp_X7_readsCommand_sk (tx : Nat → Int32) (ln : Int32) (pa : Int32) (sk : Int32) : Int32 := (if (sp_X7_takes tx ln pa 115) = 0 then (if (sp_X7_takes tx ln (sp_X7_takes_pa tx ln pa 115) 116) = 0 then sk else ((sp_X7_sign tx ln (sp_X7_takes_pa tx ln (sp_X7_takes_pa tx ln pa 115) 116)) - 48)) else ((sp_X7_sign tx ln (sp_X7_takes_pa tx ln pa 115)) - 48))
def sp_X7_readsCommand_nu (tx : Nat → Int32) (ln : Int32) (pa : Int32) (nu : Int32) : Int32 := (if (sp_X7_takes tx ln pa 115) = 0 then (if (sp_X7_takes tx ln (sp_X7_takes_pa tx ln pa 115) 116) = 0 then (if (sp_X7_takes tx ln (sp_X7_takes_pa tx ln (sp_X7_takes_pa tx ln pa 115) 116) 102) = 0 then (if (sp_X7_takes tx ln (sp_X7_takes_pa tx ln (sp_X7_takes_pa tx ln (sp_X7_takes_pa tx ln pa 115) 116) 102) 108) = 0 then nu else (sp_X7_readsDigits_nu tx ln (sp_X7_takes_pa tx ln (sp_X7_takes_pa tx ln (sp_X7_takes_pa tx ln (sp_X7_takes_pa tx ln pa 115) 116) 102) 108) nu 1 50)) else (sp_X7_readsDigits_nu tx ln (sp_X7_takes_pa tx ln (sp_X7_takes_pa tx ln (sp_X7_takes_pa tx ln pa 115) 116) 102) nu 1 50)) else (if (sp_X7_in ((sp_X7_sign tx ln (sp_X7_takes_pa tx ln (sp_X7_takes_pa tx ln pa 115) 116)) - 48) 0 3) = 0 then nu else (if (sp_X7_takes tx ln (stp tx ln (sp_X7_takes_pa tx ln (sp_X7_takes_pa tx ln pa 115) 116)) 61) = 0 then nu else (sp_X7_readsNumber_nu tx ln (sp_X7_takes_pa tx ln (stp tx ln (sp_X7_takes_pa tx ln (sp_X7_takes_pa tx ln pa 115) 116)) 61) nu (if (sp_X7_sign tx ln pa) = 115 then (100 : Int32) else 25))))) else (if (sp_X7_in ((sp_X7_sign tx ln (sp_X7_takes_pa tx ln pa 115)) - 48) 0 3) = 0 then nu else (if (sp_X7_takes tx ln (stp tx ln (sp_X7_takes_pa tx ln pa 115)) 61) = 0 then nu else (sp_X7_readsNumber_nu tx ln (sp_X7_takes_pa tx ln (stp tx ln (sp_X7_takes_pa tx ln pa 115)) 61) nu (if (sp_X7_sign tx ln pa) = 115 then (100 : Int32) else 25)))))
theorem spb_X7_readsCommand (tx : Nat → Int32) (ln : Int32) (pa : Int32)  : (sp_X7_readsCommand tx ln pa) = 0 ∨ (sp_X7_readsCommand tx ln pa) = 1 := by
  unfold sp_X7_readsCommand
  exact (bool_ite (bool_ite (bool_ite (bool_ite (bool_ite (bool_ite (Or.inl rfl) (Or.inr rfl)) (Or.inr rfl)) (spb_X7_readsDigits tx ln (sp_X7_takes_pa tx ln (sp_X7_takes_pa tx ln (sp_X7_takes_pa tx ln (sp_X7_takes_pa tx ln pa 115) 116) 102) 108) 1)) (spb_X7_readsDigits tx ln (sp_X7_takes_pa tx ln (sp_X7_takes_pa tx ln (sp_X7_takes_pa tx ln pa 115) 116) 102) 1)) (bool_ite (Or.inl rfl) (bool_ite (Or.inl rfl) (bool_ite (Or.inl rfl) (Or.inr rfl))))) (bool_ite (Or.inl rfl) (bool_ite (Or.inl rfl) (bool_ite (Or.inl rfl) (Or.inr rfl)))))
set_option maxRecDepth 100000 in
theorem k_X7_readsCommand (l : Launch) (g : xGt) (am : Nat → Nat) (s fi tx dm : Nat → Int32) (th sa ln pa le sk nu : Int32) (h : Int64) (hpk : pOk ln pa) : xM l g.1 (xT g) yX7_readsCommand (ws_ yX7_readsCommand cX7_readsCommand 2 (some .boolean)) (xRm 3 67 0 0) 0 0 [.ref (am 0)] (wMo g am s fi tx dm th sa ln pa le sk nu h) (fun r9 w9 => r9 = some (.int (sp_X7_readsCommand tx ln pa)) ∧ w9 = (wMo g am s fi tx dm th sa ln (sp_X7_readsCommand_pa tx ln pa) (sp_X7_readsCommand_le tx ln pa) (sp_X7_readsCommand_sk tx ln pa sk) (sp_X7_readsCommand_nu tx ln pa nu) h)) (fun _ _ => False) := by
  refine x_start (own := RX7) (nm := "readsCommand") rfl rfl (by decide +kernel) rfl (nle rfl) (fun p e σ m args below meth c A C hno hr => ?_)
  refine x_lve (lv' := [(0, .ref (am 0))]) rfl ?_
  refine x_aload_n C 0 rfl rfl dX7_readsCommand_0 ?_
  refine x_aload_n C 0 rfl rfl dX7_readsCommand_1 ?_
  refine x_FV (w1 := ([] : va_W)) (wc := (wMo g am s fi tx dm th sa ln pa le sk nu h)) (w2 := ([] : va_W)) [] [.ref (am 0)] (wMo g am s fi tx dm th sa ln pa le sk nu h) C (k_X7_sign l g am s fi tx dm th sa ln pa le sk nu h hpk) rfl yV_X7_sign wML_X7_133 rfl 0 rfl rfl rfl rfl (nle rfl) (nle rfl) (nle rfl) (nle rfl) (nle rfl) dX7_readsCommand_2 ?_
  refine x_put C 0 7 7 tyX7 (wMo g am s fi tx dm th sa ln pa (sp_X7_sign tx ln pa) sk nu h) rfl rfl rfl wLy_X7 tyX7_ok nmX7 wFL_X7_146 rfl (by decide) rfl rfl rfl rfl (nlt rfl) dX7_readsCommand_5 ?_
  refine x_aload_n C 0 rfl rfl dX7_readsCommand_8 ?_
  refine x_bipush C 115 (by decide) dX7_readsCommand_9 ?_
  refine x_FV (w1 := ([] : va_W)) (wc := (wMo g am s fi tx dm th sa ln pa (sp_X7_sign tx ln pa) sk nu h)) (w2 := ([] : va_W)) [.int 115] [] (wMo g am s fi tx dm th sa ln (sp_X7_takes_pa tx ln pa 115) (sp_X7_sign tx ln pa) sk nu h) C (k_X7_takes l g am s fi tx dm th sa ln pa (sp_X7_sign tx ln pa) sk nu h 115 hpk) rfl yV_X7_takes wML_X7_140 rfl 0 rfl rfl rfl rfl (nle rfl) (nle rfl) (nle rfl) (nle rfl) (nle rfl) dX7_readsCommand_11 ?_
  refine x_if_ne C 26 (by decide) dX7_readsCommand_14 (fun h1 => ?_) (fun h1 => ?_)
  · refine x_aload_n C 0 rfl rfl dX7_readsCommand_26 ?_
    refine x_aload_n C 0 rfl rfl dX7_readsCommand_27 ?_
    refine x_FV (w1 := ([] : va_W)) (wc := (wMo g am s fi tx dm th sa ln (sp_X7_takes_pa tx ln pa 115) (sp_X7_sign tx ln pa) sk nu h)) (w2 := ([] : va_W)) [] [.ref (am 0)] (wMo g am s fi tx dm th sa ln (sp_X7_takes_pa tx ln pa 115) (sp_X7_sign tx ln pa) sk nu h) C (k_X7_sign l g am s fi tx dm th sa ln (sp_X7_takes_pa tx ln pa 115) (sp_X7_sign tx ln pa) sk nu h (takes_ok (cc := 115) hpk (by decide))) rfl yV_X7_sign wML_X7_133 rfl 0 rfl rfl rfl rfl (nle rfl) (nle rfl) (nle rfl) (nle rfl) (nle rfl) dX7_readsCommand_28 ?_
    refine x_bipush C 48 (by decide) dX7_readsCommand_31 ?_
    refine x_isub C dX7_readsCommand_33 ?_
    refine x_put C 0 7 8 tyX7 (wMo g am s fi tx dm th sa ln (sp_X7_takes_pa tx ln pa 115) (sp_X7_sign tx ln pa) ((sp_X7_sign tx ln (sp_X7_takes_pa tx ln pa 115)) - 48) nu h) rfl rfl rfl wLy_X7 tyX7_ok nmX7 wFL_X7_149 rfl (by decide) rfl rfl rfl rfl (nlt rfl) dX7_readsCommand_34 ?_
    refine x_aload_n C 0 rfl rfl dX7_readsCommand_37 ?_
    refine x_get C 0 7 8 rfl rfl wLy_X7 wFL_X7_149 rfl (by decide) rfl dX7_readsCommand_38 ?_
    refine x_FS (w1 := ([] : va_W)) (wc := ([] : va_W)) (w2 := (wMo g am s fi tx dm th sa ln (sp_X7_takes_pa tx ln pa 115) (sp_X7_sign tx ln pa) ((sp_X7_sign tx ln (sp_X7_takes_pa tx ln pa 115)) - 48) nu h)) [.int ((sp_X7_sign tx ln (sp_X7_takes_pa tx ln pa 115)) - 48)] [] (wMo g am s fi tx dm th sa ln (sp_X7_takes_pa tx ln pa 115) (sp_X7_sign tx ln pa) ((sp_X7_sign tx ln (sp_X7_takes_pa tx ln pa 115)) - 48) nu h) C (k_X7_isStick l g ((sp_X7_sign tx ln (sp_X7_takes_pa tx ln pa 115)) - 48)) rfl yS_X7_isStick wML_X7_95 rfl rfl rfl (nle rfl) (nle rfl) (nle rfl) (nle rfl) (nle rfl) dX7_readsCommand_41 ?_
    refine x_istore_n C [(1, .int (sp_X7_in ((sp_X7_sign tx ln (sp_X7_takes_pa tx ln pa 115)) - 48) 0 3)), (0, .ref (am 0))] rfl rfl (by decide) dX7_readsCommand_44 ?_
    refine x_aload_n C 1 rfl rfl dX7_readsCommand_45 ?_
    refine x_dup C rfl dX7_readsCommand_46 ?_
    refine x_get C 0 7 6 rfl rfl wLy_X7 wFL_X7_130 rfl (by decide) rfl dX7_readsCommand_47 ?_
    refine x_iload_n C 0 rfl rfl dX7_readsCommand_50 ?_
    suffices K3 : xW p l e _ σ m args below meth c g.1 A 2 0 0 _ (wMo g am s fi tx dm th sa ln (sp_X7_takes_pa tx ln pa 115) (sp_X7_sign tx ln pa) ((sp_X7_sign tx ln (sp_X7_takes_pa tx ln pa 115)) - 48) nu h) [(1, .int (sp_X7_in ((sp_X7_sign tx ln (sp_X7_takes_pa tx ln pa 115)) - 48) 0 3)), (0, .ref (am 0))] 59 [.int (if (sp_X7_in ((sp_X7_sign tx ln (sp_X7_takes_pa tx ln pa 115)) - 48) 0 3) = 0 then (0 : Int32) else 1), .int (sp_X7_takes_pa tx ln pa 115), .ref (am 0)] by
      refine x_if_eq C 58 (by decide) dX7_readsCommand_51 (fun h2 => ?_) (fun h2 => ?_)
      · refine x_iconst C 0 (by decide) dX7_readsCommand_58 ?_
        refine x_st (st' := [.int (if (sp_X7_in ((sp_X7_sign tx ln (sp_X7_takes_pa tx ln pa 115)) - 48) 0 3) = 0 then (0 : Int32) else 1), .int (sp_X7_takes_pa tx ln pa 115), .ref (am 0)]) (by simp only [if_pos h2]) ?_
        exact K3
      · refine x_iconst C 1 (by decide) dX7_readsCommand_54 ?_
        refine x_goto C 59 (by decide) dX7_readsCommand_55 ?_
        refine x_st (st' := [.int (if (sp_X7_in ((sp_X7_sign tx ln (sp_X7_takes_pa tx ln pa 115)) - 48) 0 3) = 0 then (0 : Int32) else 1), .int (sp_X7_takes_pa tx ln pa 115), .ref (am 0)]) (by simp only [if_neg h2]) ?_
        exact K3
    refine x_iadd C dX7_readsCommand_59 ?_
    refine x_put C 0 7 6 tyX7 (wMo g am s fi tx dm th sa ln ((sp_X7_takes_pa tx ln pa 115) + (if (sp_X7_in ((sp_X7_sign tx ln (sp_X7_takes_pa tx ln pa 115)) - 48) 0 3) = 0 then (0 : Int32) else 1)) (sp_X7_sign tx ln pa) ((sp_X7_sign tx ln (sp_X7_takes_pa tx ln pa 115)) - 48) nu h) rfl rfl rfl wLy_X7 tyX7_ok nmX7 wFL_X7_130 rfl (by decide) rfl rfl rfl rfl (nlt rfl) dX7_readsCommand_60 ?_
    refine x_ws (ws' := (wMo g am s fi tx dm th sa ln (stp tx ln (sp_X7_takes_pa tx ln pa 115)) (sp_X7_sign tx ln pa) ((sp_X7_sign tx ln (sp_X7_takes_pa tx ln pa 115)) - 48) nu h)) rfl ?_
    refine x_iload_n C 0 rfl rfl dX7_readsCommand_63 ?_
    suffices K5 : xW p l e _ σ m args below meth c g.1 A 2 0 0 _ (wMo g am s fi tx dm th sa ln (if (sp_X7_in ((sp_X7_sign tx ln (sp_X7_takes_pa tx ln pa 115)) - 48) 0 3) = 0 then (stp tx ln (sp_X7_takes_pa tx ln pa 115)) else (if (sp_X7_takes tx ln (stp tx ln (sp_X7_takes_pa tx ln pa 115)) 61) = 0 then (sp_X7_takes_pa tx ln (stp tx ln (sp_X7_takes_pa tx ln pa 115)) 61) else (sp_X7_readsNumber_pa tx ln (sp_X7_takes_pa tx ln (stp tx ln (sp_X7_takes_pa tx ln pa 115)) 61) (if (sp_X7_sign tx ln pa) = 115 then (100 : Int32) else 25)))) (sp_X7_sign tx ln pa) ((sp_X7_sign tx ln (sp_X7_takes_pa tx ln pa 115)) - 48) (if (sp_X7_in ((sp_X7_sign tx ln (sp_X7_takes_pa tx ln pa 115)) - 48) 0 3) = 0 then nu else (if (sp_X7_takes tx ln (stp tx ln (sp_X7_takes_pa tx ln pa 115)) 61) = 0 then nu else (sp_X7_readsNumber_nu tx ln (sp_X7_takes_pa tx ln (stp tx ln (sp_X7_takes_pa tx ln pa 115)) 61) nu (if (sp_X7_sign tx ln pa) = 115 then (100 : Int32) else 25)))) h) [(1, .int (sp_X7_in ((sp_X7_sign tx ln (sp_X7_takes_pa tx ln pa 115)) - 48) 0 3)), (0, .ref (am 0))] 104 [.int (if (sp_X7_in ((sp_X7_sign tx ln (sp_X7_takes_pa tx ln pa 115)) - 48) 0 3) = 0 then (0 : Int32) else (if (sp_X7_takes tx ln (stp tx ln (sp_X7_takes_pa tx ln pa 115)) 61) = 0 then (0 : Int32) else (if (sp_X7_readsNumber tx ln (sp_X7_takes_pa tx ln (stp tx ln (sp_X7_takes_pa tx ln pa 115)) 61)) = 0 then (0 : Int32) else 1)))] by
      refine x_if_eq C 103 (by decide) dX7_readsCommand_64 (fun h4 => ?_) (fun h4 => ?_)
      · refine x_iconst C 0 (by decide) dX7_readsCommand_103 ?_
        refine x_st (st' := [.int (if (sp_X7_in ((sp_X7_sign tx ln (sp_X7_takes_pa tx ln pa 115)) - 48) 0 3) = 0 then (0 : Int32) else (if (sp_X7_takes tx ln (stp tx ln (sp_X7_takes_pa tx ln pa 115)) 61) = 0 then (0 : Int32) else (if (sp_X7_readsNumber tx ln (sp_X7_takes_pa tx ln (stp tx ln (sp_X7_takes_pa tx ln pa 115)) 61)) = 0 then (0 : Int32) else 1)))]) (by simp only [if_pos h4]) ?_
        refine x_ws (ws' := (wMo g am s fi tx dm th sa ln (if (sp_X7_in ((sp_X7_sign tx ln (sp_X7_takes_pa tx ln pa 115)) - 48) 0 3) = 0 then (stp tx ln (sp_X7_takes_pa tx ln pa 115)) else (if (sp_X7_takes tx ln (stp tx ln (sp_X7_takes_pa tx ln pa 115)) 61) = 0 then (sp_X7_takes_pa tx ln (stp tx ln (sp_X7_takes_pa tx ln pa 115)) 61) else (sp_X7_readsNumber_pa tx ln (sp_X7_takes_pa tx ln (stp tx ln (sp_X7_takes_pa tx ln pa 115)) 61) (if (sp_X7_sign tx ln pa) = 115 then (100 : Int32) else 25)))) (sp_X7_sign tx ln pa) ((sp_X7_sign tx ln (sp_X7_takes_pa tx ln pa 115)) - 48) (if (sp_X7_in ((sp_X7_sign tx ln (sp_X7_takes_pa tx ln pa 115)) - 48) 0 3) = 0 then nu else (if (sp_X7_takes tx ln (stp tx ln (sp_X7_takes_pa tx ln pa 115)) 61) = 0 then nu else (sp_X7_readsNumber_nu tx ln (sp_X7_takes_pa tx ln (stp tx ln (sp_X7_takes_pa tx ln pa 115)) 61) nu (if (sp_X7_sign tx ln pa) = 115 then (100 : Int32) else 25)))) h)) (by first | (simp only [if_pos h4]; done) | (simp only [if_pos h4]; rfl)) ?_
        exact K5
      · refine x_aload_n C 1 rfl rfl dX7_readsCommand_67 ?_
        refine x_bipush C 61 (by decide) dX7_readsCommand_68 ?_
        refine x_FV (w1 := ([] : va_W)) (wc := (wMo g am s fi tx dm th sa ln (stp tx ln (sp_X7_takes_pa tx ln pa 115)) (sp_X7_sign tx ln pa) ((sp_X7_sign tx ln (sp_X7_takes_pa tx ln pa 115)) - 48) nu h)) (w2 := ([] : va_W)) [.int 61] [] (wMo g am s fi tx dm th sa ln (sp_X7_takes_pa tx ln (stp tx ln (sp_X7_takes_pa tx ln pa 115)) 61) (sp_X7_sign tx ln pa) ((sp_X7_sign tx ln (sp_X7_takes_pa tx ln pa 115)) - 48) nu h) C (k_X7_takes l g am s fi tx dm th sa ln (stp tx ln (sp_X7_takes_pa tx ln pa 115)) (sp_X7_sign tx ln pa) ((sp_X7_sign tx ln (sp_X7_takes_pa tx ln pa 115)) - 48) nu h 61 (pa_st (takes_ok (cc := 115) hpk (by decide))).1) rfl yV_X7_takes wML_X7_140 rfl 0 rfl rfl rfl rfl (nle rfl) (nle rfl) (nle rfl) (nle rfl) (nle rfl) dX7_readsCommand_70 ?_
        refine x_if_eq C 103 (by decide) dX7_readsCommand_73 (fun h5 => ?_) (fun h5 => ?_)
        · refine x_iconst C 0 (by decide) dX7_readsCommand_103 ?_
          refine x_st (st' := [.int (if (sp_X7_in ((sp_X7_sign tx ln (sp_X7_takes_pa tx ln pa 115)) - 48) 0 3) = 0 then (0 : Int32) else (if (sp_X7_takes tx ln (stp tx ln (sp_X7_takes_pa tx ln pa 115)) 61) = 0 then (0 : Int32) else (if (sp_X7_readsNumber tx ln (sp_X7_takes_pa tx ln (stp tx ln (sp_X7_takes_pa tx ln pa 115)) 61)) = 0 then (0 : Int32) else 1)))]) (by simp only [if_neg h4, if_pos h5]) ?_
          refine x_ws (ws' := (wMo g am s fi tx dm th sa ln (if (sp_X7_in ((sp_X7_sign tx ln (sp_X7_takes_pa tx ln pa 115)) - 48) 0 3) = 0 then (stp tx ln (sp_X7_takes_pa tx ln pa 115)) else (if (sp_X7_takes tx ln (stp tx ln (sp_X7_takes_pa tx ln pa 115)) 61) = 0 then (sp_X7_takes_pa tx ln (stp tx ln (sp_X7_takes_pa tx ln pa 115)) 61) else (sp_X7_readsNumber_pa tx ln (sp_X7_takes_pa tx ln (stp tx ln (sp_X7_takes_pa tx ln pa 115)) 61) (if (sp_X7_sign tx ln pa) = 115 then (100 : Int32) else 25)))) (sp_X7_sign tx ln pa) ((sp_X7_sign tx ln (sp_X7_takes_pa tx ln pa 115)) - 48) (if (sp_X7_in ((sp_X7_sign tx ln (sp_X7_takes_pa tx ln pa 115)) - 48) 0 3) = 0 then nu else (if (sp_X7_takes tx ln (stp tx ln (sp_X7_takes_pa tx ln pa 115)) 61) = 0 then nu else (sp_X7_readsNumber_nu tx ln (sp_X7_takes_pa tx ln (stp tx ln (sp_X7_takes_pa tx ln pa 115)) 61) nu (if (sp_X7_sign tx ln pa) = 115 then (100 : Int32) else 25)))) h)) (by first | (simp only [if_neg h4, if_pos h5]; done) | (simp only [if_neg h4, if_pos h5]; rfl)) ?_
          exact K5
        · refine x_aload_n C 1 rfl rfl dX7_readsCommand_76 ?_
          refine x_aload_n C 1 rfl rfl dX7_readsCommand_77 ?_
          refine x_get C 0 7 7 rfl rfl wLy_X7 wFL_X7_146 rfl (by decide) rfl dX7_readsCommand_78 ?_
          refine x_bipush C 115 (by decide) dX7_readsCommand_81 ?_
          suffices K7 : xW p l e _ σ m args below meth c g.1 A 2 0 0 _ (wMo g am s fi tx dm th sa ln (sp_X7_takes_pa tx ln (stp tx ln (sp_X7_takes_pa tx ln pa 115)) 61) (sp_X7_sign tx ln pa) ((sp_X7_sign tx ln (sp_X7_takes_pa tx ln pa 115)) - 48) nu h) [(1, .int (sp_X7_in ((sp_X7_sign tx ln (sp_X7_takes_pa tx ln pa 115)) - 48) 0 3)), (0, .ref (am 0))] 93 [.int (if (sp_X7_sign tx ln pa) = 115 then (100 : Int32) else 25), .ref (am 0)] by
            refine x_icmp_ne C 91 (by decide) dX7_readsCommand_83 (fun h6 => ?_) (fun h6 => ?_)
            · refine x_bipush C 25 (by decide) dX7_readsCommand_91 ?_
              refine x_st (st' := [.int (if (sp_X7_sign tx ln pa) = 115 then (100 : Int32) else 25), .ref (am 0)]) (by simp only [if_neg h6]) ?_
              exact K7
            · refine x_bipush C 100 (by decide) dX7_readsCommand_86 ?_
              refine x_goto C 93 (by decide) dX7_readsCommand_88 ?_
              refine x_st (st' := [.int (if (sp_X7_sign tx ln pa) = 115 then (100 : Int32) else 25), .ref (am 0)]) (by simp only [if_pos h6]) ?_
              exact K7
          refine x_FV (w1 := ([] : va_W)) (wc := (wMo g am s fi tx dm th sa ln (sp_X7_takes_pa tx ln (stp tx ln (sp_X7_takes_pa tx ln pa 115)) 61) (sp_X7_sign tx ln pa) ((sp_X7_sign tx ln (sp_X7_takes_pa tx ln pa 115)) - 48) nu h)) (w2 := ([] : va_W)) [.int (if (sp_X7_sign tx ln pa) = 115 then (100 : Int32) else 25)] [] (wMo g am s fi tx dm th sa ln (sp_X7_readsNumber_pa tx ln (sp_X7_takes_pa tx ln (stp tx ln (sp_X7_takes_pa tx ln pa 115)) 61) (if (sp_X7_sign tx ln pa) = 115 then (100 : Int32) else 25)) (sp_X7_sign tx ln pa) ((sp_X7_sign tx ln (sp_X7_takes_pa tx ln pa 115)) - 48) (sp_X7_readsNumber_nu tx ln (sp_X7_takes_pa tx ln (stp tx ln (sp_X7_takes_pa tx ln pa 115)) 61) nu (if (sp_X7_sign tx ln pa) = 115 then (100 : Int32) else 25)) h) C (k_X7_readsNumber l g am s fi tx dm th sa ln (sp_X7_takes_pa tx ln (stp tx ln (sp_X7_takes_pa tx ln pa 115)) 61) (sp_X7_sign tx ln pa) ((sp_X7_sign tx ln (sp_X7_takes_pa tx ln pa 115)) - 48) nu h (if (sp_X7_sign tx ln pa) = 115 then (100 : Int32) else 25) (takes_ok (cc := 61) (pa_st (takes_ok (cc := 115) hpk (by decide))).1 (by decide))) rfl yV_X7_readsNumber wML_X7_152 rfl 0 rfl rfl rfl rfl (nle rfl) (nle rfl) (nle rfl) (nle rfl) (nle rfl) dX7_readsCommand_93 ?_
          refine x_if_eq C 103 (by decide) dX7_readsCommand_96 (fun h8 => ?_) (fun h8 => ?_)
          · refine x_iconst C 0 (by decide) dX7_readsCommand_103 ?_
            refine x_st (st' := [.int (if (sp_X7_in ((sp_X7_sign tx ln (sp_X7_takes_pa tx ln pa 115)) - 48) 0 3) = 0 then (0 : Int32) else (if (sp_X7_takes tx ln (stp tx ln (sp_X7_takes_pa tx ln pa 115)) 61) = 0 then (0 : Int32) else (if (sp_X7_readsNumber tx ln (sp_X7_takes_pa tx ln (stp tx ln (sp_X7_takes_pa tx ln pa 115)) 61)) = 0 then (0 : Int32) else 1)))]) (by simp only [if_neg h4, if_neg h5, if_pos h8]) ?_
            refine x_ws (ws' := (wMo g am s fi tx dm th sa ln (if (sp_X7_in ((sp_X7_sign tx ln (sp_X7_takes_pa tx ln pa 115)) - 48) 0 3) = 0 then (stp tx ln (sp_X7_takes_pa tx ln pa 115)) else (if (sp_X7_takes tx ln (stp tx ln (sp_X7_takes_pa tx ln pa 115)) 61) = 0 then (sp_X7_takes_pa tx ln (stp tx ln (sp_X7_takes_pa tx ln pa 115)) 61) else (sp_X7_readsNumber_pa tx ln (sp_X7_takes_pa tx ln (stp tx ln (sp_X7_takes_pa tx ln pa 115)) 61) (if (sp_X7_sign tx ln pa) = 115 then (100 : Int32) else 25)))) (sp_X7_sign tx ln pa) ((sp_X7_sign tx ln (sp_X7_takes_pa tx ln pa 115)) - 48) (if (sp_X7_in ((sp_X7_sign tx ln (sp_X7_takes_pa tx ln pa 115)) - 48) 0 3) = 0 then nu else (if (sp_X7_takes tx ln (stp tx ln (sp_X7_takes_pa tx ln pa 115)) 61) = 0 then nu else (sp_X7_readsNumber_nu tx ln (sp_X7_takes_pa tx ln (stp tx ln (sp_X7_takes_pa tx ln pa 115)) 61) nu (if (sp_X7_sign tx ln pa) = 115 then (100 : Int32) else 25)))) h)) (by first | (simp only [if_neg h4, if_neg h5, if_pos h8]; done) | (simp only [if_neg h4, if_neg h5, if_pos h8]; rfl)) ?_
            exact K5
          · refine x_iconst C 1 (by decide) dX7_readsCommand_99 ?_
            refine x_goto C 104 (by decide) dX7_readsCommand_100 ?_
            refine x_st (st' := [.int (if (sp_X7_in ((sp_X7_sign tx ln (sp_X7_takes_pa tx ln pa 115)) - 48) 0 3) = 0 then (0 : Int32) else (if (sp_X7_takes tx ln (stp tx ln (sp_X7_takes_pa tx ln pa 115)) 61) = 0 then (0 : Int32) else (if (sp_X7_readsNumber tx ln (sp_X7_takes_pa tx ln (stp tx ln (sp_X7_takes_pa tx ln pa 115)) 61)) = 0 then (0 : Int32) else 1)))]) (by simp only [if_neg h4, if_neg h5, if_neg h8]) ?_
            refine x_ws (ws' := (wMo g am s fi tx dm th sa ln (if (sp_X7_in ((sp_X7_sign tx ln (sp_X7_takes_pa tx ln pa 115)) - 48) 0 3) = 0 then (stp tx ln (sp_X7_takes_pa tx ln pa 115)) else (if (sp_X7_takes tx ln (stp tx ln (sp_X7_takes_pa tx ln pa 115)) 61) = 0 then (sp_X7_takes_pa tx ln (stp tx ln (sp_X7_takes_pa tx ln pa 115)) 61) else (sp_X7_readsNumber_pa tx ln (sp_X7_takes_pa tx ln (stp tx ln (sp_X7_takes_pa tx ln pa 115)) 61) (if (sp_X7_sign tx ln pa) = 115 then (100 : Int32) else 25)))) (sp_X7_sign tx ln pa) ((sp_X7_sign tx ln (sp_X7_takes_pa tx ln pa 115)) - 48) (if (sp_X7_in ((sp_X7_sign tx ln (sp_X7_takes_pa tx ln pa 115)) - 48) 0 3) = 0 then nu else (if (sp_X7_takes tx ln (stp tx ln (sp_X7_takes_pa tx ln pa 115)) 61) = 0 then nu else (sp_X7_readsNumber_nu tx ln (sp_X7_takes_pa tx ln (stp tx ln (sp_X7_takes_pa tx ln pa 115)) 61) nu (if (sp_X7_sign tx ln pa) = 115 then (100 : Int32) else 25)))) h)) (by first | (simp only [if_neg h4, if_neg h5, if_neg h8]; done) | (simp only [if_neg h4, if_neg h5, if_neg h8]; rfl)) ?_
            exact K5
    exact x_zret C hr (xnz (bool_ite (Or.inl rfl) (bool_ite (Or.inl rfl) (bool_ite (Or.inl rfl) (Or.inr rfl))))) (nle rfl) (nle rfl) dX7_readsCommand_104 ⟨(by first | (simp only [sp_X7_readsCommand, if_neg h1]; done) | (simp only [sp_X7_readsCommand, if_neg h1]; rfl)), (by first | (simp only [sp_X7_readsCommand_pa, sp_X7_readsCommand_le, sp_X7_readsCommand_sk, sp_X7_readsCommand_nu, if_neg h1]; done) | (simp only [sp_X7_readsCommand_pa, sp_X7_readsCommand_le, sp_X7_readsCommand_sk, sp_X7_readsCommand_nu, if_neg h1]; rfl))⟩
  · refine x_aload_n C 0 rfl rfl dX7_readsCommand_17 ?_
    refine x_bipush C 116 (by decide) dX7_readsCommand_18 ?_
    refine x_FV (w1 := ([] : va_W)) (wc := (wMo g am s fi tx dm th sa ln (sp_X7_takes_pa tx ln pa 115) (sp_X7_sign tx ln pa) sk nu h)) (w2 := ([] : va_W)) [.int 116] [] (wMo g am s fi tx dm th sa ln (sp_X7_takes_pa tx ln (sp_X7_takes_pa tx ln pa 115) 116) (sp_X7_sign tx ln pa) sk nu h) C (k_X7_takes l g am s fi tx dm th sa ln (sp_X7_takes_pa tx ln pa 115) (sp_X7_sign tx ln pa) sk nu h 116 (takes_ok (cc := 115) hpk (by decide))) rfl yV_X7_takes wML_X7_140 rfl 0 rfl rfl rfl rfl (nle rfl) (nle rfl) (nle rfl) (nle rfl) (nle rfl) dX7_readsCommand_20 ?_
    refine x_if_eq C 105 (by decide) dX7_readsCommand_23 (fun h10 => ?_) (fun h10 => ?_)
    · refine x_aload_n C 0 rfl rfl dX7_readsCommand_105 ?_
      refine x_bipush C 102 (by decide) dX7_readsCommand_106 ?_
      refine x_FV (w1 := ([] : va_W)) (wc := (wMo g am s fi tx dm th sa ln (sp_X7_takes_pa tx ln (sp_X7_takes_pa tx ln pa 115) 116) (sp_X7_sign tx ln pa) sk nu h)) (w2 := ([] : va_W)) [.int 102] [] (wMo g am s fi tx dm th sa ln (sp_X7_takes_pa tx ln (sp_X7_takes_pa tx ln (sp_X7_takes_pa tx ln pa 115) 116) 102) (sp_X7_sign tx ln pa) sk nu h) C (k_X7_takes l g am s fi tx dm th sa ln (sp_X7_takes_pa tx ln (sp_X7_takes_pa tx ln pa 115) 116) (sp_X7_sign tx ln pa) sk nu h 102 (takes_ok (cc := 116) (takes_ok (cc := 115) hpk (by decide)) (by decide))) rfl yV_X7_takes wML_X7_140 rfl 0 rfl rfl rfl rfl (nle rfl) (nle rfl) (nle rfl) (nle rfl) (nle rfl) dX7_readsCommand_108 ?_
      refine x_if_ne C 123 (by decide) dX7_readsCommand_111 (fun h11 => ?_) (fun h11 => ?_)
      · refine x_aload_n C 0 rfl rfl dX7_readsCommand_123 ?_
        refine x_iconst C 1 (by decide) dX7_readsCommand_124 ?_
        refine x_bipush C 50 (by decide) dX7_readsCommand_125 ?_
        refine x_FV (w1 := ([] : va_W)) (wc := (wMo g am s fi tx dm th sa ln (sp_X7_takes_pa tx ln (sp_X7_takes_pa tx ln (sp_X7_takes_pa tx ln pa 115) 116) 102) (sp_X7_sign tx ln pa) sk nu h)) (w2 := ([] : va_W)) [.int 1, .int 50] [] (wMo g am s fi tx dm th sa ln (sp_X7_readsDigits_pa tx ln (sp_X7_takes_pa tx ln (sp_X7_takes_pa tx ln (sp_X7_takes_pa tx ln pa 115) 116) 102) 1 50) (sp_X7_sign tx ln pa) sk (sp_X7_readsDigits_nu tx ln (sp_X7_takes_pa tx ln (sp_X7_takes_pa tx ln (sp_X7_takes_pa tx ln pa 115) 116) 102) nu 1 50) h) C (k_X7_readsDigits l g am s fi tx dm th sa ln (sp_X7_takes_pa tx ln (sp_X7_takes_pa tx ln (sp_X7_takes_pa tx ln pa 115) 116) 102) (sp_X7_sign tx ln pa) sk nu h 1 50 (takes_ok (cc := 102) (takes_ok (cc := 116) (takes_ok (cc := 115) hpk (by decide)) (by decide)) (by decide)) (by decide)) rfl yV_X7_readsDigits wML_X7_143 rfl 0 rfl rfl rfl rfl (nle rfl) (nle rfl) (nle rfl) (nle rfl) (nle rfl) dX7_readsCommand_127 ?_
        exact x_zret C hr (xnz (spb_X7_readsDigits tx ln (sp_X7_takes_pa tx ln (sp_X7_takes_pa tx ln (sp_X7_takes_pa tx ln pa 115) 116) 102) 1)) (nle rfl) (nle rfl) dX7_readsCommand_130 ⟨(by first | (simp only [sp_X7_readsCommand, if_pos h1, if_pos h10, if_neg h11]; done) | (simp only [sp_X7_readsCommand, if_pos h1, if_pos h10, if_neg h11]; rfl)), (by first | (simp only [sp_X7_readsCommand_pa, sp_X7_readsCommand_le, sp_X7_readsCommand_sk, sp_X7_readsCommand_nu, if_pos h1, if_pos h10, if_neg h11]; done) | (simp only [sp_X7_readsCommand_pa, sp_X7_readsCommand_le, sp_X7_readsCommand_sk, sp_X7_readsCommand_nu, if_pos h1, if_pos h10, if_neg h11]; rfl))⟩
      · refine x_aload_n C 0 rfl rfl dX7_readsCommand_114 ?_
        refine x_bipush C 108 (by decide) dX7_readsCommand_115 ?_
        refine x_FV (w1 := ([] : va_W)) (wc := (wMo g am s fi tx dm th sa ln (sp_X7_takes_pa tx ln (sp_X7_takes_pa tx ln (sp_X7_takes_pa tx ln pa 115) 116) 102) (sp_X7_sign tx ln pa) sk nu h)) (w2 := ([] : va_W)) [.int 108] [] (wMo g am s fi tx dm th sa ln (sp_X7_takes_pa tx ln (sp_X7_takes_pa tx ln (sp_X7_takes_pa tx ln (sp_X7_takes_pa tx ln pa 115) 116) 102) 108) (sp_X7_sign tx ln pa) sk nu h) C (k_X7_takes l g am s fi tx dm th sa ln (sp_X7_takes_pa tx ln (sp_X7_takes_pa tx ln (sp_X7_takes_pa tx ln pa 115) 116) 102) (sp_X7_sign tx ln pa) sk nu h 108 (takes_ok (cc := 102) (takes_ok (cc := 116) (takes_ok (cc := 115) hpk (by decide)) (by decide)) (by decide))) rfl yV_X7_takes wML_X7_140 rfl 0 rfl rfl rfl rfl (nle rfl) (nle rfl) (nle rfl) (nle rfl) (nle rfl) dX7_readsCommand_117 ?_
        refine x_if_eq C 131 (by decide) dX7_readsCommand_120 (fun h12 => ?_) (fun h12 => ?_)
        · refine x_aload_n C 0 rfl rfl dX7_readsCommand_131 ?_
          refine x_bipush C 114 (by decide) dX7_readsCommand_132 ?_
          refine x_FV (w1 := ([] : va_W)) (wc := (wMo g am s fi tx dm th sa ln (sp_X7_takes_pa tx ln (sp_X7_takes_pa tx ln (sp_X7_takes_pa tx ln (sp_X7_takes_pa tx ln pa 115) 116) 102) 108) (sp_X7_sign tx ln pa) sk nu h)) (w2 := ([] : va_W)) [.int 114] [] (wMo g am s fi tx dm th sa ln (sp_X7_takes_pa tx ln (sp_X7_takes_pa tx ln (sp_X7_takes_pa tx ln (sp_X7_takes_pa tx ln (sp_X7_takes_pa tx ln pa 115) 116) 102) 108) 114) (sp_X7_sign tx ln pa) sk nu h) C (k_X7_takes l g am s fi tx dm th sa ln (sp_X7_takes_pa tx ln (sp_X7_takes_pa tx ln (sp_X7_takes_pa tx ln (sp_X7_takes_pa tx ln pa 115) 116) 102) 108) (sp_X7_sign tx ln pa) sk nu h 114 (takes_ok (cc := 108) (takes_ok (cc := 102) (takes_ok (cc := 116) (takes_ok (cc := 115) hpk (by decide)) (by decide)) (by decide)) (by decide))) rfl yV_X7_takes wML_X7_140 rfl 0 rfl rfl rfl rfl (nle rfl) (nle rfl) (nle rfl) (nle rfl) (nle rfl) dX7_readsCommand_134 ?_
          suffices K14 : xW p l e _ σ m args below meth c g.1 A 2 0 0 _ (wMo g am s fi tx dm th sa ln (if (sp_X7_takes tx ln (sp_X7_takes_pa tx ln (sp_X7_takes_pa tx ln (sp_X7_takes_pa tx ln (sp_X7_takes_pa tx ln pa 115) 116) 102) 108) 114) = 0 then (sp_X7_takes_pa tx ln (sp_X7_takes_pa tx ln (sp_X7_takes_pa tx ln (sp_X7_takes_pa tx ln (sp_X7_takes_pa tx ln (sp_X7_takes_pa tx ln pa 115) 116) 102) 108) 114) 99) else (sp_X7_takes_pa tx ln (sp_X7_takes_pa tx ln (sp_X7_takes_pa tx ln (sp_X7_takes_pa tx ln (sp_X7_takes_pa tx ln pa 115) 116) 102) 108) 114)) (sp_X7_sign tx ln pa) sk nu h) [(0, .ref (am 0))] 154 [.int (if (sp_X7_takes tx ln (sp_X7_takes_pa tx ln (sp_X7_takes_pa tx ln (sp_X7_takes_pa tx ln (sp_X7_takes_pa tx ln pa 115) 116) 102) 108) 114) = 0 then (if (sp_X7_takes tx ln (sp_X7_takes_pa tx ln (sp_X7_takes_pa tx ln (sp_X7_takes_pa tx ln (sp_X7_takes_pa tx ln (sp_X7_takes_pa tx ln pa 115) 116) 102) 108) 114) 99) = 0 then (0 : Int32) else 1) else 1)] by
            refine x_if_ne C 149 (by decide) dX7_readsCommand_137 (fun h13 => ?_) (fun h13 => ?_)
            · refine x_iconst C 1 (by decide) dX7_readsCommand_149 ?_
              refine x_goto C 154 (by decide) dX7_readsCommand_150 ?_
              refine x_st (st' := [.int (if (sp_X7_takes tx ln (sp_X7_takes_pa tx ln (sp_X7_takes_pa tx ln (sp_X7_takes_pa tx ln (sp_X7_takes_pa tx ln pa 115) 116) 102) 108) 114) = 0 then (if (sp_X7_takes tx ln (sp_X7_takes_pa tx ln (sp_X7_takes_pa tx ln (sp_X7_takes_pa tx ln (sp_X7_takes_pa tx ln (sp_X7_takes_pa tx ln pa 115) 116) 102) 108) 114) 99) = 0 then (0 : Int32) else 1) else 1)]) (by simp only [if_neg h13]) ?_
              refine x_ws (ws' := (wMo g am s fi tx dm th sa ln (if (sp_X7_takes tx ln (sp_X7_takes_pa tx ln (sp_X7_takes_pa tx ln (sp_X7_takes_pa tx ln (sp_X7_takes_pa tx ln pa 115) 116) 102) 108) 114) = 0 then (sp_X7_takes_pa tx ln (sp_X7_takes_pa tx ln (sp_X7_takes_pa tx ln (sp_X7_takes_pa tx ln (sp_X7_takes_pa tx ln (sp_X7_takes_pa tx ln pa 115) 116) 102) 108) 114) 99) else (sp_X7_takes_pa tx ln (sp_X7_takes_pa tx ln (sp_X7_takes_pa tx ln (sp_X7_takes_pa tx ln (sp_X7_takes_pa tx ln pa 115) 116) 102) 108) 114)) (sp_X7_sign tx ln pa) sk nu h)) (by first | (simp only [if_neg h13]; done) | (simp only [if_neg h13]; rfl)) ?_
              exact K14
            · refine x_aload_n C 0 rfl rfl dX7_readsCommand_140 ?_
              refine x_bipush C 99 (by decide) dX7_readsCommand_141 ?_
              refine x_FV (w1 := ([] : va_W)) (wc := (wMo g am s fi tx dm th sa ln (sp_X7_takes_pa tx ln (sp_X7_takes_pa tx ln (sp_X7_takes_pa tx ln (sp_X7_takes_pa tx ln (sp_X7_takes_pa tx ln pa 115) 116) 102) 108) 114) (sp_X7_sign tx ln pa) sk nu h)) (w2 := ([] : va_W)) [.int 99] [] (wMo g am s fi tx dm th sa ln (sp_X7_takes_pa tx ln (sp_X7_takes_pa tx ln (sp_X7_takes_pa tx ln (sp_X7_takes_pa tx ln (sp_X7_takes_pa tx ln (sp_X7_takes_pa tx ln pa 115) 116) 102) 108) 114) 99) (sp_X7_sign tx ln pa) sk nu h) C (k_X7_takes l g am s fi tx dm th sa ln (sp_X7_takes_pa tx ln (sp_X7_takes_pa tx ln (sp_X7_takes_pa tx ln (sp_X7_takes_pa tx ln (sp_X7_takes_pa tx ln pa 115) 116) 102) 108) 114) (sp_X7_sign tx ln pa) sk nu h 99 (takes_ok (cc := 114) (takes_ok (cc := 108) (takes_ok (cc := 102) (takes_ok (cc := 116) (takes_ok (cc := 115) hpk (by decide)) (by decide)) (by decide)) (by decide)) (by decide))) rfl yV_X7_takes wML_X7_140 rfl 0 rfl rfl rfl rfl (nle rfl) (nle rfl) (nle rfl) (nle rfl) (nle rfl) dX7_readsCommand_143 ?_
              refine x_if_eq C 153 (by decide) dX7_readsCommand_146 (fun h14 => ?_) (fun h14 => ?_)
              · refine x_iconst C 0 (by decide) dX7_readsCommand_153 ?_
                refine x_st (st' := [.int (if (sp_X7_takes tx ln (sp_X7_takes_pa tx ln (sp_X7_takes_pa tx ln (sp_X7_takes_pa tx ln (sp_X7_takes_pa tx ln pa 115) 116) 102) 108) 114) = 0 then (if (sp_X7_takes tx ln (sp_X7_takes_pa tx ln (sp_X7_takes_pa tx ln (sp_X7_takes_pa tx ln (sp_X7_takes_pa tx ln (sp_X7_takes_pa tx ln pa 115) 116) 102) 108) 114) 99) = 0 then (0 : Int32) else 1) else 1)]) (by simp only [if_pos h13, if_pos h14]) ?_
                refine x_ws (ws' := (wMo g am s fi tx dm th sa ln (if (sp_X7_takes tx ln (sp_X7_takes_pa tx ln (sp_X7_takes_pa tx ln (sp_X7_takes_pa tx ln (sp_X7_takes_pa tx ln pa 115) 116) 102) 108) 114) = 0 then (sp_X7_takes_pa tx ln (sp_X7_takes_pa tx ln (sp_X7_takes_pa tx ln (sp_X7_takes_pa tx ln (sp_X7_takes_pa tx ln (sp_X7_takes_pa tx ln pa 115) 116) 102) 108) 114) 99) else (sp_X7_takes_pa tx ln (sp_X7_takes_pa tx ln (sp_X7_takes_pa tx ln (sp_X7_takes_pa tx ln (sp_X7_takes_pa tx ln pa 115) 116) 102) 108) 114)) (sp_X7_sign tx ln pa) sk nu h)) (by first | (simp only [if_pos h13, if_pos h14]; done) | (simp only [if_pos h13, if_pos h14]; rfl)) ?_
                exact K14
              · refine x_iconst C 1 (by decide) dX7_readsCommand_149 ?_
                refine x_goto C 154 (by decide) dX7_readsCommand_150 ?_
                refine x_st (st' := [.int (if (sp_X7_takes tx ln (sp_X7_takes_pa tx ln (sp_X7_takes_pa tx ln (sp_X7_takes_pa tx ln (sp_X7_takes_pa tx ln pa 115) 116) 102) 108) 114) = 0 then (if (sp_X7_takes tx ln (sp_X7_takes_pa tx ln (sp_X7_takes_pa tx ln (sp_X7_takes_pa tx ln (sp_X7_takes_pa tx ln (sp_X7_takes_pa tx ln pa 115) 116) 102) 108) 114) 99) = 0 then (0 : Int32) else 1) else 1)]) (by simp only [if_pos h13, if_neg h14]) ?_
                refine x_ws (ws' := (wMo g am s fi tx dm th sa ln (if (sp_X7_takes tx ln (sp_X7_takes_pa tx ln (sp_X7_takes_pa tx ln (sp_X7_takes_pa tx ln (sp_X7_takes_pa tx ln pa 115) 116) 102) 108) 114) = 0 then (sp_X7_takes_pa tx ln (sp_X7_takes_pa tx ln (sp_X7_takes_pa tx ln (sp_X7_takes_pa tx ln (sp_X7_takes_pa tx ln (sp_X7_takes_pa tx ln pa 115) 116) 102) 108) 114) 99) else (sp_X7_takes_pa tx ln (sp_X7_takes_pa tx ln (sp_X7_takes_pa tx ln (sp_X7_takes_pa tx ln (sp_X7_takes_pa tx ln pa 115) 116) 102) 108) 114)) (sp_X7_sign tx ln pa) sk nu h)) (by first | (simp only [if_pos h13, if_neg h14]; done) | (simp only [if_pos h13, if_neg h14]; rfl)) ?_
                exact K14
          exact x_zret C hr (xnz (bool_ite (bool_ite (Or.inl rfl) (Or.inr rfl)) (Or.inr rfl))) (nle rfl) (nle rfl) dX7_readsCommand_154 ⟨(by first | (simp only [sp_X7_readsCommand, if_pos h1, if_pos h10, if_pos h11, if_pos h12]; done) | (simp only [sp_X7_readsCommand, if_pos h1, if_pos h10, if_pos h11, if_pos h12]; rfl)), (by first | (simp only [sp_X7_readsCommand_pa, sp_X7_readsCommand_le, sp_X7_readsCommand_sk, sp_X7_readsCommand_nu, if_pos h1, if_pos h10, if_pos h11, if_pos h12]; done) | (simp only [sp_X7_readsCommand_pa, sp_X7_readsCommand_le, sp_X7_readsCommand_sk, sp_X7_readsCommand_nu, if_pos h1, if_pos h10, if_pos h11, if_pos h12]; rfl))⟩
        · refine x_aload_n C 0 rfl rfl dX7_readsCommand_123 ?_
          refine x_iconst C 1 (by decide) dX7_readsCommand_124 ?_
          refine x_bipush C 50 (by decide) dX7_readsCommand_125 ?_
          refine x_FV (w1 := ([] : va_W)) (wc := (wMo g am s fi tx dm th sa ln (sp_X7_takes_pa tx ln (sp_X7_takes_pa tx ln (sp_X7_takes_pa tx ln (sp_X7_takes_pa tx ln pa 115) 116) 102) 108) (sp_X7_sign tx ln pa) sk nu h)) (w2 := ([] : va_W)) [.int 1, .int 50] [] (wMo g am s fi tx dm th sa ln (sp_X7_readsDigits_pa tx ln (sp_X7_takes_pa tx ln (sp_X7_takes_pa tx ln (sp_X7_takes_pa tx ln (sp_X7_takes_pa tx ln pa 115) 116) 102) 108) 1 50) (sp_X7_sign tx ln pa) sk (sp_X7_readsDigits_nu tx ln (sp_X7_takes_pa tx ln (sp_X7_takes_pa tx ln (sp_X7_takes_pa tx ln (sp_X7_takes_pa tx ln pa 115) 116) 102) 108) nu 1 50) h) C (k_X7_readsDigits l g am s fi tx dm th sa ln (sp_X7_takes_pa tx ln (sp_X7_takes_pa tx ln (sp_X7_takes_pa tx ln (sp_X7_takes_pa tx ln pa 115) 116) 102) 108) (sp_X7_sign tx ln pa) sk nu h 1 50 (takes_ok (cc := 108) (takes_ok (cc := 102) (takes_ok (cc := 116) (takes_ok (cc := 115) hpk (by decide)) (by decide)) (by decide)) (by decide)) (by decide)) rfl yV_X7_readsDigits wML_X7_143 rfl 0 rfl rfl rfl rfl (nle rfl) (nle rfl) (nle rfl) (nle rfl) (nle rfl) dX7_readsCommand_127 ?_
          exact x_zret C hr (xnz (spb_X7_readsDigits tx ln (sp_X7_takes_pa tx ln (sp_X7_takes_pa tx ln (sp_X7_takes_pa tx ln (sp_X7_takes_pa tx ln pa 115) 116) 102) 108) 1)) (nle rfl) (nle rfl) dX7_readsCommand_130 ⟨(by first | (simp only [sp_X7_readsCommand, if_pos h1, if_pos h10, if_pos h11, if_neg h12]; done) | (simp only [sp_X7_readsCommand, if_pos h1, if_pos h10, if_pos h11, if_neg h12]; rfl)), (by first | (simp only [sp_X7_readsCommand_pa, sp_X7_readsCommand_le, sp_X7_readsCommand_sk, sp_X7_readsCommand_nu, if_pos h1, if_pos h10, if_pos h11, if_neg h12]; done) | (simp only [sp_X7_readsCommand_pa, sp_X7_readsCommand_le, sp_X7_readsCommand_sk, sp_X7_readsCommand_nu, if_pos h1, if_pos h10, if_pos h11, if_neg h12]; rfl))⟩
    · refine x_aload_n C 0 rfl rfl dX7_readsCommand_26 ?_
      refine x_aload_n C 0 rfl rfl dX7_readsCommand_27 ?_
      refine x_FV (w1 := ([] : va_W)) (wc := (wMo g am s fi tx dm th sa ln (sp_X7_takes_pa tx ln (sp_X7_takes_pa tx ln pa 115) 116) (sp_X7_sign tx ln pa) sk nu h)) (w2 := ([] : va_W)) [] [.ref (am 0)] (wMo g am s fi tx dm th sa ln (sp_X7_takes_pa tx ln (sp_X7_takes_pa tx ln pa 115) 116) (sp_X7_sign tx ln pa) sk nu h) C (k_X7_sign l g am s fi tx dm th sa ln (sp_X7_takes_pa tx ln (sp_X7_takes_pa tx ln pa 115) 116) (sp_X7_sign tx ln pa) sk nu h (takes_ok (cc := 116) (takes_ok (cc := 115) hpk (by decide)) (by decide))) rfl yV_X7_sign wML_X7_133 rfl 0 rfl rfl rfl rfl (nle rfl) (nle rfl) (nle rfl) (nle rfl) (nle rfl) dX7_readsCommand_28 ?_
      refine x_bipush C 48 (by decide) dX7_readsCommand_31 ?_
      refine x_isub C dX7_readsCommand_33 ?_
      refine x_put C 0 7 8 tyX7 (wMo g am s fi tx dm th sa ln (sp_X7_takes_pa tx ln (sp_X7_takes_pa tx ln pa 115) 116) (sp_X7_sign tx ln pa) ((sp_X7_sign tx ln (sp_X7_takes_pa tx ln (sp_X7_takes_pa tx ln pa 115) 116)) - 48) nu h) rfl rfl rfl wLy_X7 tyX7_ok nmX7 wFL_X7_149 rfl (by decide) rfl rfl rfl rfl (nlt rfl) dX7_readsCommand_34 ?_
      refine x_aload_n C 0 rfl rfl dX7_readsCommand_37 ?_
      refine x_get C 0 7 8 rfl rfl wLy_X7 wFL_X7_149 rfl (by decide) rfl dX7_readsCommand_38 ?_
      refine x_FS (w1 := ([] : va_W)) (wc := ([] : va_W)) (w2 := (wMo g am s fi tx dm th sa ln (sp_X7_takes_pa tx ln (sp_X7_takes_pa tx ln pa 115) 116) (sp_X7_sign tx ln pa) ((sp_X7_sign tx ln (sp_X7_takes_pa tx ln (sp_X7_takes_pa tx ln pa 115) 116)) - 48) nu h)) [.int ((sp_X7_sign tx ln (sp_X7_takes_pa tx ln (sp_X7_takes_pa tx ln pa 115) 116)) - 48)] [] (wMo g am s fi tx dm th sa ln (sp_X7_takes_pa tx ln (sp_X7_takes_pa tx ln pa 115) 116) (sp_X7_sign tx ln pa) ((sp_X7_sign tx ln (sp_X7_takes_pa tx ln (sp_X7_takes_pa tx ln pa 115) 116)) - 48) nu h) C (k_X7_isStick l g ((sp_X7_sign tx ln (sp_X7_takes_pa tx ln (sp_X7_takes_pa tx ln pa 115) 116)) - 48)) rfl yS_X7_isStick wML_X7_95 rfl rfl rfl (nle rfl) (nle rfl) (nle rfl) (nle rfl) (nle rfl) dX7_readsCommand_41 ?_
      refine x_istore_n C [(1, .int (sp_X7_in ((sp_X7_sign tx ln (sp_X7_takes_pa tx ln (sp_X7_takes_pa tx ln pa 115) 116)) - 48) 0 3)), (0, .ref (am 0))] rfl rfl (by decide) dX7_readsCommand_44 ?_
      refine x_aload_n C 1 rfl rfl dX7_readsCommand_45 ?_
      refine x_dup C rfl dX7_readsCommand_46 ?_
      refine x_get C 0 7 6 rfl rfl wLy_X7 wFL_X7_130 rfl (by decide) rfl dX7_readsCommand_47 ?_
      refine x_iload_n C 0 rfl rfl dX7_readsCommand_50 ?_
      suffices K17 : xW p l e _ σ m args below meth c g.1 A 2 0 0 _ (wMo g am s fi tx dm th sa ln (sp_X7_takes_pa tx ln (sp_X7_takes_pa tx ln pa 115) 116) (sp_X7_sign tx ln pa) ((sp_X7_sign tx ln (sp_X7_takes_pa tx ln (sp_X7_takes_pa tx ln pa 115) 116)) - 48) nu h) [(1, .int (sp_X7_in ((sp_X7_sign tx ln (sp_X7_takes_pa tx ln (sp_X7_takes_pa tx ln pa 115) 116)) - 48) 0 3)), (0, .ref (am 0))] 59 [.int (if (sp_X7_in ((sp_X7_sign tx ln (sp_X7_takes_pa tx ln (sp_X7_takes_pa tx ln pa 115) 116)) - 48) 0 3) = 0 then (0 : Int32) else 1), .int (sp_X7_takes_pa tx ln (sp_X7_takes_pa tx ln pa 115) 116), .ref (am 0)] by
        refine x_if_eq C 58 (by decide) dX7_readsCommand_51 (fun h16 => ?_) (fun h16 => ?_)
        · refine x_iconst C 0 (by decide) dX7_readsCommand_58 ?_
          refine x_st (st' := [.int (if (sp_X7_in ((sp_X7_sign tx ln (sp_X7_takes_pa tx ln (sp_X7_takes_pa tx ln pa 115) 116)) - 48) 0 3) = 0 then (0 : Int32) else 1), .int (sp_X7_takes_pa tx ln (sp_X7_takes_pa tx ln pa 115) 116), .ref (am 0)]) (by simp only [if_pos h16]) ?_
          exact K17
        · refine x_iconst C 1 (by decide) dX7_readsCommand_54 ?_
          refine x_goto C 59 (by decide) dX7_readsCommand_55 ?_
          refine x_st (st' := [.int (if (sp_X7_in ((sp_X7_sign tx ln (sp_X7_takes_pa tx ln (sp_X7_takes_pa tx ln pa 115) 116)) - 48) 0 3) = 0 then (0 : Int32) else 1), .int (sp_X7_takes_pa tx ln (sp_X7_takes_pa tx ln pa 115) 116), .ref (am 0)]) (by simp only [if_neg h16]) ?_
          exact K17
      refine x_iadd C dX7_readsCommand_59 ?_
      refine x_put C 0 7 6 tyX7 (wMo g am s fi tx dm th sa ln ((sp_X7_takes_pa tx ln (sp_X7_takes_pa tx ln pa 115) 116) + (if (sp_X7_in ((sp_X7_sign tx ln (sp_X7_takes_pa tx ln (sp_X7_takes_pa tx ln pa 115) 116)) - 48) 0 3) = 0 then (0 : Int32) else 1)) (sp_X7_sign tx ln pa) ((sp_X7_sign tx ln (sp_X7_takes_pa tx ln (sp_X7_takes_pa tx ln pa 115) 116)) - 48) nu h) rfl rfl rfl wLy_X7 tyX7_ok nmX7 wFL_X7_130 rfl (by decide) rfl rfl rfl rfl (nlt rfl) dX7_readsCommand_60 ?_
      refine x_ws (ws' := (wMo g am s fi tx dm th sa ln (stp tx ln (sp_X7_takes_pa tx ln (sp_X7_takes_pa tx ln pa 115) 116)) (sp_X7_sign tx ln pa) ((sp_X7_sign tx ln (sp_X7_takes_pa tx ln (sp_X7_takes_pa tx ln pa 115) 116)) - 48) nu h)) rfl ?_
      refine x_iload_n C 0 rfl rfl dX7_readsCommand_63 ?_
      suffices K19 : xW p l e _ σ m args below meth c g.1 A 2 0 0 _ (wMo g am s fi tx dm th sa ln (if (sp_X7_in ((sp_X7_sign tx ln (sp_X7_takes_pa tx ln (sp_X7_takes_pa tx ln pa 115) 116)) - 48) 0 3) = 0 then (stp tx ln (sp_X7_takes_pa tx ln (sp_X7_takes_pa tx ln pa 115) 116)) else (if (sp_X7_takes tx ln (stp tx ln (sp_X7_takes_pa tx ln (sp_X7_takes_pa tx ln pa 115) 116)) 61) = 0 then (sp_X7_takes_pa tx ln (stp tx ln (sp_X7_takes_pa tx ln (sp_X7_takes_pa tx ln pa 115) 116)) 61) else (sp_X7_readsNumber_pa tx ln (sp_X7_takes_pa tx ln (stp tx ln (sp_X7_takes_pa tx ln (sp_X7_takes_pa tx ln pa 115) 116)) 61) (if (sp_X7_sign tx ln pa) = 115 then (100 : Int32) else 25)))) (sp_X7_sign tx ln pa) ((sp_X7_sign tx ln (sp_X7_takes_pa tx ln (sp_X7_takes_pa tx ln pa 115) 116)) - 48) (if (sp_X7_in ((sp_X7_sign tx ln (sp_X7_takes_pa tx ln (sp_X7_takes_pa tx ln pa 115) 116)) - 48) 0 3) = 0 then nu else (if (sp_X7_takes tx ln (stp tx ln (sp_X7_takes_pa tx ln (sp_X7_takes_pa tx ln pa 115) 116)) 61) = 0 then nu else (sp_X7_readsNumber_nu tx ln (sp_X7_takes_pa tx ln (stp tx ln (sp_X7_takes_pa tx ln (sp_X7_takes_pa tx ln pa 115) 116)) 61) nu (if (sp_X7_sign tx ln pa) = 115 then (100 : Int32) else 25)))) h) [(1, .int (sp_X7_in ((sp_X7_sign tx ln (sp_X7_takes_pa tx ln (sp_X7_takes_pa tx ln pa 115) 116)) - 48) 0 3)), (0, .ref (am 0))] 104 [.int (if (sp_X7_in ((sp_X7_sign tx ln (sp_X7_takes_pa tx ln (sp_X7_takes_pa tx ln pa 115) 116)) - 48) 0 3) = 0 then (0 : Int32) else (if (sp_X7_takes tx ln (stp tx ln (sp_X7_takes_pa tx ln (sp_X7_takes_pa tx ln pa 115) 116)) 61) = 0 then (0 : Int32) else (if (sp_X7_readsNumber tx ln (sp_X7_takes_pa tx ln (stp tx ln (sp_X7_takes_pa tx ln (sp_X7_takes_pa tx ln pa 115) 116)) 61)) = 0 then (0 : Int32) else 1)))] by
        refine x_if_eq C 103 (by decide) dX7_readsCommand_64 (fun h18 => ?_) (fun h18 => ?_)
        · refine x_iconst C 0 (by decide) dX7_readsCommand_103 ?_
          refine x_st (st' := [.int (if (sp_X7_in ((sp_X7_sign tx ln (sp_X7_takes_pa tx ln (sp_X7_takes_pa tx ln pa 115) 116)) - 48) 0 3) = 0 then (0 : Int32) else (if (sp_X7_takes tx ln (stp tx ln (sp_X7_takes_pa tx ln (sp_X7_takes_pa tx ln pa 115) 116)) 61) = 0 then (0 : Int32) else (if (sp_X7_readsNumber tx ln (sp_X7_takes_pa tx ln (stp tx ln (sp_X7_takes_pa tx ln (sp_X7_takes_pa tx ln pa 115) 116)) 61)) = 0 then (0 : Int32) else 1)))]) (by simp only [if_pos h18]) ?_
          refine x_ws (ws' := (wMo g am s fi tx dm th sa ln (if (sp_X7_in ((sp_X7_sign tx ln (sp_X7_takes_pa tx ln (sp_X7_takes_pa tx ln pa 115) 116)) - 48) 0 3) = 0 then (stp tx ln (sp_X7_takes_pa tx ln (sp_X7_takes_pa tx ln pa 115) 116)) else (if (sp_X7_takes tx ln (stp tx ln (sp_X7_takes_pa tx ln (sp_X7_takes_pa tx ln pa 115) 116)) 61) = 0 then (sp_X7_takes_pa tx ln (stp tx ln (sp_X7_takes_pa tx ln (sp_X7_takes_pa tx ln pa 115) 116)) 61) else (sp_X7_readsNumber_pa tx ln (sp_X7_takes_pa tx ln (stp tx ln (sp_X7_takes_pa tx ln (sp_X7_takes_pa tx ln pa 115) 116)) 61) (if (sp_X7_sign tx ln pa) = 115 then (100 : Int32) else 25)))) (sp_X7_sign tx ln pa) ((sp_X7_sign tx ln (sp_X7_takes_pa tx ln (sp_X7_takes_pa tx ln pa 115) 116)) - 48) (if (sp_X7_in ((sp_X7_sign tx ln (sp_X7_takes_pa tx ln (sp_X7_takes_pa tx ln pa 115) 116)) - 48) 0 3) = 0 then nu else (if (sp_X7_takes tx ln (stp tx ln (sp_X7_takes_pa tx ln (sp_X7_takes_pa tx ln pa 115) 116)) 61) = 0 then nu else (sp_X7_readsNumber_nu tx ln (sp_X7_takes_pa tx ln (stp tx ln (sp_X7_takes_pa tx ln (sp_X7_takes_pa tx ln pa 115) 116)) 61) nu (if (sp_X7_sign tx ln pa) = 115 then (100 : Int32) else 25)))) h)) (by first | (simp only [if_pos h18]; done) | (simp only [if_pos h18]; rfl)) ?_
          exact K19
        · refine x_aload_n C 1 rfl rfl dX7_readsCommand_67 ?_
          refine x_bipush C 61 (by decide) dX7_readsCommand_68 ?_
          refine x_FV (w1 := ([] : va_W)) (wc := (wMo g am s fi tx dm th sa ln (stp tx ln (sp_X7_takes_pa tx ln (sp_X7_takes_pa tx ln pa 115) 116)) (sp_X7_sign tx ln pa) ((sp_X7_sign tx ln (sp_X7_takes_pa tx ln (sp_X7_takes_pa tx ln pa 115) 116)) - 48) nu h)) (w2 := ([] : va_W)) [.int 61] [] (wMo g am s fi tx dm th sa ln (sp_X7_takes_pa tx ln (stp tx ln (sp_X7_takes_pa tx ln (sp_X7_takes_pa tx ln pa 115) 116)) 61) (sp_X7_sign tx ln pa) ((sp_X7_sign tx ln (sp_X7_takes_pa tx ln (sp_X7_takes_pa tx ln pa 115) 116)) - 48) nu h) C (k_X7_takes l g am s fi tx dm th sa ln (stp tx ln (sp_X7_takes_pa tx ln (sp_X7_takes_pa tx ln pa 115) 116)) (sp_X7_sign tx ln pa) ((sp_X7_sign tx ln (sp_X7_takes_pa tx ln (sp_X7_takes_pa tx ln pa 115) 116)) - 48) nu h 61 (pa_st (takes_ok (cc := 116) (takes_ok (cc := 115) hpk (by decide)) (by decide))).1) rfl yV_X7_takes wML_X7_140 rfl 0 rfl rfl rfl rfl (nle rfl) (nle rfl) (nle rfl) (nle rfl) (nle rfl) dX7_readsCommand_70 ?_
          refine x_if_eq C 103 (by decide) dX7_readsCommand_73 (fun h19 => ?_) (fun h19 => ?_)
          · refine x_iconst C 0 (by decide) dX7_readsCommand_103 ?_
            refine x_st (st' := [.int (if (sp_X7_in ((sp_X7_sign tx ln (sp_X7_takes_pa tx ln (sp_X7_takes_pa tx ln pa 115) 116)) - 48) 0 3) = 0 then (0 : Int32) else (if (sp_X7_takes tx ln (stp tx ln (sp_X7_takes_pa tx ln (sp_X7_takes_pa tx ln pa 115) 116)) 61) = 0 then (0 : Int32) else (if (sp_X7_readsNumber tx ln (sp_X7_takes_pa tx ln (stp tx ln (sp_X7_takes_pa tx ln (sp_X7_takes_pa tx ln pa 115) 116)) 61)) = 0 then (0 : Int32) else 1)))]) (by simp only [if_neg h18, if_pos h19]) ?_
            refine x_ws (ws' := (wMo g am s fi tx dm th sa ln (if (sp_X7_in ((sp_X7_sign tx ln (sp_X7_takes_pa tx ln (sp_X7_takes_pa tx ln pa 115) 116)) - 48) 0 3) = 0 then (stp tx ln (sp_X7_takes_pa tx ln (sp_X7_takes_pa tx ln pa 115) 116)) else (if (sp_X7_takes tx ln (stp tx ln (sp_X7_takes_pa tx ln (sp_X7_takes_pa tx ln pa 115) 116)) 61) = 0 then (sp_X7_takes_pa tx ln (stp tx ln (sp_X7_takes_pa tx ln (sp_X7_takes_pa tx ln pa 115) 116)) 61) else (sp_X7_readsNumber_pa tx ln (sp_X7_takes_pa tx ln (stp tx ln (sp_X7_takes_pa tx ln (sp_X7_takes_pa tx ln pa 115) 116)) 61) (if (sp_X7_sign tx ln pa) = 115 then (100 : Int32) else 25)))) (sp_X7_sign tx ln pa) ((sp_X7_sign tx ln (sp_X7_takes_pa tx ln (sp_X7_takes_pa tx ln pa 115) 116)) - 48) (if (sp_X7_in ((sp_X7_sign tx ln (sp_X7_takes_pa tx ln (sp_X7_takes_pa tx ln pa 115) 116)) - 48) 0 3) = 0 then nu else (if (sp_X7_takes tx ln (stp tx ln (sp_X7_takes_pa tx ln (sp_X7_takes_pa tx ln pa 115) 116)) 61) = 0 then nu else (sp_X7_readsNumber_nu tx ln (sp_X7_takes_pa tx ln (stp tx ln (sp_X7_takes_pa tx ln (sp_X7_takes_pa tx ln pa 115) 116)) 61) nu (if (sp_X7_sign tx ln pa) = 115 then (100 : Int32) else 25)))) h)) (by first | (simp only [if_neg h18, if_pos h19]; done) | (simp only [if_neg h18, if_pos h19]; rfl)) ?_
            exact K19
          · refine x_aload_n C 1 rfl rfl dX7_readsCommand_76 ?_
            refine x_aload_n C 1 rfl rfl dX7_readsCommand_77 ?_
            refine x_get C 0 7 7 rfl rfl wLy_X7 wFL_X7_146 rfl (by decide) rfl dX7_readsCommand_78 ?_
            refine x_bipush C 115 (by decide) dX7_readsCommand_81 ?_
            suffices K21 : xW p l e _ σ m args below meth c g.1 A 2 0 0 _ (wMo g am s fi tx dm th sa ln (sp_X7_takes_pa tx ln (stp tx ln (sp_X7_takes_pa tx ln (sp_X7_takes_pa tx ln pa 115) 116)) 61) (sp_X7_sign tx ln pa) ((sp_X7_sign tx ln (sp_X7_takes_pa tx ln (sp_X7_takes_pa tx ln pa 115) 116)) - 48) nu h) [(1, .int (sp_X7_in ((sp_X7_sign tx ln (sp_X7_takes_pa tx ln (sp_X7_takes_pa tx ln pa 115) 116)) - 48) 0 3)), (0, .ref (am 0))] 93 [.int (if (sp_X7_sign tx ln pa) = 115 then (100 : Int32) else 25), .ref (am 0)] by
              refine x_icmp_ne C 91 (by decide) dX7_readsCommand_83 (fun h20 => ?_) (fun h20 => ?_)
              · refine x_bipush C 25 (by decide) dX7_readsCommand_91 ?_
                refine x_st (st' := [.int (if (sp_X7_sign tx ln pa) = 115 then (100 : Int32) else 25), .ref (am 0)]) (by simp only [if_neg h20]) ?_
                exact K21
              · refine x_bipush C 100 (by decide) dX7_readsCommand_86 ?_
                refine x_goto C 93 (by decide) dX7_readsCommand_88 ?_
                refine x_st (st' := [.int (if (sp_X7_sign tx ln pa) = 115 then (100 : Int32) else 25), .ref (am 0)]) (by simp only [if_pos h20]) ?_
                exact K21
            refine x_FV (w1 := ([] : va_W)) (wc := (wMo g am s fi tx dm th sa ln (sp_X7_takes_pa tx ln (stp tx ln (sp_X7_takes_pa tx ln (sp_X7_takes_pa tx ln pa 115) 116)) 61) (sp_X7_sign tx ln pa) ((sp_X7_sign tx ln (sp_X7_takes_pa tx ln (sp_X7_takes_pa tx ln pa 115) 116)) - 48) nu h)) (w2 := ([] : va_W)) [.int (if (sp_X7_sign tx ln pa) = 115 then (100 : Int32) else 25)] [] (wMo g am s fi tx dm th sa ln (sp_X7_readsNumber_pa tx ln (sp_X7_takes_pa tx ln (stp tx ln (sp_X7_takes_pa tx ln (sp_X7_takes_pa tx ln pa 115) 116)) 61) (if (sp_X7_sign tx ln pa) = 115 then (100 : Int32) else 25)) (sp_X7_sign tx ln pa) ((sp_X7_sign tx ln (sp_X7_takes_pa tx ln (sp_X7_takes_pa tx ln pa 115) 116)) - 48) (sp_X7_readsNumber_nu tx ln (sp_X7_takes_pa tx ln (stp tx ln (sp_X7_takes_pa tx ln (sp_X7_takes_pa tx ln pa 115) 116)) 61) nu (if (sp_X7_sign tx ln pa) = 115 then (100 : Int32) else 25)) h) C (k_X7_readsNumber l g am s fi tx dm th sa ln (sp_X7_takes_pa tx ln (stp tx ln (sp_X7_takes_pa tx ln (sp_X7_takes_pa tx ln pa 115) 116)) 61) (sp_X7_sign tx ln pa) ((sp_X7_sign tx ln (sp_X7_takes_pa tx ln (sp_X7_takes_pa tx ln pa 115) 116)) - 48) nu h (if (sp_X7_sign tx ln pa) = 115 then (100 : Int32) else 25) (takes_ok (cc := 61) (pa_st (takes_ok (cc := 116) (takes_ok (cc := 115) hpk (by decide)) (by decide))).1 (by decide))) rfl yV_X7_readsNumber wML_X7_152 rfl 0 rfl rfl rfl rfl (nle rfl) (nle rfl) (nle rfl) (nle rfl) (nle rfl) dX7_readsCommand_93 ?_
            refine x_if_eq C 103 (by decide) dX7_readsCommand_96 (fun h22 => ?_) (fun h22 => ?_)
            · refine x_iconst C 0 (by decide) dX7_readsCommand_103 ?_
              refine x_st (st' := [.int (if (sp_X7_in ((sp_X7_sign tx ln (sp_X7_takes_pa tx ln (sp_X7_takes_pa tx ln pa 115) 116)) - 48) 0 3) = 0 then (0 : Int32) else (if (sp_X7_takes tx ln (stp tx ln (sp_X7_takes_pa tx ln (sp_X7_takes_pa tx ln pa 115) 116)) 61) = 0 then (0 : Int32) else (if (sp_X7_readsNumber tx ln (sp_X7_takes_pa tx ln (stp tx ln (sp_X7_takes_pa tx ln (sp_X7_takes_pa tx ln pa 115) 116)) 61)) = 0 then (0 : Int32) else 1)))]) (by simp only [if_neg h18, if_neg h19, if_pos h22]) ?_
              refine x_ws (ws' := (wMo g am s fi tx dm th sa ln (if (sp_X7_in ((sp_X7_sign tx ln (sp_X7_takes_pa tx ln (sp_X7_takes_pa tx ln pa 115) 116)) - 48) 0 3) = 0 then (stp tx ln (sp_X7_takes_pa tx ln (sp_X7_takes_pa tx ln pa 115) 116)) else (if (sp_X7_takes tx ln (stp tx ln (sp_X7_takes_pa tx ln (sp_X7_takes_pa tx ln pa 115) 116)) 61) = 0 then (sp_X7_takes_pa tx ln (stp tx ln (sp_X7_takes_pa tx ln (sp_X7_takes_pa tx ln pa 115) 116)) 61) else (sp_X7_readsNumber_pa tx ln (sp_X7_takes_pa tx ln (stp tx ln (sp_X7_takes_pa tx ln (sp_X7_takes_pa tx ln pa 115) 116)) 61) (if (sp_X7_sign tx ln pa) = 115 then (100 : Int32) else 25)))) (sp_X7_sign tx ln pa) ((sp_X7_sign tx ln (sp_X7_takes_pa tx ln (sp_X7_takes_pa tx ln pa 115) 116)) - 48) (if (sp_X7_in ((sp_X7_sign tx ln (sp_X7_takes_pa tx ln (sp_X7_takes_pa tx ln pa 115) 116)) - 48) 0 3) = 0 then nu else (if (sp_X7_takes tx ln (stp tx ln (sp_X7_takes_pa tx ln (sp_X7_takes_pa tx ln pa 115) 116)) 61) = 0 then nu else (sp_X7_readsNumber_nu tx ln (sp_X7_takes_pa tx ln (stp tx ln (sp_X7_takes_pa tx ln (sp_X7_takes_pa tx ln pa 115) 116)) 61) nu (if (sp_X7_sign tx ln pa) = 115 then (100 : Int32) else 25)))) h)) (by first | (simp only [if_neg h18, if_neg h19, if_pos h22]; done) | (simp only [if_neg h18, if_neg h19, if_pos h22]; rfl)) ?_
              exact K19
            · refine x_iconst C 1 (by decide) dX7_readsCommand_99 ?_
              refine x_goto C 104 (by decide) dX7_readsCommand_100 ?_
              refine x_st (st' := [.int (if (sp_X7_in ((sp_X7_sign tx ln (sp_X7_takes_pa tx ln (sp_X7_takes_pa tx ln pa 115) 116)) - 48) 0 3) = 0 then (0 : Int32) else (if (sp_X7_takes tx ln (stp tx ln (sp_X7_takes_pa tx ln (sp_X7_takes_pa tx ln pa 115) 116)) 61) = 0 then (0 : Int32) else (if (sp_X7_readsNumber tx ln (sp_X7_takes_pa tx ln (stp tx ln (sp_X7_takes_pa tx ln (sp_X7_takes_pa tx ln pa 115) 116)) 61)) = 0 then (0 : Int32) else 1)))]) (by simp only [if_neg h18, if_neg h19, if_neg h22]) ?_
              refine x_ws (ws' := (wMo g am s fi tx dm th sa ln (if (sp_X7_in ((sp_X7_sign tx ln (sp_X7_takes_pa tx ln (sp_X7_takes_pa tx ln pa 115) 116)) - 48) 0 3) = 0 then (stp tx ln (sp_X7_takes_pa tx ln (sp_X7_takes_pa tx ln pa 115) 116)) else (if (sp_X7_takes tx ln (stp tx ln (sp_X7_takes_pa tx ln (sp_X7_takes_pa tx ln pa 115) 116)) 61) = 0 then (sp_X7_takes_pa tx ln (stp tx ln (sp_X7_takes_pa tx ln (sp_X7_takes_pa tx ln pa 115) 116)) 61) else (sp_X7_readsNumber_pa tx ln (sp_X7_takes_pa tx ln (stp tx ln (sp_X7_takes_pa tx ln (sp_X7_takes_pa tx ln pa 115) 116)) 61) (if (sp_X7_sign tx ln pa) = 115 then (100 : Int32) else 25)))) (sp_X7_sign tx ln pa) ((sp_X7_sign tx ln (sp_X7_takes_pa tx ln (sp_X7_takes_pa tx ln pa 115) 116)) - 48) (if (sp_X7_in ((sp_X7_sign tx ln (sp_X7_takes_pa tx ln (sp_X7_takes_pa tx ln pa 115) 116)) - 48) 0 3) = 0 then nu else (if (sp_X7_takes tx ln (stp tx ln (sp_X7_takes_pa tx ln (sp_X7_takes_pa tx ln pa 115) 116)) 61) = 0 then nu else (sp_X7_readsNumber_nu tx ln (sp_X7_takes_pa tx ln (stp tx ln (sp_X7_takes_pa tx ln (sp_X7_takes_pa tx ln pa 115) 116)) 61) nu (if (sp_X7_sign tx ln pa) = 115 then (100 : Int32) else 25)))) h)) (by first | (simp only [if_neg h18, if_neg h19, if_neg h22]; done) | (simp only [if_neg h18, if_neg h19, if_neg h22]; rfl)) ?_
              exact K19
      exact x_zret C hr (xnz (bool_ite (Or.inl rfl) (bool_ite (Or.inl rfl) (bool_ite (Or.inl rfl) (Or.inr rfl))))) (nle rfl) (nle rfl) dX7_readsCommand_104 ⟨(by first | (simp only [sp_X7_readsCommand, if_pos h1, if_neg h10]; done) | (simp only [sp_X7_readsCommand, if_pos h1, if_neg h10]; rfl)), (by first | (simp only [sp_X7_readsCommand_pa, sp_X7_readsCommand_le, sp_X7_readsCommand_sk, sp_X7_readsCommand_nu, if_pos h1, if_neg h10]; done) | (simp only [sp_X7_readsCommand_pa, sp_X7_readsCommand_le, sp_X7_readsCommand_sk, sp_X7_readsCommand_nu, if_pos h1, if_neg h10]; rfl))⟩
theorem rc_fact {tx : Nat → Int32} {ln pa : Int32} (h : pOk ln pa) : pOk ln (sp_X7_readsCommand_pa tx ln pa) ∧ pa.toNatClampNeg ≤ (sp_X7_readsCommand_pa tx ln pa).toNatClampNeg ∧ (¬ sp_X7_readsCommand tx ln pa = 0 → pa.toNatClampNeg < (sp_X7_readsCommand_pa tx ln pa).toNatClampNeg) := by
  have T : ∀ {q : Int32} (cc : Int32), ¬ cc = 0 → pOk ln q → pOk ln (sp_X7_takes_pa tx ln q cc) ∧ q.toNatClampNeg ≤ (sp_X7_takes_pa tx ln q cc).toNatClampNeg ∧ (¬ sp_X7_takes tx ln q cc = 0 → q.toNatClampNeg < (sp_X7_takes_pa tx ln q cc).toNatClampNeg) := fun {q} cc hc hq => by
    obtain ⟨t1, t2⟩ := takes_fact (tx := tx) hq hc
    refine ⟨t1, by rw [t2]; omega, fun hn => ?_⟩
    rw [t2, if_neg hn]; omega
  obtain ⟨a1, a2, a3⟩ := T 115 (by decide) h
  obtain ⟨b1, b2, b3⟩ := T 116 (by decide) a1
  obtain ⟨c1, c2, c3⟩ := T 102 (by decide) b1
  obtain ⟨d1, d2, d3⟩ := T 108 (by decide) c1
  obtain ⟨e1, e2, e3⟩ := T 114 (by decide) d1
  obtain ⟨f1, f2, f3⟩ := T 99 (by decide) e1
  have S : ∀ {q : Int32} {mst : Int32}, pOk ln q → pOk ln (stp tx ln q) ∧ q.toNatClampNeg ≤ (stp tx ln q).toNatClampNeg ∧ pOk ln (sp_X7_takes_pa tx ln (stp tx ln q) 61) ∧ q.toNatClampNeg ≤ (sp_X7_takes_pa tx ln (stp tx ln q) 61).toNatClampNeg ∧ pOk ln (sp_X7_readsNumber_pa tx ln (sp_X7_takes_pa tx ln (stp tx ln q) 61) mst) ∧ q.toNatClampNeg ≤ (sp_X7_readsNumber_pa tx ln (sp_X7_takes_pa tx ln (stp tx ln q) 61) mst).toNatClampNeg := fun {q mst} hq => by
    obtain ⟨s1, s2⟩ := pa_st (tx := tx) hq
    obtain ⟨t1, t2, -⟩ := T 61 (by decide) s1
    obtain ⟨n1, n2⟩ := rnN_ok (tx := tx) (mst := mst) t1
    exact ⟨s1, s2, t1, by omega, n1, by omega⟩
  unfold sp_X7_readsCommand_pa sp_X7_readsCommand
  by_cases k1 : sp_X7_takes tx ln pa 115 = 0
  · simp only [if_pos k1]
    by_cases k2 : sp_X7_takes tx ln (sp_X7_takes_pa tx ln pa 115) 116 = 0
    · simp only [if_pos k2]
      by_cases k3 : sp_X7_takes tx ln (sp_X7_takes_pa tx ln (sp_X7_takes_pa tx ln pa 115) 116) 102 = 0
      · simp only [if_pos k3]
        by_cases k4 : sp_X7_takes tx ln (sp_X7_takes_pa tx ln (sp_X7_takes_pa tx ln (sp_X7_takes_pa tx ln pa 115) 116) 102) 108 = 0
        · simp only [if_pos k4]
          by_cases k5 : sp_X7_takes tx ln (sp_X7_takes_pa tx ln (sp_X7_takes_pa tx ln (sp_X7_takes_pa tx ln (sp_X7_takes_pa tx ln pa 115) 116) 102) 108) 114 = 0
          · simp only [if_pos k5]
            refine ⟨f1, by omega, fun hn => ?_⟩
            by_cases k6 : sp_X7_takes tx ln (sp_X7_takes_pa tx ln (sp_X7_takes_pa tx ln (sp_X7_takes_pa tx ln (sp_X7_takes_pa tx ln (sp_X7_takes_pa tx ln pa 115) 116) 102) 108) 114) 99 = 0
            · exact absurd (if_pos k6) hn
            · have := f3 k6; omega
          · simp only [if_neg k5]
            exact ⟨e1, by omega, fun _ => by have := e3 k5; omega⟩
        · simp only [if_neg k4]
          obtain ⟨r1, r2⟩ := rdD_ok (tx := tx) (lst := 1) (mst := 50) d1 (by decide)
          exact ⟨r1, by omega, fun _ => by have := d3 k4; omega⟩
      · simp only [if_neg k3]
        obtain ⟨r1, r2⟩ := rdD_ok (tx := tx) (lst := 1) (mst := 50) c1 (by decide)
        exact ⟨r1, by omega, fun _ => by have := c3 k3; omega⟩
    · simp only [if_neg k2]
      obtain ⟨s1, s2, s3, s4, s5, s6⟩ := S (mst := (if sp_X7_sign tx ln pa = 115 then (100 : Int32) else 25)) b1
      have := b3 k2
      split
      · exact ⟨s1, by omega, fun hn => absurd rfl hn⟩
      · split
        · exact ⟨s3, by omega, fun hn => absurd rfl hn⟩
        · exact ⟨s5, by omega, fun _ => by omega⟩
  · simp only [if_neg k1]
    obtain ⟨s1, s2, s3, s4, s5, s6⟩ := S (mst := (if sp_X7_sign tx ln pa = 115 then (100 : Int32) else 25)) a1
    have := a3 k1
    split
    · exact ⟨s1, by omega, fun hn => absurd rfl hn⟩
    · split
      · exact ⟨s3, by omega, fun hn => absurd rfl hn⟩
      · exact ⟨s5, by omega, fun _ => by omega⟩
theorem pOk_0 {ln : Int32} (h : ln = nI ln.toNatClampNeg ∧ ln.toNatClampNeg ≤ 60) : pOk ln 0 := ⟨h.1, h.2, rfl, Nat.zero_le _⟩
def sp_ipl (tx : Nat → Int32) (ln : Int32) : Nat → (Int32) → (Int32) → (Int32) → (Int32) → Int32 × (Int32) × (Int32) × (Int32) × (Int32)
  | 0, v1_pa, v1_le, v1_sk, v1_nu => (0, v1_pa, v1_le, v1_sk, v1_nu)
  | f_ + 1, v1_pa, v1_le, v1_sk, v1_nu => (if (sp_X7_readsCommand tx ln v1_pa) = 0 then (0, (sp_X7_readsCommand_pa tx ln v1_pa), (sp_X7_readsCommand_le tx ln v1_pa), (sp_X7_readsCommand_sk tx ln v1_pa v1_sk), (sp_X7_readsCommand_nu tx ln v1_pa v1_nu)) else (if (sp_X7_readsCommand_pa tx ln v1_pa) = ln then (1, (sp_X7_readsCommand_pa tx ln v1_pa), (sp_X7_readsCommand_le tx ln v1_pa), (sp_X7_readsCommand_sk tx ln v1_pa v1_sk), (sp_X7_readsCommand_nu tx ln v1_pa v1_nu)) else (if (sp_X7_takes tx ln (sp_X7_readsCommand_pa tx ln v1_pa) 59) = 0 then (0, (sp_X7_takes_pa tx ln (sp_X7_readsCommand_pa tx ln v1_pa) 59), (sp_X7_readsCommand_le tx ln v1_pa), (sp_X7_readsCommand_sk tx ln v1_pa v1_sk), (sp_X7_readsCommand_nu tx ln v1_pa v1_nu)) else (sp_ipl tx ln f_ (sp_X7_takes_pa tx ln (sp_X7_readsCommand_pa tx ln v1_pa) 59) (sp_X7_readsCommand_le tx ln v1_pa) (sp_X7_readsCommand_sk tx ln v1_pa v1_sk) (sp_X7_readsCommand_nu tx ln v1_pa v1_nu)))))
set_option maxRecDepth 100000 in
theorem k_X7_isProgram (l : Launch) (g : xGt) (am : Nat → Nat) (s fi tx dm : Nat → Int32) (th sa ln pa le sk nu : Int32) (h : Int64) (hln : ln = nI (Int32.toNatClampNeg ln) ∧ Int32.toNatClampNeg ln ≤ 60) : xM l g.1 (xT g) yX7_isProgram (ws_ yX7_isProgram cX7_isProgram 1 (some .boolean)) (xRm 4 88 0 0) 0 0 [.ref (am 0)] (wMo g am s fi tx dm th sa ln pa le sk nu h) (fun r9 w9 => r9 = some (.int ((sp_ipl tx ln 61 0 le sk nu).1)) ∧ w9 = (wMo g am s fi tx dm th sa ln ((sp_ipl tx ln 61 0 le sk nu).2.1) ((sp_ipl tx ln 61 0 le sk nu).2.2.1) ((sp_ipl tx ln 61 0 le sk nu).2.2.2.1) ((sp_ipl tx ln 61 0 le sk nu).2.2.2.2) h)) (fun _ _ => False) := by
  refine x_start (own := RX7) (nm := "isProgram") rfl rfl (by decide +kernel) rfl (nle rfl) (fun p e σ m args below meth c A C hno hr => ?_)
  refine x_lve (lv' := [(0, .ref (am 0))]) rfl ?_
  refine x_aload_n C 0 rfl rfl dX7_isProgram_0 ?_
  refine x_iconst C 0 (by decide) dX7_isProgram_1 ?_
  refine x_put C 0 7 6 tyX7 (wMo g am s fi tx dm th sa ln 0 le sk nu h) rfl rfl rfl wLy_X7 tyX7_ok nmX7 wFL_X7_130 rfl (by decide) rfl rfl rfl rfl (nlt rfl) dX7_isProgram_2 ?_
  suffices KL1 : ∀ (f_ : Nat) (v1_pa : Int32) (v1_le : Int32) (v1_sk : Int32) (v1_nu : Int32), pOk ln v1_pa → ln.toNatClampNeg - v1_pa.toNatClampNeg < f_ → sp_ipl tx ln f_ v1_pa v1_le v1_sk v1_nu = (sp_ipl tx ln 61 0 le sk nu) → xW p l e _ σ m args below meth c g.1 A 1 0 0 _ (wMo g am s fi tx dm th sa ln v1_pa v1_le v1_sk v1_nu h) [(0, .ref (am 0))] 5 [] by
    exact KL1 61 0 le sk nu (pOk_0 hln) (by have := hln.2; show ln.toNatClampNeg - 0 < 61; omega) rfl
  intro f_
  induction f_ with
  | zero =>
    intro v1_pa v1_le v1_sk v1_nu hi1 hme1 hq1
    exact absurd hme1 (Nat.not_lt_zero _)
  | succ f_ ih1 =>
    intro v1_pa v1_le v1_sk v1_nu hi1 hme1 hq1
    refine x_aload_n C 0 rfl rfl dX7_isProgram_5 ?_
    refine x_FV (w1 := ([] : va_W)) (wc := (wMo g am s fi tx dm th sa ln v1_pa v1_le v1_sk v1_nu h)) (w2 := ([] : va_W)) [] [] (wMo g am s fi tx dm th sa ln (sp_X7_readsCommand_pa tx ln v1_pa) (sp_X7_readsCommand_le tx ln v1_pa) (sp_X7_readsCommand_sk tx ln v1_pa v1_sk) (sp_X7_readsCommand_nu tx ln v1_pa v1_nu) h) C (k_X7_readsCommand l g am s fi tx dm th sa ln v1_pa v1_le v1_sk v1_nu h hi1) rfl yV_X7_readsCommand wML_X7_155 rfl 0 rfl rfl rfl rfl (nle rfl) (nle rfl) (nle rfl) (nle rfl) (nle rfl) dX7_isProgram_6 ?_
    refine x_if_eq C 36 (by decide) dX7_isProgram_9 (fun h2 => ?_) (fun h2 => ?_)
    · refine x_iconst C 0 (by decide) dX7_isProgram_36 ?_
      have e3 : (sp_ipl tx ln 61 0 le sk nu) = (0, (sp_X7_readsCommand_pa tx ln v1_pa), (sp_X7_readsCommand_le tx ln v1_pa), (sp_X7_readsCommand_sk tx ln v1_pa v1_sk), (sp_X7_readsCommand_nu tx ln v1_pa v1_nu)) := by rw [← hq1]; simp only [sp_ipl, if_pos h2]
      refine x_ws (ws' := (wMo g am s fi tx dm th sa ln ((sp_ipl tx ln 61 0 le sk nu).2.1) ((sp_ipl tx ln 61 0 le sk nu).2.2.1) ((sp_ipl tx ln 61 0 le sk nu).2.2.2.1) ((sp_ipl tx ln 61 0 le sk nu).2.2.2.2) h)) (by simp only [e3]) ?_
      refine x_st (st' := [.int ((sp_ipl tx ln 61 0 le sk nu).1)]) (by simp only [e3]) ?_
      exact x_zret C hr (xnz (by rw [e3]; exact (Or.inl rfl))) (nle rfl) (nle rfl) dX7_isProgram_37 ⟨rfl, rfl⟩
    · refine x_aload_n C 0 rfl rfl dX7_isProgram_12 ?_
      refine x_get C 0 7 6 rfl rfl wLy_X7 wFL_X7_130 rfl (by decide) rfl dX7_isProgram_13 ?_
      refine x_aload_n C 0 rfl rfl dX7_isProgram_16 ?_
      refine x_get C 0 7 5 rfl rfl wLy_X7 wFL_X7_127 rfl (by decide) rfl dX7_isProgram_17 ?_
      refine x_icmp_ne C 25 (by decide) dX7_isProgram_20 (fun h4 => ?_) (fun h4 => ?_)
      · refine x_aload_n C 0 rfl rfl dX7_isProgram_25 ?_
        refine x_bipush C 59 (by decide) dX7_isProgram_26 ?_
        refine x_FV (w1 := ([] : va_W)) (wc := (wMo g am s fi tx dm th sa ln (sp_X7_readsCommand_pa tx ln v1_pa) (sp_X7_readsCommand_le tx ln v1_pa) (sp_X7_readsCommand_sk tx ln v1_pa v1_sk) (sp_X7_readsCommand_nu tx ln v1_pa v1_nu) h)) (w2 := ([] : va_W)) [.int 59] [] (wMo g am s fi tx dm th sa ln (sp_X7_takes_pa tx ln (sp_X7_readsCommand_pa tx ln v1_pa) 59) (sp_X7_readsCommand_le tx ln v1_pa) (sp_X7_readsCommand_sk tx ln v1_pa v1_sk) (sp_X7_readsCommand_nu tx ln v1_pa v1_nu) h) C (k_X7_takes l g am s fi tx dm th sa ln (sp_X7_readsCommand_pa tx ln v1_pa) (sp_X7_readsCommand_le tx ln v1_pa) (sp_X7_readsCommand_sk tx ln v1_pa v1_sk) (sp_X7_readsCommand_nu tx ln v1_pa v1_nu) h 59 (rc_fact hi1).1) rfl yV_X7_takes wML_X7_140 rfl 0 rfl rfl rfl rfl (nle rfl) (nle rfl) (nle rfl) (nle rfl) (nle rfl) dX7_isProgram_28 ?_
        refine x_if_ne C 5 (by decide) dX7_isProgram_31 (fun h5 => ?_) (fun h5 => ?_)
        · exact ih1 (sp_X7_takes_pa tx ln (sp_X7_readsCommand_pa tx ln v1_pa) 59) (sp_X7_readsCommand_le tx ln v1_pa) (sp_X7_readsCommand_sk tx ln v1_pa v1_sk) (sp_X7_readsCommand_nu tx ln v1_pa v1_nu) (takes_ok (cc := 59) (rc_fact hi1).1 (by decide)) (by have q1 := (rc_fact (tx := tx) hi1).2.2 h2; have q2 := (takes_fact (tx := tx) (cc := 59) (rc_fact (tx := tx) hi1).1 (by decide)).2; have q3 := hi1.2.2.2; have q4 := (rc_fact (tx := tx) hi1).1.2.2.2; omega) (by rw [← hq1]; simp only [sp_ipl, if_neg h2, if_neg h4, if_neg h5])
        · refine x_iconst C 0 (by decide) dX7_isProgram_34 ?_
          have e6 : (sp_ipl tx ln 61 0 le sk nu) = (0, (sp_X7_takes_pa tx ln (sp_X7_readsCommand_pa tx ln v1_pa) 59), (sp_X7_readsCommand_le tx ln v1_pa), (sp_X7_readsCommand_sk tx ln v1_pa v1_sk), (sp_X7_readsCommand_nu tx ln v1_pa v1_nu)) := by rw [← hq1]; simp only [sp_ipl, if_neg h2, if_neg h4, if_pos h5]
          refine x_ws (ws' := (wMo g am s fi tx dm th sa ln ((sp_ipl tx ln 61 0 le sk nu).2.1) ((sp_ipl tx ln 61 0 le sk nu).2.2.1) ((sp_ipl tx ln 61 0 le sk nu).2.2.2.1) ((sp_ipl tx ln 61 0 le sk nu).2.2.2.2) h)) (by simp only [e6]) ?_
          refine x_st (st' := [.int ((sp_ipl tx ln 61 0 le sk nu).1)]) (by simp only [e6]) ?_
          exact x_zret C hr (xnz (by rw [e6]; exact (Or.inl rfl))) (nle rfl) (nle rfl) dX7_isProgram_35 ⟨rfl, rfl⟩
      · refine x_iconst C 1 (by decide) dX7_isProgram_23 ?_
        have e7 : (sp_ipl tx ln 61 0 le sk nu) = (1, (sp_X7_readsCommand_pa tx ln v1_pa), (sp_X7_readsCommand_le tx ln v1_pa), (sp_X7_readsCommand_sk tx ln v1_pa v1_sk), (sp_X7_readsCommand_nu tx ln v1_pa v1_nu)) := by rw [← hq1]; simp only [sp_ipl, if_neg h2, if_pos h4]
        refine x_ws (ws' := (wMo g am s fi tx dm th sa ln ((sp_ipl tx ln 61 0 le sk nu).2.1) ((sp_ipl tx ln 61 0 le sk nu).2.2.1) ((sp_ipl tx ln 61 0 le sk nu).2.2.2.1) ((sp_ipl tx ln 61 0 le sk nu).2.2.2.2) h)) (by simp only [e7]) ?_
        refine x_st (st' := [.int ((sp_ipl tx ln 61 0 le sk nu).1)]) (by simp only [e7]) ?_
        exact x_zret C hr (xnz (by rw [e7]; exact (Or.inr rfl))) (nle rfl) (nle rfl) dX7_isProgram_24 ⟨rfl, rfl⟩
