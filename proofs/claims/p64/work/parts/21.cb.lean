set_option maxRecDepth 100000 in
set_option maxHeartbeats 400000 in
theorem k_X6_hashStep (l : Launch) (g : xGt) (ha : Int64) (hb : Int64) : xM l g.1 (xT g) yX6_hashStep (ws_ yX6_hashStep cX6_hashStep 4 (some .long)) (xRm 0 0 0 0) 0 0 [.long ha, .long hb] ([] : va_W) (fun r9 w9 => r9 = some (.long ((31 * ha) + hb)) ∧ w9 = ([] : va_W)) (fun _ _ => False) := by
  refine x_start (own := RX6) (nm := "hashStep") rfl rfl (by decide +kernel) rfl (nle rfl) (fun p e σ m args below meth c A C hno hr => ?_)
  refine x_lve (lv' := [(0, .long ha), (2, .long hb)]) rfl ?_
  refine x_ldc2 C wKL_X6_313 dX6_hashStep_0 ?_
  refine x_lload_n C 0 rfl rfl dX6_hashStep_3 ?_
  refine x_lmul C dX6_hashStep_4 ?_
  refine x_lload_n C 1 rfl rfl dX6_hashStep_5 ?_
  refine x_ladd C dX6_hashStep_6 ?_
  exact x_lret C hr (nle rfl) (nle rfl) dX6_hashStep_7 ⟨rfl, rfl⟩
def sp_cpr (ff : Nat → Int32) (a0 : (Nat → Int32)) : Nat → (Nat → Int32)
  | 0 => a0
  | i1 + 1 => (upd (sp_cpr ff a0 i1) i1 (ff i1))
set_option maxRecDepth 100000 in
set_option maxHeartbeats 400000 in
theorem k_X6_copyRow (l : Launch) (g : xGt) (ab : Nat) (af : Nat) (n : Nat) (ft : Nat → Int32) (ff : Nat → Int32)  (hn : n < 2 ^ 31) : xM l g.1 (xT g) yX6_copyRow (ws_ yX6_copyRow cX6_copyRow 3 none) (xRm 0 0 0 0) 0 0 [.ref af, .ref ab] (wR1 g ab n ft ++ (wR1 g af n ff)) (fun r9 w9 => r9 = none ∧ w9 = (wR1 g ab n (sp_cpr ff ft (n + 0)) ++ (wR1 g af n ff))) (fun _ _ => False) := by
  refine x_start (own := RX6) (nm := "copyRow") rfl rfl (by decide +kernel) rfl (nle rfl) (fun p e σ m args below meth c A C hno hr => ?_)
  refine x_lve (lv' := [(0, .ref af), (1, .ref ab)]) rfl ?_
  refine x_iconst C 0 (by decide) dX6_copyRow_0 ?_
  refine x_istore_n C [(2, .int 0), (0, .ref af), (1, .ref ab)] rfl rfl (by decide) dX6_copyRow_1 ?_
  suffices L1 : ∀ (n1 i1 : Nat), i1 + n1 = n + 0 → xW p l e _ σ m args below meth c g.1 A 3 0 0 _ (wR1 g ab n (sp_cpr ff ft i1) ++ (wR1 g af n ff)) [(2, .int (nI i1)), (0, .ref af), (1, .ref ab)] 2 [] by
    exact L1 (n + 0) 0 (by omega)
  intro n1
  induction n1 with
  | zero =>
    intro i1 hn1
    have hz_ : i1 = n + 0 := by omega
    subst i1
    refine x_iload_n C 0 rfl rfl dX6_copyRow_2 ?_
    refine x_aload_n C 1 rfl rfl dX6_copyRow_3 ?_
    refine x_alen C 1 0 (nI n) rfl rfl rfl dX6_copyRow_4 ?_
    refine x_icmp_ge C 26 (by decide) dX6_copyRow_5 (fun _ => ?_) (fun hz => absurd (xge rfl rfl (by omega) (by omega)) hz)
    exact x_vret C hr (nle rfl) (nle rfl) dX6_copyRow_26 ⟨rfl, rfl⟩
  | succ n1 ih1 =>
    intro i1 hn1
    refine x_iload_n C 0 rfl rfl dX6_copyRow_2 ?_
    refine x_aload_n C 1 rfl rfl dX6_copyRow_3 ?_
    refine x_alen C 1 0 (nI n) rfl rfl rfl dX6_copyRow_4 ?_
    refine x_icmp_ge C 26 (by decide) dX6_copyRow_5 (fun hz => absurd hz (xnge rfl rfl (by omega) (by omega))) (fun _ => ?_)
    refine x_iload_n C 0 rfl rfl dX6_copyRow_8 ?_
    refine x_aload_n C 2 rfl rfl dX6_copyRow_9 ?_
    refine x_alen C 0 0 (nI n) rfl rfl rfl dX6_copyRow_10 ?_
    refine x_icmp_ge C 26 (by decide) dX6_copyRow_11 (fun hz => absurd hz (xnge rfl rfl (by omega) (by omega))) (fun _ => ?_)
    refine x_aload_n C 2 rfl rfl dX6_copyRow_14 ?_
    refine x_iload_n C 0 rfl rfl dX6_copyRow_15 ?_
    refine x_aload_n C 1 rfl rfl dX6_copyRow_16 ?_
    refine x_iload_n C 0 rfl rfl dX6_copyRow_17 ?_
    refine x_ialdN (f := ff) C 1 0 i1 rfl rfl rfl (by omega) (by assumption) dX6_copyRow_18 ?_
    refine x_iastN (f := (sp_cpr ff ft i1)) C 0 0 i1 (wR1 g ab n (upd (sp_cpr ff ft i1) i1 (ff i1)) ++ (wR1 g af n ff)) rfl rfl rfl rfl (by omega) (by assumption) dX6_copyRow_19 ?_
    refine x_iinc C 0 (nI (i1 + 1)) [(2, .int (nI (i1 + 1))), (0, .ref af), (1, .ref ab)] rfl (nI_add _ _) rfl (by decide) dX6_copyRow_20 ?_
    refine x_goto C 2 (by decide) dX6_copyRow_23 ?_
    exact ih1 (i1 + 1) (by omega)
def sp_fil (vv : Int32) (a0 : (Nat → Int32)) : Nat → (Nat → Int32)
  | 0 => a0
  | i1 + 1 => (upd (sp_fil vv a0 i1) i1 vv)
set_option maxRecDepth 100000 in
set_option maxHeartbeats 400000 in
theorem k_X6_fillRow (l : Launch) (g : xGt) (ab : Nat) (n : Nat) (ft : Nat → Int32) (vv : Int32) (hn : n < 2 ^ 31) : xM l g.1 (xT g) yX6_fillRow (ws_ yX6_fillRow cX6_fillRow 3 none) (xRm 0 0 0 0) 0 0 [.ref ab, .int vv] (wR1 g ab n ft) (fun r9 w9 => r9 = none ∧ w9 = (wR1 g ab n (sp_fil vv ft (n + 0)))) (fun _ _ => False) := by
  refine x_start (own := RX6) (nm := "fillRow") rfl rfl (by decide +kernel) rfl (nle rfl) (fun p e σ m args below meth c A C hno hr => ?_)
  refine x_lve (lv' := [(0, .ref ab), (1, .int vv)]) rfl ?_
  refine x_iconst C 0 (by decide) dX6_fillRow_0 ?_
  refine x_istore_n C [(2, .int 0), (0, .ref ab), (1, .int vv)] rfl rfl (by decide) dX6_fillRow_1 ?_
  suffices L1 : ∀ (n1 i1 : Nat), i1 + n1 = n + 0 → xW p l e _ σ m args below meth c g.1 A 3 0 0 _ (wR1 g ab n (sp_fil vv ft i1)) [(2, .int (nI i1)), (0, .ref ab), (1, .int vv)] 2 [] by
    exact L1 (n + 0) 0 (by omega)
  intro n1
  induction n1 with
  | zero =>
    intro i1 hn1
    have hz_ : i1 = n + 0 := by omega
    subst i1
    refine x_iload_n C 0 rfl rfl dX6_fillRow_2 ?_
    refine x_aload_n C 1 rfl rfl dX6_fillRow_3 ?_
    refine x_alen C 0 0 (nI n) rfl rfl rfl dX6_fillRow_4 ?_
    refine x_icmp_ge C 18 (by decide) dX6_fillRow_5 (fun _ => ?_) (fun hz => absurd (xge rfl rfl (by omega) (by omega)) hz)
    exact x_vret C hr (nle rfl) (nle rfl) dX6_fillRow_18 ⟨rfl, rfl⟩
  | succ n1 ih1 =>
    intro i1 hn1
    refine x_iload_n C 0 rfl rfl dX6_fillRow_2 ?_
    refine x_aload_n C 1 rfl rfl dX6_fillRow_3 ?_
    refine x_alen C 0 0 (nI n) rfl rfl rfl dX6_fillRow_4 ?_
    refine x_icmp_ge C 18 (by decide) dX6_fillRow_5 (fun hz => absurd hz (xnge rfl rfl (by omega) (by omega))) (fun _ => ?_)
    refine x_aload_n C 1 rfl rfl dX6_fillRow_8 ?_
    refine x_iload_n C 0 rfl rfl dX6_fillRow_9 ?_
    refine x_iload_n C 2 rfl rfl dX6_fillRow_10 ?_
    refine x_iastN (f := (sp_fil vv ft i1)) C 0 0 i1 (wR1 g ab n (upd (sp_fil vv ft i1) i1 vv)) rfl rfl rfl rfl (by omega) (by assumption) dX6_fillRow_11 ?_
    refine x_iinc C 0 (nI (i1 + 1)) [(2, .int (nI (i1 + 1))), (0, .ref ab), (1, .int vv)] rfl (nI_add _ _) rfl (by decide) dX6_fillRow_12 ?_
    refine x_goto C 2 (by decide) dX6_fillRow_15 ?_
    exact ih1 (i1 + 1) (by omega)
def sp_X5_commandOf (kp : Nat → Int32) (ke : Nat → Int32) (kr : Nat → Int32) (kt : Nat → Int32) (kh : Int32) (kc : Int32) (k : Nat) : Int32 := (if (nI k) = 2 then (if kc = 0 then (((((((100 - (ke k)) * (kp k)) + ((ke k) * ((((kp k) * (kp k)) * (kp k)) / 10000))) / 100) * (kr (if kh = 0 then k else 4 + k))) / 100) + (kt (if kh = 0 then k else 4 + k))) else (-100)) else (((((((100 - (ke k)) * (kp k)) + ((ke k) * ((((kp k) * (kp k)) * (kp k)) / 10000))) / 100) * (kr (if kh = 0 then k else 4 + k))) / 100) + (kt (if kh = 0 then k else 4 + k))))
set_option maxRecDepth 100000 in
set_option maxHeartbeats 400000 in
theorem k_X5_commandOf (l : Launch) (g : xGt) (ad : Nat → Nat) (kp : Nat → Int32) (ke : Nat → Int32) (kr : Nat → Int32) (kt : Nat → Int32) (kh : Int32) (kc : Int32) (x_k : Int32) (k : Nat) (e_k : x_k = nI k) (hk : k < 4) : xM l g.1 (xT g) yX5_commandOf (ws_ yX5_commandOf cX5_commandOf 6 (some .int)) (xRm 1 21 0 0) 0 0 [.ref (ad 1), .int x_k] (wSk g ad kp ke kr kt kh kc) (fun r9 w9 => r9 = some (.int (sp_X5_commandOf kp ke kr kt kh kc k)) ∧ w9 = (wSk g ad kp ke kr kt kh kc)) (fun _ _ => False) := by
  subst e_k
  have hsl := slot_lt kh hk
  refine x_start (own := RX5) (nm := "commandOf") rfl rfl (by decide +kernel) rfl (nle rfl) (fun p e σ m args below meth c A C hno hr => ?_)
  refine x_lve (lv' := [(0, .ref (ad 1)), (1, .int (nI k))]) rfl ?_
  refine x_iload_n C 1 rfl rfl dX5_commandOf_0 ?_
  refine x_iconst C 2 (by decide) dX5_commandOf_1 ?_
  refine x_icmp_ne C 15 (by decide) dX5_commandOf_2 (fun h1 => ?_) (fun h1 => ?_)
  · refine x_aload_n C 0 rfl rfl dX5_commandOf_15 ?_
    refine x_get C 0 5 0 rfl rfl wLy_X5 wFL_X5_9 rfl (by decide) rfl dX5_commandOf_16 ?_
    refine x_iload_n C 1 rfl rfl dX5_commandOf_19 ?_
    refine x_ialdN (f := kp) C 1 0 k rfl rfl rfl (by omega) (by decide) dX5_commandOf_20 ?_
    refine x_istore_n C [(2, .int (kp k)), (0, .ref (ad 1)), (1, .int (nI k))] rfl rfl (by decide) dX5_commandOf_21 ?_
    refine x_aload_n C 1 rfl rfl dX5_commandOf_22 ?_
    refine x_get C 0 5 1 rfl rfl wLy_X5 wFL_X5_15 rfl (by decide) rfl dX5_commandOf_23 ?_
    refine x_iload_n C 2 rfl rfl dX5_commandOf_26 ?_
    refine x_ialdN (f := ke) C 2 0 k rfl rfl rfl (by omega) (by decide) dX5_commandOf_27 ?_
    refine x_istore_n C [(3, .int (ke k)), (2, .int (kp k)), (0, .ref (ad 1)), (1, .int (nI k))] rfl rfl (by decide) dX5_commandOf_28 ?_
    refine x_bipush C 100 (by decide) dX5_commandOf_29 ?_
    refine x_iload_n C 0 rfl rfl dX5_commandOf_31 ?_
    refine x_isub C dX5_commandOf_32 ?_
    refine x_iload_n C 1 rfl rfl dX5_commandOf_33 ?_
    refine x_imul C dX5_commandOf_34 ?_
    refine x_iload_n C 0 rfl rfl dX5_commandOf_35 ?_
    refine x_iload_n C 1 rfl rfl dX5_commandOf_36 ?_
    refine x_iload_n C 1 rfl rfl dX5_commandOf_37 ?_
    refine x_imul C dX5_commandOf_38 ?_
    refine x_iload_n C 1 rfl rfl dX5_commandOf_39 ?_
    refine x_imul C dX5_commandOf_40 ?_
    refine x_sipush C 10000 (by decide) dX5_commandOf_41 ?_
    refine x_idiv C (by decide) dX5_commandOf_44 ?_
    refine x_imul C dX5_commandOf_45 ?_
    refine x_iadd C dX5_commandOf_46 ?_
    refine x_bipush C 100 (by decide) dX5_commandOf_47 ?_
    refine x_idiv C (by decide) dX5_commandOf_49 ?_
    refine x_istore C [(4, .int ((((100 - (ke k)) * (kp k)) + ((ke k) * ((((kp k) * (kp k)) * (kp k)) / 10000))) / 100)), (3, .int (ke k)), (2, .int (kp k)), (0, .ref (ad 1)), (1, .int (nI k))] rfl (by decide) dX5_commandOf_50 ?_
    refine x_aload_n C 3 rfl rfl dX5_commandOf_52 ?_
    refine x_iload_n C 4 rfl rfl dX5_commandOf_53 ?_
    refine x_FV (w1 := ([] : va_W)) (wc := _) (w2 := ([] : va_W)) [.int (nI k)] [] (wSk g ad kp ke kr kt kh kc) C (k_X5_slotOf l g ad kp ke kr kt kh kc (nI k) k rfl) rfl yV_X5_slotOf wML_X5_39 rfl 0 rfl rfl rfl rfl (nle rfl) (nle rfl) (nle rfl) (nle rfl) (nle rfl) dX5_commandOf_54 ?_
    refine x_istore C [(5, .int (sp_X5_slotOf kh k)), (4, .int ((((100 - (ke k)) * (kp k)) + ((ke k) * ((((kp k) * (kp k)) * (kp k)) / 10000))) / 100)), (3, .int (ke k)), (2, .int (kp k)), (0, .ref (ad 1)), (1, .int (nI k))] rfl (by decide) dX5_commandOf_57 ?_
    refine x_iload C 1 rfl dX5_commandOf_59 ?_
    refine x_aload_n C 4 rfl rfl dX5_commandOf_61 ?_
    refine x_get C 0 5 2 rfl rfl wLy_X5 wFL_X5_18 rfl (by decide) rfl dX5_commandOf_62 ?_
    refine x_iload C 0 rfl dX5_commandOf_65 ?_
    refine x_ialdN (f := kr) C 3 0 (if kh = 0 then k else 4 + k) rfl rfl (slot_nat kh k) (by omega) (by decide) dX5_commandOf_67 ?_
    refine x_imul C dX5_commandOf_68 ?_
    refine x_bipush C 100 (by decide) dX5_commandOf_69 ?_
    refine x_idiv C (by decide) dX5_commandOf_71 ?_
    refine x_aload_n C 4 rfl rfl dX5_commandOf_72 ?_
    refine x_get C 0 5 3 rfl rfl wLy_X5 wFL_X5_21 rfl (by decide) rfl dX5_commandOf_73 ?_
    refine x_iload C 0 rfl dX5_commandOf_76 ?_
    refine x_ialdN (f := kt) C 4 0 (if kh = 0 then k else 4 + k) rfl rfl (slot_nat kh k) (by omega) (by decide) dX5_commandOf_78 ?_
    refine x_iadd C dX5_commandOf_79 ?_
    exact x_iret C hr (nle rfl) (nle rfl) dX5_commandOf_80 ⟨(by first | (simp only [sp_X5_commandOf, if_neg h1]; done) | (simp only [sp_X5_commandOf, if_neg h1]; rfl)), rfl⟩
  · refine x_aload_n C 0 rfl rfl dX5_commandOf_5 ?_
    refine x_get C 0 5 5 rfl rfl wLy_X5 wFL_X5_36 rfl (by decide) rfl dX5_commandOf_6 ?_
    refine x_if_eq C 15 (by decide) dX5_commandOf_9 (fun h2 => ?_) (fun h2 => ?_)
    · refine x_aload_n C 0 rfl rfl dX5_commandOf_15 ?_
      refine x_get C 0 5 0 rfl rfl wLy_X5 wFL_X5_9 rfl (by decide) rfl dX5_commandOf_16 ?_
      refine x_iload_n C 1 rfl rfl dX5_commandOf_19 ?_
      refine x_ialdN (f := kp) C 1 0 k rfl rfl rfl (by omega) (by decide) dX5_commandOf_20 ?_
      refine x_istore_n C [(2, .int (kp k)), (0, .ref (ad 1)), (1, .int (nI k))] rfl rfl (by decide) dX5_commandOf_21 ?_
      refine x_aload_n C 1 rfl rfl dX5_commandOf_22 ?_
      refine x_get C 0 5 1 rfl rfl wLy_X5 wFL_X5_15 rfl (by decide) rfl dX5_commandOf_23 ?_
      refine x_iload_n C 2 rfl rfl dX5_commandOf_26 ?_
      refine x_ialdN (f := ke) C 2 0 k rfl rfl rfl (by omega) (by decide) dX5_commandOf_27 ?_
      refine x_istore_n C [(3, .int (ke k)), (2, .int (kp k)), (0, .ref (ad 1)), (1, .int (nI k))] rfl rfl (by decide) dX5_commandOf_28 ?_
      refine x_bipush C 100 (by decide) dX5_commandOf_29 ?_
      refine x_iload_n C 0 rfl rfl dX5_commandOf_31 ?_
      refine x_isub C dX5_commandOf_32 ?_
      refine x_iload_n C 1 rfl rfl dX5_commandOf_33 ?_
      refine x_imul C dX5_commandOf_34 ?_
      refine x_iload_n C 0 rfl rfl dX5_commandOf_35 ?_
      refine x_iload_n C 1 rfl rfl dX5_commandOf_36 ?_
      refine x_iload_n C 1 rfl rfl dX5_commandOf_37 ?_
      refine x_imul C dX5_commandOf_38 ?_
      refine x_iload_n C 1 rfl rfl dX5_commandOf_39 ?_
      refine x_imul C dX5_commandOf_40 ?_
      refine x_sipush C 10000 (by decide) dX5_commandOf_41 ?_
      refine x_idiv C (by decide) dX5_commandOf_44 ?_
      refine x_imul C dX5_commandOf_45 ?_
      refine x_iadd C dX5_commandOf_46 ?_
      refine x_bipush C 100 (by decide) dX5_commandOf_47 ?_
      refine x_idiv C (by decide) dX5_commandOf_49 ?_
      refine x_istore C [(4, .int ((((100 - (ke k)) * (kp k)) + ((ke k) * ((((kp k) * (kp k)) * (kp k)) / 10000))) / 100)), (3, .int (ke k)), (2, .int (kp k)), (0, .ref (ad 1)), (1, .int (nI k))] rfl (by decide) dX5_commandOf_50 ?_
      refine x_aload_n C 3 rfl rfl dX5_commandOf_52 ?_
      refine x_iload_n C 4 rfl rfl dX5_commandOf_53 ?_
      refine x_FV (w1 := ([] : va_W)) (wc := _) (w2 := ([] : va_W)) [.int (nI k)] [] (wSk g ad kp ke kr kt kh kc) C (k_X5_slotOf l g ad kp ke kr kt kh kc (nI k) k rfl) rfl yV_X5_slotOf wML_X5_39 rfl 0 rfl rfl rfl rfl (nle rfl) (nle rfl) (nle rfl) (nle rfl) (nle rfl) dX5_commandOf_54 ?_
      refine x_istore C [(5, .int (sp_X5_slotOf kh k)), (4, .int ((((100 - (ke k)) * (kp k)) + ((ke k) * ((((kp k) * (kp k)) * (kp k)) / 10000))) / 100)), (3, .int (ke k)), (2, .int (kp k)), (0, .ref (ad 1)), (1, .int (nI k))] rfl (by decide) dX5_commandOf_57 ?_
      refine x_iload C 1 rfl dX5_commandOf_59 ?_
      refine x_aload_n C 4 rfl rfl dX5_commandOf_61 ?_
      refine x_get C 0 5 2 rfl rfl wLy_X5 wFL_X5_18 rfl (by decide) rfl dX5_commandOf_62 ?_
      refine x_iload C 0 rfl dX5_commandOf_65 ?_
      refine x_ialdN (f := kr) C 3 0 (if kh = 0 then k else 4 + k) rfl rfl (slot_nat kh k) (by omega) (by decide) dX5_commandOf_67 ?_
      refine x_imul C dX5_commandOf_68 ?_
      refine x_bipush C 100 (by decide) dX5_commandOf_69 ?_
      refine x_idiv C (by decide) dX5_commandOf_71 ?_
      refine x_aload_n C 4 rfl rfl dX5_commandOf_72 ?_
      refine x_get C 0 5 3 rfl rfl wLy_X5 wFL_X5_21 rfl (by decide) rfl dX5_commandOf_73 ?_
      refine x_iload C 0 rfl dX5_commandOf_76 ?_
      refine x_ialdN (f := kt) C 4 0 (if kh = 0 then k else 4 + k) rfl rfl (slot_nat kh k) (by omega) (by decide) dX5_commandOf_78 ?_
      refine x_iadd C dX5_commandOf_79 ?_
      exact x_iret C hr (nle rfl) (nle rfl) dX5_commandOf_80 ⟨(by first | (simp only [sp_X5_commandOf, if_pos h1, if_pos h2]; done) | (simp only [sp_X5_commandOf, if_pos h1, if_pos h2]; rfl)), rfl⟩
    · refine x_bipush C (-100) (by decide) dX5_commandOf_12 ?_
      exact x_iret C hr (nle rfl) (nle rfl) dX5_commandOf_14 ⟨(by first | (simp only [sp_X5_commandOf, if_pos h1, if_neg h2]; done) | (simp only [sp_X5_commandOf, if_pos h1, if_neg h2]; rfl)), rfl⟩
def sp_X2_put_xn (xn : Int32) : Int32 := (if xn < 12 then (xn + 1) else xn)
def sp_X2_put_xs (xn : Int32) (xs : Nat → Int32) (ps : Int32) : Nat → Int32 := (if xn < 12 then (upd xs (Int32.toNatClampNeg xn) ps) else xs)
def sp_X2_put_xv (xn : Int32) (xv : Nat → Int32) (pv : Int32) : Nat → Int32 := (if xn < 12 then (upd xv (Int32.toNatClampNeg xn) pv) else xv)
def sp_X2_put_xh (xn : Int32) (xh : Nat → Int32) (ph : Int32) : Nat → Int32 := (if xn < 12 then (upd xh (Int32.toNatClampNeg xn) ph) else xh)
def sp_X2_put_xo (xn : Int32) (xo : Nat → Int32) (po : Int32) : Nat → Int32 := (if xn < 12 then (upd xo (Int32.toNatClampNeg xn) po) else xo)
def sp_X2_put_xc (xn : Int32) (xc : Nat → Int32) (pc0 : Int32) : Nat → Int32 := (if xn < 12 then (upd xc (Int32.toNatClampNeg xn) pc0) else xc)
set_option maxRecDepth 100000 in
set_option maxHeartbeats 400000 in
theorem k_X2_put (l : Launch) (g : xGt) (ad : Nat → Nat) (xn : Int32) (xs : Nat → Int32) (xv : Nat → Int32) (xh : Nat → Int32) (xo : Nat → Int32) (xc : Nat → Int32) (ps : Int32) (pv : Int32) (ph : Int32) (po : Int32) (pc0 : Int32) (hx : xn = nI (Int32.toNatClampNeg xn)) : xM l g.1 (xT g) yX2_put (ws_ yX2_put cX2_put 6 none) (xRm 0 0 0 0) 0 0 [.ref (ad 6), .int ps, .int pv, .int ph, .int po, .int pc0] (wMx g ad xn xs xv xh xo xc) (fun r9 w9 => r9 = none ∧ w9 = (wMx g ad (sp_X2_put_xn xn) (sp_X2_put_xs xn xs ps) (sp_X2_put_xv xn xv pv) (sp_X2_put_xh xn xh ph) (sp_X2_put_xo xn xo po) (sp_X2_put_xc xn xc pc0))) (fun _ _ => False) := by
  refine x_start (own := RX2) (nm := "put") rfl rfl (by decide +kernel) rfl (nle rfl) (fun p e σ m args below meth c A C hno hr => ?_)
  refine x_lve (lv' := [(0, .ref (ad 6)), (1, .int ps), (2, .int pv), (3, .int ph), (4, .int po), (5, .int pc0)]) rfl ?_
  refine x_aload_n C 0 rfl rfl dX2_put_0 ?_
  refine x_get C 0 2 0 rfl rfl wLy_X2 wFL_X2_31 rfl (by decide) rfl dX2_put_1 ?_
  refine x_bipush C 12 (by decide) dX2_put_4 ?_
  refine x_icmp_lt C 10 (by decide) dX2_put_6 (fun h1 => ?_) (fun h1 => ?_)
  · have hlt := xlt_of (k := 12) (c := 12) rfl hx (by decide) (Int32.toNatClampNeg_lt _) (Int32.not_le.mpr h1)
    refine x_aload_n C 0 rfl rfl dX2_put_10 ?_
    refine x_get C 0 2 1 rfl rfl wLy_X2 wFL_X2_9 rfl (by decide) rfl dX2_put_11 ?_
    refine x_aload_n C 0 rfl rfl dX2_put_14 ?_
    refine x_get C 0 2 0 rfl rfl wLy_X2 wFL_X2_31 rfl (by decide) rfl dX2_put_15 ?_
    refine x_iload_n C 1 rfl rfl dX2_put_18 ?_
    refine x_iastN (f := xs) C 1 0 (Int32.toNatClampNeg xn) (wMx g ad xn (upd xs (Int32.toNatClampNeg xn) ps) xv xh xo xc) rfl rfl rfl hx (by omega) (by decide) dX2_put_19 ?_
    refine x_aload_n C 0 rfl rfl dX2_put_20 ?_
    refine x_get C 0 2 2 rfl rfl wLy_X2 wFL_X2_15 rfl (by decide) rfl dX2_put_21 ?_
    refine x_aload_n C 0 rfl rfl dX2_put_24 ?_
    refine x_get C 0 2 0 rfl rfl wLy_X2 wFL_X2_31 rfl (by decide) rfl dX2_put_25 ?_
    refine x_iload_n C 2 rfl rfl dX2_put_28 ?_
    refine x_iastN (f := xv) C 2 0 (Int32.toNatClampNeg xn) (wMx g ad xn (upd xs (Int32.toNatClampNeg xn) ps) (upd xv (Int32.toNatClampNeg xn) pv) xh xo xc) rfl rfl rfl hx (by omega) (by decide) dX2_put_29 ?_
    refine x_aload_n C 0 rfl rfl dX2_put_30 ?_
    refine x_get C 0 2 3 rfl rfl wLy_X2 wFL_X2_18 rfl (by decide) rfl dX2_put_31 ?_
    refine x_aload_n C 0 rfl rfl dX2_put_34 ?_
    refine x_get C 0 2 0 rfl rfl wLy_X2 wFL_X2_31 rfl (by decide) rfl dX2_put_35 ?_
    refine x_iload_n C 3 rfl rfl dX2_put_38 ?_
    refine x_iastN (f := xh) C 3 0 (Int32.toNatClampNeg xn) (wMx g ad xn (upd xs (Int32.toNatClampNeg xn) ps) (upd xv (Int32.toNatClampNeg xn) pv) (upd xh (Int32.toNatClampNeg xn) ph) xo xc) rfl rfl rfl hx (by omega) (by decide) dX2_put_39 ?_
    refine x_aload_n C 0 rfl rfl dX2_put_40 ?_
    refine x_get C 0 2 4 rfl rfl wLy_X2 wFL_X2_21 rfl (by decide) rfl dX2_put_41 ?_
    refine x_aload_n C 0 rfl rfl dX2_put_44 ?_
    refine x_get C 0 2 0 rfl rfl wLy_X2 wFL_X2_31 rfl (by decide) rfl dX2_put_45 ?_
    refine x_iload C 4 rfl dX2_put_48 ?_
    refine x_iastN (f := xo) C 4 0 (Int32.toNatClampNeg xn) (wMx g ad xn (upd xs (Int32.toNatClampNeg xn) ps) (upd xv (Int32.toNatClampNeg xn) pv) (upd xh (Int32.toNatClampNeg xn) ph) (upd xo (Int32.toNatClampNeg xn) po) xc) rfl rfl rfl hx (by omega) (by decide) dX2_put_50 ?_
    refine x_aload_n C 0 rfl rfl dX2_put_51 ?_
    refine x_get C 0 2 5 rfl rfl wLy_X2 wFL_X2_24 rfl (by decide) rfl dX2_put_52 ?_
    refine x_aload_n C 0 rfl rfl dX2_put_55 ?_
    refine x_get C 0 2 0 rfl rfl wLy_X2 wFL_X2_31 rfl (by decide) rfl dX2_put_56 ?_
    refine x_iload C 5 rfl dX2_put_59 ?_
    refine x_iastN (f := xc) C 5 0 (Int32.toNatClampNeg xn) (wMx g ad xn (upd xs (Int32.toNatClampNeg xn) ps) (upd xv (Int32.toNatClampNeg xn) pv) (upd xh (Int32.toNatClampNeg xn) ph) (upd xo (Int32.toNatClampNeg xn) po) (upd xc (Int32.toNatClampNeg xn) pc0)) rfl rfl rfl hx (by omega) (by decide) dX2_put_61 ?_
    refine x_aload_n C 0 rfl rfl dX2_put_62 ?_
    refine x_dup C rfl dX2_put_63 ?_
    refine x_get C 0 2 0 rfl rfl wLy_X2 wFL_X2_31 rfl (by decide) rfl dX2_put_64 ?_
    refine x_iconst C 1 (by decide) dX2_put_67 ?_
    refine x_iadd C dX2_put_68 ?_
    refine x_put C 0 2 0 tyX2 (wMx g ad (xn + 1) (upd xs (Int32.toNatClampNeg xn) ps) (upd xv (Int32.toNatClampNeg xn) pv) (upd xh (Int32.toNatClampNeg xn) ph) (upd xo (Int32.toNatClampNeg xn) po) (upd xc (Int32.toNatClampNeg xn) pc0)) rfl rfl rfl wLy_X2 tyX2_ok nmX2 wFL_X2_31 rfl (by decide) rfl rfl rfl rfl (nlt rfl) dX2_put_69 ?_
    exact x_vret C hr (nle rfl) (nle rfl) dX2_put_72 ⟨rfl, (by first | (simp only [sp_X2_put_xn, sp_X2_put_xs, sp_X2_put_xv, sp_X2_put_xh, sp_X2_put_xo, sp_X2_put_xc, if_pos h1]; done) | (simp only [sp_X2_put_xn, sp_X2_put_xs, sp_X2_put_xv, sp_X2_put_xh, sp_X2_put_xo, sp_X2_put_xc, if_pos h1]; rfl))⟩
  · exact x_vret C hr (nle rfl) (nle rfl) dX2_put_9 ⟨rfl, (by first | (simp only [sp_X2_put_xn, sp_X2_put_xs, sp_X2_put_xv, sp_X2_put_xh, sp_X2_put_xo, sp_X2_put_xc, if_neg h1]; done) | (simp only [sp_X2_put_xn, sp_X2_put_xs, sp_X2_put_xv, sp_X2_put_xh, sp_X2_put_xo, sp_X2_put_xc, if_neg h1]; rfl))⟩
set_option maxRecDepth 100000 in
set_option maxHeartbeats 400000 in
theorem k_X2_shift (l : Launch) (g : xGt) (ad : Nat → Nat) (xn : Int32) (xs : Nat → Int32) (xv : Nat → Int32) (xh : Nat → Int32) (xo : Nat → Int32) (xc : Nat → Int32) (x_ka : Int32) (ka : Nat) (e_ka : x_ka = nI ka) (x_kb : Int32) (kb : Nat) (e_kb : x_kb = nI kb) (hka : ka < 12) (hkb : kb < 12) : xM l g.1 (xT g) yX2_shift (ws_ yX2_shift cX2_shift 3 none) (xRm 0 0 0 0) 0 0 [.ref (ad 6), .int x_ka, .int x_kb] (wMx g ad xn xs xv xh xo xc) (fun r9 w9 => r9 = none ∧ w9 = (wMx g ad xn (upd xs kb (xs ka)) (upd xv kb (xv ka)) (upd xh kb (xh ka)) (upd xo kb (xo ka)) (upd xc kb (xc ka)))) (fun _ _ => False) := by
  subst e_ka e_kb
  refine x_start (own := RX2) (nm := "shift") rfl rfl (by decide +kernel) rfl (nle rfl) (fun p e σ m args below meth c A C hno hr => ?_)
  refine x_lve (lv' := [(0, .ref (ad 6)), (1, .int (nI ka)), (2, .int (nI kb))]) rfl ?_
  refine x_aload_n C 0 rfl rfl dX2_shift_0 ?_
  refine x_get C 0 2 1 rfl rfl wLy_X2 wFL_X2_9 rfl (by decide) rfl dX2_shift_1 ?_
  refine x_iload_n C 2 rfl rfl dX2_shift_4 ?_
  refine x_aload_n C 0 rfl rfl dX2_shift_5 ?_
  refine x_get C 0 2 1 rfl rfl wLy_X2 wFL_X2_9 rfl (by decide) rfl dX2_shift_6 ?_
  refine x_iload_n C 1 rfl rfl dX2_shift_9 ?_
  refine x_ialdN (f := xs) C 1 0 ka rfl rfl rfl (by omega) (by decide) dX2_shift_10 ?_
  refine x_iastN (f := xs) C 1 0 kb (wMx g ad xn (upd xs kb (xs ka)) xv xh xo xc) rfl rfl rfl rfl (by omega) (by decide) dX2_shift_11 ?_
  refine x_aload_n C 0 rfl rfl dX2_shift_12 ?_
  refine x_get C 0 2 2 rfl rfl wLy_X2 wFL_X2_15 rfl (by decide) rfl dX2_shift_13 ?_
  refine x_iload_n C 2 rfl rfl dX2_shift_16 ?_
  refine x_aload_n C 0 rfl rfl dX2_shift_17 ?_
  refine x_get C 0 2 2 rfl rfl wLy_X2 wFL_X2_15 rfl (by decide) rfl dX2_shift_18 ?_
  refine x_iload_n C 1 rfl rfl dX2_shift_21 ?_
  refine x_ialdN (f := xv) C 2 0 ka rfl rfl rfl (by omega) (by decide) dX2_shift_22 ?_
  refine x_iastN (f := xv) C 2 0 kb (wMx g ad xn (upd xs kb (xs ka)) (upd xv kb (xv ka)) xh xo xc) rfl rfl rfl rfl (by omega) (by decide) dX2_shift_23 ?_
  refine x_aload_n C 0 rfl rfl dX2_shift_24 ?_
  refine x_get C 0 2 3 rfl rfl wLy_X2 wFL_X2_18 rfl (by decide) rfl dX2_shift_25 ?_
  refine x_iload_n C 2 rfl rfl dX2_shift_28 ?_
  refine x_aload_n C 0 rfl rfl dX2_shift_29 ?_
  refine x_get C 0 2 3 rfl rfl wLy_X2 wFL_X2_18 rfl (by decide) rfl dX2_shift_30 ?_
  refine x_iload_n C 1 rfl rfl dX2_shift_33 ?_
  refine x_ialdN (f := xh) C 3 0 ka rfl rfl rfl (by omega) (by decide) dX2_shift_34 ?_
  refine x_iastN (f := xh) C 3 0 kb (wMx g ad xn (upd xs kb (xs ka)) (upd xv kb (xv ka)) (upd xh kb (xh ka)) xo xc) rfl rfl rfl rfl (by omega) (by decide) dX2_shift_35 ?_
  refine x_aload_n C 0 rfl rfl dX2_shift_36 ?_
  refine x_get C 0 2 4 rfl rfl wLy_X2 wFL_X2_21 rfl (by decide) rfl dX2_shift_37 ?_
  refine x_iload_n C 2 rfl rfl dX2_shift_40 ?_
  refine x_aload_n C 0 rfl rfl dX2_shift_41 ?_
  refine x_get C 0 2 4 rfl rfl wLy_X2 wFL_X2_21 rfl (by decide) rfl dX2_shift_42 ?_
  refine x_iload_n C 1 rfl rfl dX2_shift_45 ?_
  refine x_ialdN (f := xo) C 4 0 ka rfl rfl rfl (by omega) (by decide) dX2_shift_46 ?_
  refine x_iastN (f := xo) C 4 0 kb (wMx g ad xn (upd xs kb (xs ka)) (upd xv kb (xv ka)) (upd xh kb (xh ka)) (upd xo kb (xo ka)) xc) rfl rfl rfl rfl (by omega) (by decide) dX2_shift_47 ?_
  refine x_aload_n C 0 rfl rfl dX2_shift_48 ?_
  refine x_get C 0 2 5 rfl rfl wLy_X2 wFL_X2_24 rfl (by decide) rfl dX2_shift_49 ?_
  refine x_iload_n C 2 rfl rfl dX2_shift_52 ?_
  refine x_aload_n C 0 rfl rfl dX2_shift_53 ?_
  refine x_get C 0 2 5 rfl rfl wLy_X2 wFL_X2_24 rfl (by decide) rfl dX2_shift_54 ?_
  refine x_iload_n C 1 rfl rfl dX2_shift_57 ?_
  refine x_ialdN (f := xc) C 5 0 ka rfl rfl rfl (by omega) (by decide) dX2_shift_58 ?_
  refine x_iastN (f := xc) C 5 0 kb (wMx g ad xn (upd xs kb (xs ka)) (upd xv kb (xv ka)) (upd xh kb (xh ka)) (upd xo kb (xo ka)) (upd xc kb (xc ka))) rfl rfl rfl rfl (by omega) (by decide) dX2_shift_59 ?_
  exact x_vret C hr (nle rfl) (nle rfl) dX2_shift_60 ⟨rfl, rfl⟩
def sp_dra (k : Nat) (a0 : (Nat → Int32)) (a1 : (Nat → Int32)) (a2 : (Nat → Int32)) (a3 : (Nat → Int32)) (a4 : (Nat → Int32)) : Nat → (Nat → Int32) × (Nat → Int32) × (Nat → Int32) × (Nat → Int32) × (Nat → Int32)
  | 0 => (a0, a1, a2, a3, a4)
  | i1 + 1 => ((upd ((sp_dra k a0 a1 a2 a3 a4 i1).1) (k + i1) (((sp_dra k a0 a1 a2 a3 a4 i1).1) (k + i1 + 1))), (upd ((sp_dra k a0 a1 a2 a3 a4 i1).2.1) (k + i1) (((sp_dra k a0 a1 a2 a3 a4 i1).2.1) (k + i1 + 1))), (upd ((sp_dra k a0 a1 a2 a3 a4 i1).2.2.1) (k + i1) (((sp_dra k a0 a1 a2 a3 a4 i1).2.2.1) (k + i1 + 1))), (upd ((sp_dra k a0 a1 a2 a3 a4 i1).2.2.2.1) (k + i1) (((sp_dra k a0 a1 a2 a3 a4 i1).2.2.2.1) (k + i1 + 1))), (upd ((sp_dra k a0 a1 a2 a3 a4 i1).2.2.2.2) (k + i1) (((sp_dra k a0 a1 a2 a3 a4 i1).2.2.2.2) (k + i1 + 1))))
set_option maxRecDepth 100000 in
set_option maxHeartbeats 400000 in
theorem k_X2_dropAt (l : Launch) (g : xGt) (ad : Nat → Nat) (xn : Int32) (xs : Nat → Int32) (xv : Nat → Int32) (xh : Nat → Int32) (xo : Nat → Int32) (xc : Nat → Int32) (x_k : Int32) (k : Nat) (e_k : x_k = nI k) (hx : xn = nI (Int32.toNatClampNeg xn)) (h12 : Int32.toNatClampNeg xn ≤ 12) (hk : k < Int32.toNatClampNeg xn) : xM l g.1 (xT g) yX2_dropAt (ws_ yX2_dropAt cX2_dropAt 3 none) (xRm 1 22 0 0) 0 0 [.ref (ad 6), .int x_k] (wMx g ad xn xs xv xh xo xc) (fun r9 w9 => r9 = none ∧ w9 = (wMx g ad (xn - 1) ((sp_dra k xs xv xh xo xc ((Int32.toNatClampNeg xn - 1) - k)).1) ((sp_dra k xs xv xh xo xc ((Int32.toNatClampNeg xn - 1) - k)).2.1) ((sp_dra k xs xv xh xo xc ((Int32.toNatClampNeg xn - 1) - k)).2.2.1) ((sp_dra k xs xv xh xo xc ((Int32.toNatClampNeg xn - 1) - k)).2.2.2.1) ((sp_dra k xs xv xh xo xc ((Int32.toNatClampNeg xn - 1) - k)).2.2.2.2))) (fun _ _ => False) := by
  subst e_k
  refine x_start (own := RX2) (nm := "dropAt") rfl rfl (by decide +kernel) rfl (nle rfl) (fun p e σ m args below meth c A C hno hr => ?_)
  refine x_lve (lv' := [(0, .ref (ad 6)), (1, .int (nI k))]) rfl ?_
  refine x_iload_n C 1 rfl rfl dX2_dropAt_0 ?_
  refine x_istore_n C [(2, .int (nI k)), (0, .ref (ad 6)), (1, .int (nI k))] rfl rfl (by decide) dX2_dropAt_1 ?_
  suffices L1 : ∀ (n1 i1 : Nat), i1 + n1 = ((Int32.toNatClampNeg xn - 1) - k) → xW p l e _ σ m args below meth c g.1 A 3 0 0 _ (wMx g ad xn ((sp_dra k xs xv xh xo xc i1).1) ((sp_dra k xs xv xh xo xc i1).2.1) ((sp_dra k xs xv xh xo xc i1).2.2.1) ((sp_dra k xs xv xh xo xc i1).2.2.2.1) ((sp_dra k xs xv xh xo xc i1).2.2.2.2)) [(2, .int (nI (k + i1))), (0, .ref (ad 6)), (1, .int (nI k))] 2 [] by
    exact L1 (((Int32.toNatClampNeg xn - 1) - k)) 0 (by omega)
  intro n1
  induction n1 with
  | zero =>
    intro i1 hn1
    have hz_ : i1 = ((Int32.toNatClampNeg xn - 1) - k) := by omega
    subst i1
    refine x_iload_n C 0 rfl rfl dX2_dropAt_2 ?_
    refine x_aload_n C 1 rfl rfl dX2_dropAt_3 ?_
    refine x_get C 0 2 0 rfl rfl wLy_X2 wFL_X2_31 rfl (by decide) rfl dX2_dropAt_4 ?_
    refine x_iconst C 1 (by decide) dX2_dropAt_7 ?_
    refine x_isubN C (Int32.toNatClampNeg xn) 1 hx rfl (by omega) dX2_dropAt_8 ?_
    refine x_icmp_ge C 26 (by decide) dX2_dropAt_9 (fun _ => ?_) (fun hz => absurd (xge rfl rfl (by omega) (by omega)) hz)
    refine x_aload_n C 1 rfl rfl dX2_dropAt_26 ?_
    refine x_dup C rfl dX2_dropAt_27 ?_
    refine x_get C 0 2 0 rfl rfl wLy_X2 wFL_X2_31 rfl (by decide) rfl dX2_dropAt_28 ?_
    refine x_iconst C 1 (by decide) dX2_dropAt_31 ?_
    refine x_isub C dX2_dropAt_32 ?_
    refine x_put C 0 2 0 tyX2 (wMx g ad (xn - 1) ((sp_dra k xs xv xh xo xc ((Int32.toNatClampNeg xn - 1) - k)).1) ((sp_dra k xs xv xh xo xc ((Int32.toNatClampNeg xn - 1) - k)).2.1) ((sp_dra k xs xv xh xo xc ((Int32.toNatClampNeg xn - 1) - k)).2.2.1) ((sp_dra k xs xv xh xo xc ((Int32.toNatClampNeg xn - 1) - k)).2.2.2.1) ((sp_dra k xs xv xh xo xc ((Int32.toNatClampNeg xn - 1) - k)).2.2.2.2)) rfl rfl rfl wLy_X2 tyX2_ok nmX2 wFL_X2_31 rfl (by decide) rfl rfl rfl rfl (nlt rfl) dX2_dropAt_33 ?_
    exact x_vret C hr (nle rfl) (nle rfl) dX2_dropAt_36 ⟨rfl, rfl⟩
  | succ n1 ih1 =>
    intro i1 hn1
    refine x_iload_n C 0 rfl rfl dX2_dropAt_2 ?_
    refine x_aload_n C 1 rfl rfl dX2_dropAt_3 ?_
    refine x_get C 0 2 0 rfl rfl wLy_X2 wFL_X2_31 rfl (by decide) rfl dX2_dropAt_4 ?_
    refine x_iconst C 1 (by decide) dX2_dropAt_7 ?_
    refine x_isubN C (Int32.toNatClampNeg xn) 1 hx rfl (by omega) dX2_dropAt_8 ?_
    refine x_icmp_ge C 26 (by decide) dX2_dropAt_9 (fun hz => absurd hz (xnge rfl rfl (by omega) (by omega))) (fun _ => ?_)
    refine x_aload_n C 1 rfl rfl dX2_dropAt_12 ?_
    refine x_iload_n C 0 rfl rfl dX2_dropAt_13 ?_
    refine x_iconst C 1 (by decide) dX2_dropAt_14 ?_
    refine x_iaddN C (k + i1) 1 rfl rfl dX2_dropAt_15 ?_
    refine x_iload_n C 0 rfl rfl dX2_dropAt_16 ?_
    refine x_GV (w1 := ([] : va_W)) (wc := _) (w2 := ([] : va_W)) [.int (nI (k + i1 + 1)), .int (nI (k + i1))] [] (wMx g ad xn (upd ((sp_dra k xs xv xh xo xc i1).1) (k + i1) (((sp_dra k xs xv xh xo xc i1).1) (k + i1 + 1))) (upd ((sp_dra k xs xv xh xo xc i1).2.1) (k + i1) (((sp_dra k xs xv xh xo xc i1).2.1) (k + i1 + 1))) (upd ((sp_dra k xs xv xh xo xc i1).2.2.1) (k + i1) (((sp_dra k xs xv xh xo xc i1).2.2.1) (k + i1 + 1))) (upd ((sp_dra k xs xv xh xo xc i1).2.2.2.1) (k + i1) (((sp_dra k xs xv xh xo xc i1).2.2.2.1) (k + i1 + 1))) (upd ((sp_dra k xs xv xh xo xc i1).2.2.2.2) (k + i1) (((sp_dra k xs xv xh xo xc i1).2.2.2.2) (k + i1 + 1)))) C (k_X2_shift l g ad xn ((sp_dra k xs xv xh xo xc i1).1) ((sp_dra k xs xv xh xo xc i1).2.1) ((sp_dra k xs xv xh xo xc i1).2.2.1) ((sp_dra k xs xv xh xo xc i1).2.2.2.1) ((sp_dra k xs xv xh xo xc i1).2.2.2.2) (nI (k + i1 + 1)) (k + i1 + 1) rfl (nI (k + i1)) (k + i1) rfl (by omega) (by omega)) rfl yV_X2_shift wML_X2_39 rfl 0 rfl rfl rfl rfl (nle rfl) (nle rfl) (nle rfl) (nle rfl) (nle rfl) dX2_dropAt_17 ?_
    refine x_iinc C 0 (nI (k + i1 + 1)) [(2, .int (nI (k + i1 + 1))), (0, .ref (ad 6)), (1, .int (nI k))] rfl (nI_add _ _) rfl (by decide) dX2_dropAt_20 ?_
    refine x_goto C 2 (by decide) dX2_dropAt_23 ?_
    have es1 : (sp_dra k xs xv xh xo xc (i1 + 1)) = ((upd ((sp_dra k xs xv xh xo xc i1).1) (k + i1) (((sp_dra k xs xv xh xo xc i1).1) (k + i1 + 1))), (upd ((sp_dra k xs xv xh xo xc i1).2.1) (k + i1) (((sp_dra k xs xv xh xo xc i1).2.1) (k + i1 + 1))), (upd ((sp_dra k xs xv xh xo xc i1).2.2.1) (k + i1) (((sp_dra k xs xv xh xo xc i1).2.2.1) (k + i1 + 1))), (upd ((sp_dra k xs xv xh xo xc i1).2.2.2.1) (k + i1) (((sp_dra k xs xv xh xo xc i1).2.2.2.1) (k + i1 + 1))), (upd ((sp_dra k xs xv xh xo xc i1).2.2.2.2) (k + i1) (((sp_dra k xs xv xh xo xc i1).2.2.2.2) (k + i1 + 1)))) := rfl
    refine x_lve (lv' := [(2, .int (nI (k + (i1 + 1)))), (0, .ref (ad 6)), (1, .int (nI k))]) (by first | rw [es1] | rfl) ?_
    refine x_ws (ws' := (wMx g ad xn ((sp_dra k xs xv xh xo xc (i1 + 1)).1) ((sp_dra k xs xv xh xo xc (i1 + 1)).2.1) ((sp_dra k xs xv xh xo xc (i1 + 1)).2.2.1) ((sp_dra k xs xv xh xo xc (i1 + 1)).2.2.2.1) ((sp_dra k xs xv xh xo xc (i1 + 1)).2.2.2.2))) (by first | rw [es1] | rfl) ?_
    exact ih1 (i1 + 1) (by omega)
def sp_X2_holds (xc : Nat → Int32) (k : Nat) (z : Int32) : Int32 := (if (xc k) = 1 then (if z = 0 then (1 : Int32) else 0) else (if (xc k) = 0 then (1 : Int32) else (if z = 0 then (0 : Int32) else 1)))
theorem spb_X2_holds (xc : Nat → Int32) (k : Nat) (z : Int32) (b_z : z = 0 ∨ z = 1) : (sp_X2_holds xc k z) = 0 ∨ (sp_X2_holds xc k z) = 1 := by
  unfold sp_X2_holds
  exact (bool_ite (bool_ite (Or.inr rfl) (Or.inl rfl)) (bool_ite (Or.inr rfl) (bool_ite (Or.inl rfl) (Or.inr rfl))))
set_option maxRecDepth 100000 in
set_option maxHeartbeats 400000 in
theorem k_X2_holds (l : Launch) (g : xGt) (ad : Nat → Nat) (xn : Int32) (xs : Nat → Int32) (xv : Nat → Int32) (xh : Nat → Int32) (xo : Nat → Int32) (xc : Nat → Int32) (x_k : Int32) (k : Nat) (e_k : x_k = nI k) (z : Int32) (b_z : z = 0 ∨ z = 1) (hk : k < 12) : xM l g.1 (xT g) yX2_holds (ws_ yX2_holds cX2_holds 3 (some .boolean)) (xRm 0 0 0 0) 0 0 [.ref (ad 6), .int x_k, .int z] (wMx g ad xn xs xv xh xo xc) (fun r9 w9 => r9 = some (.int (sp_X2_holds xc k z)) ∧ w9 = (wMx g ad xn xs xv xh xo xc)) (fun _ _ => False) := by
  subst e_k
  refine x_start (own := RX2) (nm := "holds") rfl rfl (by decide +kernel) rfl (nle rfl) (fun p e σ m args below meth c A C hno hr => ?_)
  refine x_lve (lv' := [(0, .ref (ad 6)), (1, .int (nI k)), (2, .int z)]) rfl ?_
  refine x_aload_n C 0 rfl rfl dX2_holds_0 ?_
  refine x_get C 0 2 5 rfl rfl wLy_X2 wFL_X2_24 rfl (by decide) rfl dX2_holds_1 ?_
  refine x_iload_n C 1 rfl rfl dX2_holds_4 ?_
  refine x_ialdN (f := xc) C 5 0 k rfl rfl rfl (by omega) (by decide) dX2_holds_5 ?_
  refine x_iconst C 1 (by decide) dX2_holds_6 ?_
  refine x_icmp_ne C 20 (by decide) dX2_holds_7 (fun h1 => ?_) (fun h1 => ?_)
  · refine x_aload_n C 0 rfl rfl dX2_holds_20 ?_
    refine x_get C 0 2 5 rfl rfl wLy_X2 wFL_X2_24 rfl (by decide) rfl dX2_holds_21 ?_
    refine x_iload_n C 1 rfl rfl dX2_holds_24 ?_
    refine x_ialdN (f := xc) C 5 0 k rfl rfl rfl (by omega) (by decide) dX2_holds_25 ?_
    suffices K3 : xW p l e _ σ m args below meth c g.1 A 3 0 0 _ (wMx g ad xn xs xv xh xo xc) [(0, .ref (ad 6)), (1, .int (nI k)), (2, .int z)] 38 [.int (if (xc k) = 0 then (1 : Int32) else (if z = 0 then (0 : Int32) else 1))] by
      refine x_if_eq C 33 (by decide) dX2_holds_26 (fun h2 => ?_) (fun h2 => ?_)
      · refine x_iconst C 1 (by decide) dX2_holds_33 ?_
        refine x_goto C 38 (by decide) dX2_holds_34 ?_
        refine x_st (st' := [.int (if (xc k) = 0 then (1 : Int32) else (if z = 0 then (0 : Int32) else 1))]) (by simp only [if_pos h2]) ?_
        exact K3
      · refine x_iload_n C 2 rfl rfl dX2_holds_29 ?_
        refine x_if_eq C 37 (by decide) dX2_holds_30 (fun h3 => ?_) (fun h3 => ?_)
        · refine x_iconst C 0 (by decide) dX2_holds_37 ?_
          refine x_st (st' := [.int (if (xc k) = 0 then (1 : Int32) else (if z = 0 then (0 : Int32) else 1))]) (by simp only [if_neg h2, if_pos h3]) ?_
          exact K3
        · refine x_iconst C 1 (by decide) dX2_holds_33 ?_
          refine x_goto C 38 (by decide) dX2_holds_34 ?_
          refine x_st (st' := [.int (if (xc k) = 0 then (1 : Int32) else (if z = 0 then (0 : Int32) else 1))]) (by simp only [if_neg h2, if_neg h3]) ?_
          exact K3
    exact x_zret C hr (xnz (bool_ite (Or.inr rfl) (bool_ite (Or.inl rfl) (Or.inr rfl)))) (nle rfl) (nle rfl) dX2_holds_38 ⟨(by first | (simp only [sp_X2_holds, if_neg h1]; done) | (simp only [sp_X2_holds, if_neg h1]; rfl)), rfl⟩
  · refine x_iload_n C 2 rfl rfl dX2_holds_10 ?_
    suffices K6 : xW p l e _ σ m args below meth c g.1 A 3 0 0 _ (wMx g ad xn xs xv xh xo xc) [(0, .ref (ad 6)), (1, .int (nI k)), (2, .int z)] 19 [.int (if z = 0 then (1 : Int32) else 0)] by
      refine x_if_ne C 18 (by decide) dX2_holds_11 (fun h5 => ?_) (fun h5 => ?_)
      · refine x_iconst C 0 (by decide) dX2_holds_18 ?_
        refine x_st (st' := [.int (if z = 0 then (1 : Int32) else 0)]) (by simp only [if_neg h5]) ?_
        exact K6
      · refine x_iconst C 1 (by decide) dX2_holds_14 ?_
        refine x_goto C 19 (by decide) dX2_holds_15 ?_
        refine x_st (st' := [.int (if z = 0 then (1 : Int32) else 0)]) (by simp only [if_pos h5]) ?_
        exact K6
    exact x_zret C hr (xnz (bool_ite (Or.inr rfl) (Or.inl rfl))) (nle rfl) (nle rfl) dX2_holds_19 ⟨(by first | (simp only [sp_X2_holds, if_pos h1]; done) | (simp only [sp_X2_holds, if_pos h1]; rfl)), rfl⟩
def sp_X2_isFrom (xs : Nat → Int32) (k : Nat) (sk : Int32) (kn : Int32) : Int32 := (if 4 ≤ (xs k) then (if ((kn >>> (((xs k) - 4) &&& 31)) &&& 1) = 1 then (1 : Int32) else 0) else (if (xs k) = sk then (1 : Int32) else 0))
theorem spb_X2_isFrom (xs : Nat → Int32) (k : Nat) (sk : Int32) (kn : Int32)  : (sp_X2_isFrom xs k sk kn) = 0 ∨ (sp_X2_isFrom xs k sk kn) = 1 := by
  unfold sp_X2_isFrom
  exact (bool_ite (bool_ite (Or.inr rfl) (Or.inl rfl)) (bool_ite (Or.inr rfl) (Or.inl rfl)))
set_option maxRecDepth 100000 in
set_option maxHeartbeats 400000 in
theorem k_X2_isFrom (l : Launch) (g : xGt) (ad : Nat → Nat) (xn : Int32) (xs : Nat → Int32) (xv : Nat → Int32) (xh : Nat → Int32) (xo : Nat → Int32) (xc : Nat → Int32) (x_k : Int32) (k : Nat) (e_k : x_k = nI k) (sk : Int32) (kn : Int32) (hk : k < 12) : xM l g.1 (xT g) yX2_isFrom (ws_ yX2_isFrom cX2_isFrom 4 (some .boolean)) (xRm 0 0 0 0) 0 0 [.ref (ad 6), .int x_k, .int sk, .int kn] (wMx g ad xn xs xv xh xo xc) (fun r9 w9 => r9 = some (.int (sp_X2_isFrom xs k sk kn)) ∧ w9 = (wMx g ad xn xs xv xh xo xc)) (fun _ _ => False) := by
  subst e_k
  refine x_start (own := RX2) (nm := "isFrom") rfl rfl (by decide +kernel) rfl (nle rfl) (fun p e σ m args below meth c A C hno hr => ?_)
  refine x_lve (lv' := [(0, .ref (ad 6)), (1, .int (nI k)), (2, .int sk), (3, .int kn)]) rfl ?_
  refine x_aload_n C 0 rfl rfl dX2_isFrom_0 ?_
  refine x_get C 0 2 1 rfl rfl wLy_X2 wFL_X2_9 rfl (by decide) rfl dX2_isFrom_1 ?_
  refine x_iload_n C 1 rfl rfl dX2_isFrom_4 ?_
  refine x_ialdN (f := xs) C 1 0 k rfl rfl rfl (by omega) (by decide) dX2_isFrom_5 ?_
  refine x_iconst C 4 (by decide) dX2_isFrom_6 ?_
  refine x_icmp_ge C 26 (by decide) dX2_isFrom_7 (fun h1 => ?_) (fun h1 => ?_)
  · refine x_iload_n C 3 rfl rfl dX2_isFrom_26 ?_
    refine x_aload_n C 0 rfl rfl dX2_isFrom_27 ?_
    refine x_get C 0 2 1 rfl rfl wLy_X2 wFL_X2_9 rfl (by decide) rfl dX2_isFrom_28 ?_
    refine x_iload_n C 1 rfl rfl dX2_isFrom_31 ?_
    refine x_ialdN (f := xs) C 1 0 k rfl rfl rfl (by omega) (by decide) dX2_isFrom_32 ?_
    refine x_iconst C 4 (by decide) dX2_isFrom_33 ?_
    refine x_isub C dX2_isFrom_34 ?_
    refine x_ishr C dX2_isFrom_35 ?_
    refine x_iconst C 1 (by decide) dX2_isFrom_36 ?_
    refine x_iand C dX2_isFrom_37 ?_
    refine x_iconst C 1 (by decide) dX2_isFrom_38 ?_
    suffices K3 : xW p l e _ σ m args below meth c g.1 A 4 0 0 _ (wMx g ad xn xs xv xh xo xc) [(0, .ref (ad 6)), (1, .int (nI k)), (2, .int sk), (3, .int kn)] 47 [.int (if ((kn >>> (((xs k) - 4) &&& 31)) &&& 1) = 1 then (1 : Int32) else 0)] by
      refine x_icmp_ne C 46 (by decide) dX2_isFrom_39 (fun h2 => ?_) (fun h2 => ?_)
      · refine x_iconst C 0 (by decide) dX2_isFrom_46 ?_
        refine x_st (st' := [.int (if ((kn >>> (((xs k) - 4) &&& 31)) &&& 1) = 1 then (1 : Int32) else 0)]) (by simp only [if_neg h2]) ?_
        exact K3
      · refine x_iconst C 1 (by decide) dX2_isFrom_42 ?_
        refine x_goto C 47 (by decide) dX2_isFrom_43 ?_
        refine x_st (st' := [.int (if ((kn >>> (((xs k) - 4) &&& 31)) &&& 1) = 1 then (1 : Int32) else 0)]) (by simp only [if_pos h2]) ?_
        exact K3
    exact x_zret C hr (xnz (bool_ite (Or.inr rfl) (Or.inl rfl))) (nle rfl) (nle rfl) dX2_isFrom_47 ⟨(by first | (simp only [sp_X2_isFrom, if_pos h1]; done) | (simp only [sp_X2_isFrom, if_pos h1]; rfl)), rfl⟩
  · refine x_aload_n C 0 rfl rfl dX2_isFrom_10 ?_
    refine x_get C 0 2 1 rfl rfl wLy_X2 wFL_X2_9 rfl (by decide) rfl dX2_isFrom_11 ?_
    refine x_iload_n C 1 rfl rfl dX2_isFrom_14 ?_
    refine x_ialdN (f := xs) C 1 0 k rfl rfl rfl (by omega) (by decide) dX2_isFrom_15 ?_
    refine x_iload_n C 2 rfl rfl dX2_isFrom_16 ?_
    suffices K5 : xW p l e _ σ m args below meth c g.1 A 4 0 0 _ (wMx g ad xn xs xv xh xo xc) [(0, .ref (ad 6)), (1, .int (nI k)), (2, .int sk), (3, .int kn)] 25 [.int (if (xs k) = sk then (1 : Int32) else 0)] by
      refine x_icmp_ne C 24 (by decide) dX2_isFrom_17 (fun h4 => ?_) (fun h4 => ?_)
      · refine x_iconst C 0 (by decide) dX2_isFrom_24 ?_
        refine x_st (st' := [.int (if (xs k) = sk then (1 : Int32) else 0)]) (by simp only [if_neg h4]) ?_
        exact K5
      · refine x_iconst C 1 (by decide) dX2_isFrom_20 ?_
        refine x_goto C 25 (by decide) dX2_isFrom_21 ?_
        refine x_st (st' := [.int (if (xs k) = sk then (1 : Int32) else 0)]) (by simp only [if_pos h4]) ?_
        exact K5
    exact x_zret C hr (xnz (bool_ite (Or.inr rfl) (Or.inl rfl))) (nle rfl) (nle rfl) dX2_isFrom_25 ⟨(by first | (simp only [sp_X2_isFrom, if_neg h1]; done) | (simp only [sp_X2_isFrom, if_neg h1]; rfl)), rfl⟩
def pOk (ln pa : Int32) : Prop := ln = nI ln.toNatClampNeg ∧ ln.toNatClampNeg ≤ 60 ∧ pa = nI pa.toNatClampNeg ∧ pa.toNatClampNeg ≤ ln.toNatClampNeg
theorem pa1_ok {ln pa : Int32} (h : pOk ln pa) (hl : pa.toNatClampNeg < ln.toNatClampNeg) : pOk ln (pa + 1) ∧ (pa + 1).toNatClampNeg = pa.toNatClampNeg + 1 := by
  obtain ⟨h1, h2, h3, h4⟩ := h
  have e : pa + 1 = nI (pa.toNatClampNeg + 1) := by conv => lhs; rw [h3]
                                                    exact nI_1 _
  have e2 : (pa + 1).toNatClampNeg = pa.toNatClampNeg + 1 := by rw [e, nI_clamp (by omega)]
  exact ⟨⟨h1, h2, by rw [e2]; exact e, by rw [e2]; omega⟩, e2⟩
def sp_idv (xn : Int32) (xs : Nat → Int32) (xv : Nat → Int32) (xc : Nat → Int32) (ds : Int32) (sk : Int32) (kn : Int32) (z : Int32) : Nat → (Int32) → Int32 × (Int32)
  | 0, v1_5 => (0, v1_5)
  | f_ + 1, v1_5 => (if xn ≤ v1_5 then (0, v1_5) else (if (xv (Int32.toNatClampNeg v1_5)) = ds then (if (sp_X2_holds xc (Int32.toNatClampNeg v1_5) z) = 0 then (sp_idv xn xs xv xc ds sk kn z f_ (v1_5 + 1)) else (if (sp_X2_isFrom xs (Int32.toNatClampNeg v1_5) sk kn) = 0 then (sp_idv xn xs xv xc ds sk kn z f_ (v1_5 + 1)) else (1, v1_5))) else (sp_idv xn xs xv xc ds sk kn z f_ (v1_5 + 1))))
set_option maxRecDepth 100000 in
set_option maxHeartbeats 400000 in
theorem k_X2_isDriven (l : Launch) (g : xGt) (ad : Nat → Nat) (xn : Int32) (xs : Nat → Int32) (xv : Nat → Int32) (xh : Nat → Int32) (xo : Nat → Int32) (xc : Nat → Int32) (ds : Int32) (sk : Int32) (kn : Int32) (z : Int32) (b_z : z = 0 ∨ z = 1) (hx : xn = nI (Int32.toNatClampNeg xn)) (h12 : Int32.toNatClampNeg xn ≤ 12) : xM l g.1 (xT g) yX2_isDriven (ws_ yX2_isDriven cX2_isDriven 6 (some .boolean)) (xRm 1 23 0 0) 0 0 [.ref (ad 6), .int ds, .int sk, .int kn, .int z] (wMx g ad xn xs xv xh xo xc) (fun r9 w9 => r9 = some (.int ((sp_idv xn xs xv xc ds sk kn z 13 0).1)) ∧ w9 = (wMx g ad xn xs xv xh xo xc)) (fun _ _ => False) := by
  refine x_start (own := RX2) (nm := "isDriven") rfl rfl (by decide +kernel) rfl (nle rfl) (fun p e σ m args below meth c A C hno hr => ?_)
  refine x_lve (lv' := [(0, .ref (ad 6)), (1, .int ds), (2, .int sk), (3, .int kn), (4, .int z)]) rfl ?_
  refine x_iconst C 0 (by decide) dX2_isDriven_0 ?_
  refine x_istore C [(5, .int 0), (0, .ref (ad 6)), (1, .int ds), (2, .int sk), (3, .int kn), (4, .int z)] rfl (by decide) dX2_isDriven_1 ?_
  suffices KL1 : ∀ (f_ : Nat) (v1_5 : Int32), pOk xn v1_5 → xn.toNatClampNeg - v1_5.toNatClampNeg < f_ → sp_idv xn xs xv xc ds sk kn z f_ v1_5 = (sp_idv xn xs xv xc ds sk kn z 13 0) → xW p l e _ σ m args below meth c g.1 A 6 0 0 _ (wMx g ad xn xs xv xh xo xc) [(5, .int v1_5), (0, .ref (ad 6)), (1, .int ds), (2, .int sk), (3, .int kn), (4, .int z)] 3 [] by
    exact KL1 13 0 ⟨hx, by omega, rfl, Nat.zero_le _⟩ (by omega) rfl
  intro f_
  induction f_ with
  | zero =>
    intro v1_5 hi1 hme1 hq1
    exact absurd hme1 (Nat.not_lt_zero _)
  | succ f_ ih1 =>
    intro v1_5 hi1 hme1 hq1
    refine x_iload C 0 rfl dX2_isDriven_3 ?_
    refine x_aload_n C 1 rfl rfl dX2_isDriven_5 ?_
    refine x_get C 0 2 0 rfl rfl wLy_X2 wFL_X2_31 rfl (by decide) rfl dX2_isDriven_6 ?_
    refine x_icmp_ge C 53 (by decide) dX2_isDriven_9 (fun h2 => ?_) (fun h2 => ?_)
    · refine x_iconst C 0 (by decide) dX2_isDriven_53 ?_
      have e3 : (sp_idv xn xs xv xc ds sk kn z 13 0) = (0, v1_5) := by rw [← hq1]; simp only [sp_idv, if_pos h2]
      refine x_st (st' := [.int ((sp_idv xn xs xv xc ds sk kn z 13 0).1)]) (by simp only [e3]) ?_
      exact x_zret C hr (xnz (by rw [e3]; exact (Or.inl rfl))) (nle rfl) (nle rfl) dX2_isDriven_54 ⟨rfl, rfl⟩
    · have hlt := xlt_of hx hi1.2.2.1 (Int32.toNatClampNeg_lt _) (Int32.toNatClampNeg_lt _) h2
      refine x_aload_n C 1 rfl rfl dX2_isDriven_12 ?_
      refine x_get C 0 2 2 rfl rfl wLy_X2 wFL_X2_15 rfl (by decide) rfl dX2_isDriven_13 ?_
      refine x_iload C 0 rfl dX2_isDriven_16 ?_
      refine x_ialdN (f := xv) C 2 0 (Int32.toNatClampNeg v1_5) rfl rfl hi1.2.2.1 (by omega) (by decide) dX2_isDriven_18 ?_
      refine x_iload_n C 2 rfl rfl dX2_isDriven_19 ?_
      refine x_icmp_ne C 47 (by decide) dX2_isDriven_20 (fun h4 => ?_) (fun h4 => ?_)
      · refine x_iinc C 0 (v1_5 + 1) [(5, .int (v1_5 + 1)), (0, .ref (ad 6)), (1, .int ds), (2, .int sk), (3, .int kn), (4, .int z)] rfl (rfl) rfl (by decide) dX2_isDriven_47 ?_
        refine x_goto C 3 (by decide) dX2_isDriven_50 ?_
        exact ih1 (v1_5 + 1) (pa1_ok hi1 hlt).1 (by have q2 := (pa1_ok hi1 hlt).2; omega) (by rw [← hq1]; simp only [sp_idv, if_neg h2, if_neg h4])
      · refine x_aload_n C 1 rfl rfl dX2_isDriven_23 ?_
        refine x_iload C 0 rfl dX2_isDriven_24 ?_
        refine x_iload C 5 rfl dX2_isDriven_26 ?_
        refine x_FV (w1 := ([] : va_W)) (wc := _) (w2 := ([] : va_W)) [.int v1_5, .int z] [] (wMx g ad xn xs xv xh xo xc) C (k_X2_holds l g ad xn xs xv xh xo xc v1_5 (Int32.toNatClampNeg v1_5) hi1.2.2.1 z b_z (by omega)) rfl yV_X2_holds wML_X2_43 rfl 0 rfl rfl rfl rfl (nle rfl) (nle rfl) (nle rfl) (nle rfl) (nle rfl) dX2_isDriven_28 ?_
        refine x_if_eq C 47 (by decide) dX2_isDriven_31 (fun h5 => ?_) (fun h5 => ?_)
        · refine x_iinc C 0 (v1_5 + 1) [(5, .int (v1_5 + 1)), (0, .ref (ad 6)), (1, .int ds), (2, .int sk), (3, .int kn), (4, .int z)] rfl (rfl) rfl (by decide) dX2_isDriven_47 ?_
          refine x_goto C 3 (by decide) dX2_isDriven_50 ?_
          exact ih1 (v1_5 + 1) (pa1_ok hi1 hlt).1 (by have q2 := (pa1_ok hi1 hlt).2; omega) (by rw [← hq1]; simp only [sp_idv, if_neg h2, if_pos h4, if_pos h5])
        · refine x_aload_n C 1 rfl rfl dX2_isDriven_34 ?_
          refine x_iload C 0 rfl dX2_isDriven_35 ?_
          refine x_iload_n C 3 rfl rfl dX2_isDriven_37 ?_
          refine x_iload_n C 4 rfl rfl dX2_isDriven_38 ?_
          refine x_FV (w1 := ([] : va_W)) (wc := _) (w2 := ([] : va_W)) [.int v1_5, .int sk, .int kn] [] (wMx g ad xn xs xv xh xo xc) C (k_X2_isFrom l g ad xn xs xv xh xo xc v1_5 (Int32.toNatClampNeg v1_5) hi1.2.2.1 sk kn (by omega)) rfl yV_X2_isFrom wML_X2_47 rfl 0 rfl rfl rfl rfl (nle rfl) (nle rfl) (nle rfl) (nle rfl) (nle rfl) dX2_isDriven_39 ?_
          refine x_if_eq C 47 (by decide) dX2_isDriven_42 (fun h6 => ?_) (fun h6 => ?_)
          · refine x_iinc C 0 (v1_5 + 1) [(5, .int (v1_5 + 1)), (0, .ref (ad 6)), (1, .int ds), (2, .int sk), (3, .int kn), (4, .int z)] rfl (rfl) rfl (by decide) dX2_isDriven_47 ?_
            refine x_goto C 3 (by decide) dX2_isDriven_50 ?_
            exact ih1 (v1_5 + 1) (pa1_ok hi1 hlt).1 (by have q2 := (pa1_ok hi1 hlt).2; omega) (by rw [← hq1]; simp only [sp_idv, if_neg h2, if_pos h4, if_neg h5, if_pos h6])
          · refine x_iconst C 1 (by decide) dX2_isDriven_45 ?_
            have e7 : (sp_idv xn xs xv xc ds sk kn z 13 0) = (1, v1_5) := by rw [← hq1]; simp only [sp_idv, if_neg h2, if_pos h4, if_neg h5, if_neg h6]
            refine x_st (st' := [.int ((sp_idv xn xs xv xc ds sk kn z 13 0).1)]) (by simp only [e7]) ?_
            exact x_zret C hr (xnz (by rw [e7]; exact (Or.inr rfl))) (nle rfl) (nle rfl) dX2_isDriven_46 ⟨rfl, rfl⟩
/-- how many are kept of the first i -/
def kpN (xv : Nat → Int32) (vv : Int32) : Nat → Nat
  | 0 => 0
  | i + 1 => if xv i = vv then kpN xv vv i else kpN xv vv i + 1
theorem kpN_le (xv : Nat → Int32) (vv : Int32) : ∀ i, kpN xv vv i ≤ i
  | 0 => Nat.le_refl _
  | i + 1 => by
    have := kpN_le xv vv i
    simp only [kpN]
    split <;> omega
theorem dal_kp (f : Nat → Int32) (vv : Int32) (i q : Nat) (kz : Int32) (hk : kz = nI (kpN f vv i)) (h : q = i) : (if f q = vv then kz else kz + 1) = nI (kpN f vv (i + 1)) := by
  subst h
  simp only [kpN]
  split
  · exact hk
  · rw [hk]; exact nI_1 _
def sp_X3_limited (vl : Nat → Int32) (vu : Nat → Int32) (k : Nat) (v : Int32) : Int32 := (if (vu k) < (if v < (vl k) then (vl k) else v) then (vu k) else (if v < (vl k) then (vl k) else v))
set_option maxRecDepth 100000 in
set_option maxHeartbeats 400000 in
theorem k_X3_limited (l : Launch) (g : xGt) (ad : Nat → Nat) (vd : Nat → Int32) (vn : Nat → Int32) (vl : Nat → Int32) (vu : Nat → Int32) (vs : Nat → Int32) (vm : Nat → Int32) (vp : Nat → Int32) (vt : Nat → Int32) (va : Nat → Int32) (vw : Nat → Int32) (x_k : Int32) (k : Nat) (e_k : x_k = nI k) (v : Int32) (hk : k < 6) : xM l g.1 (xT g) yX3_limited (ws_ yX3_limited cX3_limited 3 (some .int)) (xRm 1 21 0 0) 0 0 [.ref (ad 12), .int x_k, .int v] (wSv g ad vd vn vl vu vs vm vp vt va vw) (fun r9 w9 => r9 = some (.int (sp_X3_limited vl vu k v)) ∧ w9 = (wSv g ad vd vn vl vu vs vm vp vt va vw)) (fun _ _ => False) := by
  subst e_k
  refine x_start (own := RX3) (nm := "limited") rfl rfl (by decide +kernel) rfl (nle rfl) (fun p e σ m args below meth c A C hno hr => ?_)
  refine x_lve (lv' := [(0, .ref (ad 12)), (1, .int (nI k)), (2, .int v)]) rfl ?_
  refine x_iload_n C 2 rfl rfl dX3_limited_0 ?_
  refine x_aload_n C 0 rfl rfl dX3_limited_1 ?_
  refine x_get C 0 3 2 rfl rfl wLy_X3 wFL_X3_18 rfl (by decide) rfl dX3_limited_2 ?_
  refine x_iload_n C 1 rfl rfl dX3_limited_5 ?_
  refine x_ialdN (f := vl) C 3 0 k rfl rfl rfl (by omega) (by decide) dX3_limited_6 ?_
  refine x_mmax C wML_X3_50 wSta_J9_max_7cf53 wIn_J9 wCo_J9_max_7cf53 (nle rfl) (nle rfl) (nle rfl) (nle rfl) dX3_limited_7 ?_
  refine x_aload_n C 0 rfl rfl dX3_limited_10 ?_
  refine x_get C 0 3 3 rfl rfl wLy_X3 wFL_X3_21 rfl (by decide) rfl dX3_limited_11 ?_
  refine x_iload_n C 1 rfl rfl dX3_limited_14 ?_
  refine x_ialdN (f := vu) C 4 0 k rfl rfl rfl (by omega) (by decide) dX3_limited_15 ?_
  refine x_mmin C wML_X3_56 wSta_J9_min_7cf53 wIn_J9 wCo_J9_min_7cf53 (nle rfl) (nle rfl) (nle rfl) (nle rfl) dX3_limited_16 ?_
  exact x_iret C hr (nle rfl) (nle rfl) dX3_limited_19 ⟨(by first | (simp only [sp_X3_limited]; done) | (simp only [sp_X3_limited]; rfl)), rfl⟩
def sp_tpr (vl : Nat → Int32) (vu : Nat → Int32) (vm : Nat → Int32) (vp : Nat → Int32) (a0 : (Nat → Int32)) : Nat → (Nat → Int32)
  | 0 => a0
  | i1 + 1 => (if (vm i1) = 1 then (upd (sp_tpr vl vu vm vp a0 i1) i1 (sp_X3_limited vl vu i1 (vp i1))) else (sp_tpr vl vu vm vp a0 i1))
set_option maxRecDepth 100000 in
set_option maxHeartbeats 400000 in
theorem k_X3_targetPresets (l : Launch) (g : xGt) (ad : Nat → Nat) (vd : Nat → Int32) (vn : Nat → Int32) (vl : Nat → Int32) (vu : Nat → Int32) (vs : Nat → Int32) (vm : Nat → Int32) (vp : Nat → Int32) (vt : Nat → Int32) (va : Nat → Int32) (vw : Nat → Int32)  : xM l g.1 (xT g) yX3_targetPresets (ws_ yX3_targetPresets cX3_targetPresets 2 none) (xRm 2 43 0 0) 0 0 [.ref (ad 12)] (wSv g ad vd vn vl vu vs vm vp vt va vw) (fun r9 w9 => r9 = none ∧ w9 = (wSv g ad vd vn vl vu vs vm vp (sp_tpr vl vu vm vp vt 6) va vw)) (fun _ _ => False) := by
  refine x_start (own := RX3) (nm := "targetPresets") rfl rfl (by decide +kernel) rfl (nle rfl) (fun p e σ m args below meth c A C hno hr => ?_)
  refine x_lve (lv' := [(0, .ref (ad 12))]) rfl ?_
  refine x_iconst C 0 (by decide) dX3_targetPresets_0 ?_
  refine x_istore_n C [(1, .int 0), (0, .ref (ad 12))] rfl rfl (by decide) dX3_targetPresets_1 ?_
  suffices L1 : ∀ (n1 i1 : Nat), i1 + n1 = 6 → xW p l e _ σ m args below meth c g.1 A 2 0 0 _ (wSv g ad vd vn vl vu vs vm vp (sp_tpr vl vu vm vp vt i1) va vw) [(1, .int (nI i1)), (0, .ref (ad 12))] 2 [] by
    exact L1 (6) 0 (by omega)
  intro n1
  induction n1 with
  | zero =>
    intro i1 hn1
    have hz_ : i1 = 6 := by omega
    subst i1
    refine x_iload_n C 0 rfl rfl dX3_targetPresets_2 ?_
    refine x_bipush C 6 (by decide) dX3_targetPresets_3 ?_
    refine x_icmp_ge C 41 (by decide) dX3_targetPresets_5 (fun _ => ?_) (fun hz => absurd (xge (show (6 : Int32) = nI 6 from rfl) rfl (by omega) (by omega)) hz)
    exact x_vret C hr (nle rfl) (nle rfl) dX3_targetPresets_41 ⟨rfl, rfl⟩
  | succ n1 ih1 =>
    intro i1 hn1
    refine x_iload_n C 0 rfl rfl dX3_targetPresets_2 ?_
    refine x_bipush C 6 (by decide) dX3_targetPresets_3 ?_
    refine x_icmp_ge C 41 (by decide) dX3_targetPresets_5 (fun hz => absurd hz (xnge (show (6 : Int32) = nI 6 from rfl) rfl (by omega) (by omega))) (fun _ => ?_)
    refine x_aload_n C 1 rfl rfl dX3_targetPresets_8 ?_
    refine x_get C 0 3 5 rfl rfl wLy_X3 wFL_X3_27 rfl (by decide) rfl dX3_targetPresets_9 ?_
    refine x_iload_n C 0 rfl rfl dX3_targetPresets_12 ?_
    refine x_ialdN (f := vm) C 6 0 i1 rfl rfl rfl (by omega) (by decide) dX3_targetPresets_13 ?_
    refine x_iconst C 1 (by decide) dX3_targetPresets_14 ?_
    suffices K3 : xW p l e _ σ m args below meth c g.1 A 2 0 0 _ (wSv g ad vd vn vl vu vs vm vp (if (vm i1) = 1 then (upd (sp_tpr vl vu vm vp vt i1) i1 (sp_X3_limited vl vu i1 (vp i1))) else (sp_tpr vl vu vm vp vt i1)) va vw) [(1, .int (nI i1)), (0, .ref (ad 12))] 35 [] by
      refine x_icmp_ne C 35 (by decide) dX3_targetPresets_15 (fun h2 => ?_) (fun h2 => ?_)
      · refine x_ws (ws' := (wSv g ad vd vn vl vu vs vm vp (if (vm i1) = 1 then (upd (sp_tpr vl vu vm vp vt i1) i1 (sp_X3_limited vl vu i1 (vp i1))) else (sp_tpr vl vu vm vp vt i1)) va vw)) (by first | (simp only [if_neg h2]; done) | (simp only [if_neg h2]; rfl)) ?_
        exact K3
      · refine x_aload_n C 1 rfl rfl dX3_targetPresets_18 ?_
        refine x_get C 0 3 7 rfl rfl wLy_X3 wFL_X3_33 rfl (by decide) rfl dX3_targetPresets_19 ?_
        refine x_iload_n C 0 rfl rfl dX3_targetPresets_22 ?_
        refine x_aload_n C 1 rfl rfl dX3_targetPresets_23 ?_
        refine x_iload_n C 0 rfl rfl dX3_targetPresets_24 ?_
        refine x_aload_n C 1 rfl rfl dX3_targetPresets_25 ?_
        refine x_get C 0 3 6 rfl rfl wLy_X3 wFL_X3_30 rfl (by decide) rfl dX3_targetPresets_26 ?_
        refine x_iload_n C 0 rfl rfl dX3_targetPresets_29 ?_
        refine x_ialdN (f := vp) C 7 0 i1 rfl rfl rfl (by omega) (by decide) dX3_targetPresets_30 ?_
        refine x_FV (w1 := ([] : va_W)) (wc := _) (w2 := ([] : va_W)) [.int (nI i1), .int (vp i1)] [.int (nI i1), .ref (ad 20)] (wSv g ad vd vn vl vu vs vm vp (sp_tpr vl vu vm vp vt i1) va vw) C (k_X3_limited l g ad vd vn vl vu vs vm vp (sp_tpr vl vu vm vp vt i1) va vw (nI i1) i1 rfl (vp i1) (by omega)) rfl yV_X3_limited wML_X3_59 rfl 0 rfl rfl rfl rfl (nle rfl) (nle rfl) (nle rfl) (nle rfl) (nle rfl) dX3_targetPresets_31 ?_
        refine x_iastN (f := (sp_tpr vl vu vm vp vt i1)) C 8 0 i1 (wSv g ad vd vn vl vu vs vm vp (upd (sp_tpr vl vu vm vp vt i1) i1 (sp_X3_limited vl vu i1 (vp i1))) va vw) rfl rfl rfl rfl (by omega) (by decide) dX3_targetPresets_34 ?_
        refine x_ws (ws' := (wSv g ad vd vn vl vu vs vm vp (if (vm i1) = 1 then (upd (sp_tpr vl vu vm vp vt i1) i1 (sp_X3_limited vl vu i1 (vp i1))) else (sp_tpr vl vu vm vp vt i1)) va vw)) (by first | (simp only [if_pos h2]; done) | (simp only [if_pos h2]; rfl)) ?_
        exact K3
    refine x_iinc C 0 (nI (i1 + 1)) [(1, .int (nI (i1 + 1))), (0, .ref (ad 12))] rfl (nI_add _ _) rfl (by decide) dX3_targetPresets_35 ?_
    refine x_goto C 2 (by decide) dX3_targetPresets_38 ?_
    exact ih1 (i1 + 1) (by omega)
def sp_X3_advance (vs : Nat → Int32) (vt : Nat → Int32) (va : Nat → Int32) (k : Nat) (mu : Int32) : Int32 := (if mu < (if (vs k) < (if 0 ≤ ((vt k) - (va k)) then ((vt k) - (va k)) else 0 - ((vt k) - (va k))) then (vs k) else (if 0 ≤ ((vt k) - (va k)) then ((vt k) - (va k)) else 0 - ((vt k) - (va k)))) then mu else (if (vs k) < (if 0 ≤ ((vt k) - (va k)) then ((vt k) - (va k)) else 0 - ((vt k) - (va k))) then (vs k) else (if 0 ≤ ((vt k) - (va k)) then ((vt k) - (va k)) else 0 - ((vt k) - (va k)))))
def sp_X3_advance_va (vs : Nat → Int32) (vt : Nat → Int32) (va : Nat → Int32) (k : Nat) (mu : Int32) : Nat → Int32 := (upd va k ((va k) + (if 0 ≤ ((vt k) - (va k)) then (if mu < (if (vs k) < (if 0 ≤ ((vt k) - (va k)) then ((vt k) - (va k)) else 0 - ((vt k) - (va k))) then (vs k) else (if 0 ≤ ((vt k) - (va k)) then ((vt k) - (va k)) else 0 - ((vt k) - (va k)))) then mu else (if (vs k) < (if 0 ≤ ((vt k) - (va k)) then ((vt k) - (va k)) else 0 - ((vt k) - (va k))) then (vs k) else (if 0 ≤ ((vt k) - (va k)) then ((vt k) - (va k)) else 0 - ((vt k) - (va k))))) else (-(if mu < (if (vs k) < (if 0 ≤ ((vt k) - (va k)) then ((vt k) - (va k)) else 0 - ((vt k) - (va k))) then (vs k) else (if 0 ≤ ((vt k) - (va k)) then ((vt k) - (va k)) else 0 - ((vt k) - (va k)))) then mu else (if (vs k) < (if 0 ≤ ((vt k) - (va k)) then ((vt k) - (va k)) else 0 - ((vt k) - (va k))) then (vs k) else (if 0 ≤ ((vt k) - (va k)) then ((vt k) - (va k)) else 0 - ((vt k) - (va k)))))))))
def sp_X3_advance_vw (vs : Nat → Int32) (vt : Nat → Int32) (va : Nat → Int32) (vw : Nat → Int32) (k : Nat) (mu : Int32) : Nat → Int32 := (upd vw k ((vw k) + (if mu < (if (vs k) < (if 0 ≤ ((vt k) - (va k)) then ((vt k) - (va k)) else 0 - ((vt k) - (va k))) then (vs k) else (if 0 ≤ ((vt k) - (va k)) then ((vt k) - (va k)) else 0 - ((vt k) - (va k)))) then mu else (if (vs k) < (if 0 ≤ ((vt k) - (va k)) then ((vt k) - (va k)) else 0 - ((vt k) - (va k))) then (vs k) else (if 0 ≤ ((vt k) - (va k)) then ((vt k) - (va k)) else 0 - ((vt k) - (va k)))))))
set_option maxRecDepth 100000 in
set_option maxHeartbeats 400000 in
theorem k_X3_advance (l : Launch) (g : xGt) (ad : Nat → Nat) (vd : Nat → Int32) (vn : Nat → Int32) (vl : Nat → Int32) (vu : Nat → Int32) (vs : Nat → Int32) (vm : Nat → Int32) (vp : Nat → Int32) (vt : Nat → Int32) (va : Nat → Int32) (vw : Nat → Int32) (x_k : Int32) (k : Nat) (e_k : x_k = nI k) (mu : Int32) (hk : k < 6) : xM l g.1 (xT g) yX3_advance (ws_ yX3_advance cX3_advance 5 (some .int)) (xRm 1 21 0 0) 0 0 [.ref (ad 12), .int x_k, .int mu] (wSv g ad vd vn vl vu vs vm vp vt va vw) (fun r9 w9 => r9 = some (.int (sp_X3_advance vs vt va k mu)) ∧ w9 = (wSv g ad vd vn vl vu vs vm vp vt (sp_X3_advance_va vs vt va k mu) (sp_X3_advance_vw vs vt va vw k mu))) (fun _ _ => False) := by
  subst e_k
  refine x_start (own := RX3) (nm := "advance") rfl rfl (by decide +kernel) rfl (nle rfl) (fun p e σ m args below meth c A C hno hr => ?_)
  refine x_lve (lv' := [(0, .ref (ad 12)), (1, .int (nI k)), (2, .int mu)]) rfl ?_
  refine x_aload_n C 0 rfl rfl dX3_advance_0 ?_
  refine x_get C 0 3 7 rfl rfl wLy_X3 wFL_X3_33 rfl (by decide) rfl dX3_advance_1 ?_
  refine x_iload_n C 1 rfl rfl dX3_advance_4 ?_
  refine x_ialdN (f := vt) C 8 0 k rfl rfl rfl (by omega) (by decide) dX3_advance_5 ?_
  refine x_aload_n C 0 rfl rfl dX3_advance_6 ?_
  refine x_get C 0 3 8 rfl rfl wLy_X3 wFL_X3_36 rfl (by decide) rfl dX3_advance_7 ?_
  refine x_iload_n C 1 rfl rfl dX3_advance_10 ?_
  refine x_ialdN (f := va) C 9 0 k rfl rfl rfl (by omega) (by decide) dX3_advance_11 ?_
  refine x_isub C dX3_advance_12 ?_
  refine x_istore_n C [(3, .int ((vt k) - (va k))), (0, .ref (ad 12)), (1, .int (nI k)), (2, .int mu)] rfl rfl (by decide) dX3_advance_13 ?_
  refine x_iload_n C 0 rfl rfl dX3_advance_14 ?_
  refine x_mabs C wML_X3_62 wSta_J9_abs_0f7a4 wIn_J9 wCo_J9_abs_0f7a4 (nle rfl) (nle rfl) (nle rfl) (nle rfl) dX3_advance_15 ?_
  refine x_aload_n C 1 rfl rfl dX3_advance_18 ?_
  refine x_get C 0 3 4 rfl rfl wLy_X3 wFL_X3_24 rfl (by decide) rfl dX3_advance_19 ?_
  refine x_iload_n C 2 rfl rfl dX3_advance_22 ?_
  refine x_ialdN (f := vs) C 5 0 k rfl rfl rfl (by omega) (by decide) dX3_advance_23 ?_
  refine x_mmin C wML_X3_56 wSta_J9_min_7cf53 wIn_J9 wCo_J9_min_7cf53 (nle rfl) (nle rfl) (nle rfl) (nle rfl) dX3_advance_24 ?_
  refine x_iload_n C 3 rfl rfl dX3_advance_27 ?_
  refine x_mmin C wML_X3_56 wSta_J9_min_7cf53 wIn_J9 wCo_J9_min_7cf53 (nle rfl) (nle rfl) (nle rfl) (nle rfl) dX3_advance_28 ?_
  refine x_istore C [(4, .int (if mu < (if (vs k) < (if 0 ≤ ((vt k) - (va k)) then ((vt k) - (va k)) else 0 - ((vt k) - (va k))) then (vs k) else (if 0 ≤ ((vt k) - (va k)) then ((vt k) - (va k)) else 0 - ((vt k) - (va k)))) then mu else (if (vs k) < (if 0 ≤ ((vt k) - (va k)) then ((vt k) - (va k)) else 0 - ((vt k) - (va k))) then (vs k) else (if 0 ≤ ((vt k) - (va k)) then ((vt k) - (va k)) else 0 - ((vt k) - (va k)))))), (3, .int ((vt k) - (va k))), (0, .ref (ad 12)), (1, .int (nI k)), (2, .int mu)] rfl (by decide) dX3_advance_31 ?_
  refine x_aload_n C 2 rfl rfl dX3_advance_33 ?_
  refine x_get C 0 3 8 rfl rfl wLy_X3 wFL_X3_36 rfl (by decide) rfl dX3_advance_34 ?_
  refine x_iload_n C 3 rfl rfl dX3_advance_37 ?_
  refine x_dup2 C rfl rfl dX3_advance_38 ?_
  refine x_ialdN (f := va) C 9 0 k rfl rfl rfl (by omega) (by decide) dX3_advance_39 ?_
  refine x_iload_n C 1 rfl rfl dX3_advance_40 ?_
  suffices K2 : xW p l e _ σ m args below meth c g.1 A 5 0 0 _ (wSv g ad vd vn vl vu vs vm vp vt va vw) [(4, .int (if mu < (if (vs k) < (if 0 ≤ ((vt k) - (va k)) then ((vt k) - (va k)) else 0 - ((vt k) - (va k))) then (vs k) else (if 0 ≤ ((vt k) - (va k)) then ((vt k) - (va k)) else 0 - ((vt k) - (va k)))) then mu else (if (vs k) < (if 0 ≤ ((vt k) - (va k)) then ((vt k) - (va k)) else 0 - ((vt k) - (va k))) then (vs k) else (if 0 ≤ ((vt k) - (va k)) then ((vt k) - (va k)) else 0 - ((vt k) - (va k)))))), (3, .int ((vt k) - (va k))), (0, .ref (ad 12)), (1, .int (nI k)), (2, .int mu)] 52 [.int (if 0 ≤ ((vt k) - (va k)) then (if mu < (if (vs k) < (if 0 ≤ ((vt k) - (va k)) then ((vt k) - (va k)) else 0 - ((vt k) - (va k))) then (vs k) else (if 0 ≤ ((vt k) - (va k)) then ((vt k) - (va k)) else 0 - ((vt k) - (va k)))) then mu else (if (vs k) < (if 0 ≤ ((vt k) - (va k)) then ((vt k) - (va k)) else 0 - ((vt k) - (va k))) then (vs k) else (if 0 ≤ ((vt k) - (va k)) then ((vt k) - (va k)) else 0 - ((vt k) - (va k))))) else (-(if mu < (if (vs k) < (if 0 ≤ ((vt k) - (va k)) then ((vt k) - (va k)) else 0 - ((vt k) - (va k))) then (vs k) else (if 0 ≤ ((vt k) - (va k)) then ((vt k) - (va k)) else 0 - ((vt k) - (va k)))) then mu else (if (vs k) < (if 0 ≤ ((vt k) - (va k)) then ((vt k) - (va k)) else 0 - ((vt k) - (va k))) then (vs k) else (if 0 ≤ ((vt k) - (va k)) then ((vt k) - (va k)) else 0 - ((vt k) - (va k))))))), .int (va k), .int (nI k), .ref (ad 21)] by
    refine x_if_ge C 50 (by decide) dX3_advance_41 (fun h1 => ?_) (fun h1 => ?_)
    · refine x_iload C 0 rfl dX3_advance_50 ?_
      refine x_st (st' := [.int (if 0 ≤ ((vt k) - (va k)) then (if mu < (if (vs k) < (if 0 ≤ ((vt k) - (va k)) then ((vt k) - (va k)) else 0 - ((vt k) - (va k))) then (vs k) else (if 0 ≤ ((vt k) - (va k)) then ((vt k) - (va k)) else 0 - ((vt k) - (va k)))) then mu else (if (vs k) < (if 0 ≤ ((vt k) - (va k)) then ((vt k) - (va k)) else 0 - ((vt k) - (va k))) then (vs k) else (if 0 ≤ ((vt k) - (va k)) then ((vt k) - (va k)) else 0 - ((vt k) - (va k))))) else (-(if mu < (if (vs k) < (if 0 ≤ ((vt k) - (va k)) then ((vt k) - (va k)) else 0 - ((vt k) - (va k))) then (vs k) else (if 0 ≤ ((vt k) - (va k)) then ((vt k) - (va k)) else 0 - ((vt k) - (va k)))) then mu else (if (vs k) < (if 0 ≤ ((vt k) - (va k)) then ((vt k) - (va k)) else 0 - ((vt k) - (va k))) then (vs k) else (if 0 ≤ ((vt k) - (va k)) then ((vt k) - (va k)) else 0 - ((vt k) - (va k))))))), .int (va k), .int (nI k), .ref (ad 21)]) (by simp only [if_pos h1]) ?_
      exact K2
    · refine x_iload C 0 rfl dX3_advance_44 ?_
      refine x_ineg C dX3_advance_46 ?_
      refine x_goto C 52 (by decide) dX3_advance_47 ?_
      refine x_st (st' := [.int (if 0 ≤ ((vt k) - (va k)) then (if mu < (if (vs k) < (if 0 ≤ ((vt k) - (va k)) then ((vt k) - (va k)) else 0 - ((vt k) - (va k))) then (vs k) else (if 0 ≤ ((vt k) - (va k)) then ((vt k) - (va k)) else 0 - ((vt k) - (va k)))) then mu else (if (vs k) < (if 0 ≤ ((vt k) - (va k)) then ((vt k) - (va k)) else 0 - ((vt k) - (va k))) then (vs k) else (if 0 ≤ ((vt k) - (va k)) then ((vt k) - (va k)) else 0 - ((vt k) - (va k))))) else (-(if mu < (if (vs k) < (if 0 ≤ ((vt k) - (va k)) then ((vt k) - (va k)) else 0 - ((vt k) - (va k))) then (vs k) else (if 0 ≤ ((vt k) - (va k)) then ((vt k) - (va k)) else 0 - ((vt k) - (va k)))) then mu else (if (vs k) < (if 0 ≤ ((vt k) - (va k)) then ((vt k) - (va k)) else 0 - ((vt k) - (va k))) then (vs k) else (if 0 ≤ ((vt k) - (va k)) then ((vt k) - (va k)) else 0 - ((vt k) - (va k))))))), .int (va k), .int (nI k), .ref (ad 21)]) (by simp only [if_neg h1]) ?_
      exact K2
  refine x_iadd C dX3_advance_52 ?_
  refine x_iastN (f := va) C 9 0 k (wSv g ad vd vn vl vu vs vm vp vt (upd va k ((va k) + (if 0 ≤ ((vt k) - (va k)) then (if mu < (if (vs k) < (if 0 ≤ ((vt k) - (va k)) then ((vt k) - (va k)) else 0 - ((vt k) - (va k))) then (vs k) else (if 0 ≤ ((vt k) - (va k)) then ((vt k) - (va k)) else 0 - ((vt k) - (va k)))) then mu else (if (vs k) < (if 0 ≤ ((vt k) - (va k)) then ((vt k) - (va k)) else 0 - ((vt k) - (va k))) then (vs k) else (if 0 ≤ ((vt k) - (va k)) then ((vt k) - (va k)) else 0 - ((vt k) - (va k))))) else (-(if mu < (if (vs k) < (if 0 ≤ ((vt k) - (va k)) then ((vt k) - (va k)) else 0 - ((vt k) - (va k))) then (vs k) else (if 0 ≤ ((vt k) - (va k)) then ((vt k) - (va k)) else 0 - ((vt k) - (va k)))) then mu else (if (vs k) < (if 0 ≤ ((vt k) - (va k)) then ((vt k) - (va k)) else 0 - ((vt k) - (va k))) then (vs k) else (if 0 ≤ ((vt k) - (va k)) then ((vt k) - (va k)) else 0 - ((vt k) - (va k))))))))) vw) rfl rfl rfl rfl (by omega) (by decide) dX3_advance_53 ?_
  refine x_aload_n C 2 rfl rfl dX3_advance_54 ?_
  refine x_get C 0 3 9 rfl rfl wLy_X3 wFL_X3_39 rfl (by decide) rfl dX3_advance_55 ?_
  refine x_iload_n C 3 rfl rfl dX3_advance_58 ?_
  refine x_dup2 C rfl rfl dX3_advance_59 ?_
  refine x_ialdN (f := vw) C 10 0 k rfl rfl rfl (by omega) (by decide) dX3_advance_60 ?_
  refine x_iload C 0 rfl dX3_advance_61 ?_
  refine x_iadd C dX3_advance_63 ?_
  refine x_iastN (f := vw) C 10 0 k (wSv g ad vd vn vl vu vs vm vp vt (upd va k ((va k) + (if 0 ≤ ((vt k) - (va k)) then (if mu < (if (vs k) < (if 0 ≤ ((vt k) - (va k)) then ((vt k) - (va k)) else 0 - ((vt k) - (va k))) then (vs k) else (if 0 ≤ ((vt k) - (va k)) then ((vt k) - (va k)) else 0 - ((vt k) - (va k)))) then mu else (if (vs k) < (if 0 ≤ ((vt k) - (va k)) then ((vt k) - (va k)) else 0 - ((vt k) - (va k))) then (vs k) else (if 0 ≤ ((vt k) - (va k)) then ((vt k) - (va k)) else 0 - ((vt k) - (va k))))) else (-(if mu < (if (vs k) < (if 0 ≤ ((vt k) - (va k)) then ((vt k) - (va k)) else 0 - ((vt k) - (va k))) then (vs k) else (if 0 ≤ ((vt k) - (va k)) then ((vt k) - (va k)) else 0 - ((vt k) - (va k)))) then mu else (if (vs k) < (if 0 ≤ ((vt k) - (va k)) then ((vt k) - (va k)) else 0 - ((vt k) - (va k))) then (vs k) else (if 0 ≤ ((vt k) - (va k)) then ((vt k) - (va k)) else 0 - ((vt k) - (va k))))))))) (upd vw k ((vw k) + (if mu < (if (vs k) < (if 0 ≤ ((vt k) - (va k)) then ((vt k) - (va k)) else 0 - ((vt k) - (va k))) then (vs k) else (if 0 ≤ ((vt k) - (va k)) then ((vt k) - (va k)) else 0 - ((vt k) - (va k)))) then mu else (if (vs k) < (if 0 ≤ ((vt k) - (va k)) then ((vt k) - (va k)) else 0 - ((vt k) - (va k))) then (vs k) else (if 0 ≤ ((vt k) - (va k)) then ((vt k) - (va k)) else 0 - ((vt k) - (va k)))))))) rfl rfl rfl rfl (by omega) (by decide) dX3_advance_64 ?_
  refine x_iload C 0 rfl dX3_advance_65 ?_
  exact x_iret C hr (nle rfl) (nle rfl) dX3_advance_67 ⟨(by first | (simp only [sp_X3_advance]; done) | (simp only [sp_X3_advance]; rfl)), (by first | (simp only [sp_X3_advance_va, sp_X3_advance_vw]; done) | (simp only [sp_X3_advance_va, sp_X3_advance_vw]; rfl))⟩
def sp_X1_countFrame_jl (jl : Int32) (z : Int32) : Int32 := (if z = 0 then (jl + 1) else jl)
def sp_X1_countFrame_jx (jb : Int32) (jx : Int32) : Int32 := (if jb = 0 then (jx + 1) else jx)
def sp_X1_countFrame_ji (ji : Int32) (z : Int32) : Int32 := (if z = 0 then (ji + 1) else 0)
set_option maxRecDepth 100000 in
set_option maxHeartbeats 400000 in
theorem k_X1_countFrame (l : Launch) (g : xGt) (ad : Nat → Nat) (jd : Int32) (jb : Int32) (jc : Int32) (js : Int32) (jl : Int32) (jx : Int32) (ji : Int32) (jf : Int32) (jn : Int32) (z : Int32) (b_z : z = 0 ∨ z = 1) : xM l g.1 (xT g) yX1_countFrame (ws_ yX1_countFrame cX1_countFrame 2 none) (xRm 0 0 0 0) 0 0 [.ref (ad 23), .int z] (wLk g ad jd jb jc js jl jx ji jf jn) (fun r9 w9 => r9 = none ∧ w9 = (wLk g ad jd jb jc (js + 1) (sp_X1_countFrame_jl jl z) (sp_X1_countFrame_jx jb jx) (sp_X1_countFrame_ji ji z) jf jn)) (fun _ _ => False) := by
  refine x_start (own := RX1) (nm := "countFrame") rfl rfl (by decide +kernel) rfl (nle rfl) (fun p e σ m args below meth c A C hno hr => ?_)
  refine x_lve (lv' := [(0, .ref (ad 23)), (1, .int z)]) rfl ?_
  refine x_aload_n C 0 rfl rfl dX1_countFrame_0 ?_
  refine x_dup C rfl dX1_countFrame_1 ?_
  refine x_get C 0 1 3 rfl rfl wLy_X1 wFL_X1_21 rfl (by decide) rfl dX1_countFrame_2 ?_
  refine x_iconst C 1 (by decide) dX1_countFrame_5 ?_
  refine x_iadd C dX1_countFrame_6 ?_
  refine x_put C 0 1 3 tyX1 (wLk g ad jd jb jc (js + 1) jl jx ji jf jn) rfl rfl rfl wLy_X1 tyX1_ok nmX1 wFL_X1_21 rfl (by decide) rfl rfl rfl rfl (nlt rfl) dX1_countFrame_7 ?_
  refine x_aload_n C 0 rfl rfl dX1_countFrame_10 ?_
  refine x_get C 0 1 1 rfl rfl wLy_X1 wFL_X1_15 rfl (by decide) rfl dX1_countFrame_11 ?_
  suffices K2 : xW p l e _ σ m args below meth c g.1 A 2 0 0 _ (wLk g ad jd jb jc (js + 1) jl (if jb = 0 then (jx + 1) else jx) ji jf jn) [(0, .ref (ad 23)), (1, .int z)] 27 [] by
    refine x_if_ne C 27 (by decide) dX1_countFrame_14 (fun h1 => ?_) (fun h1 => ?_)
    · refine x_ws (ws' := (wLk g ad jd jb jc (js + 1) jl (if jb = 0 then (jx + 1) else jx) ji jf jn)) (by first | (simp only [if_neg h1]; done) | (simp only [if_neg h1]; rfl)) ?_
      exact K2
    · refine x_aload_n C 0 rfl rfl dX1_countFrame_17 ?_
      refine x_dup C rfl dX1_countFrame_18 ?_
      refine x_get C 0 1 5 rfl rfl wLy_X1 wFL_X1_27 rfl (by decide) rfl dX1_countFrame_19 ?_
      refine x_iconst C 1 (by decide) dX1_countFrame_22 ?_
      refine x_iadd C dX1_countFrame_23 ?_
      refine x_put C 0 1 5 tyX1 (wLk g ad jd jb jc (js + 1) jl (jx + 1) ji jf jn) rfl rfl rfl wLy_X1 tyX1_ok nmX1 wFL_X1_27 rfl (by decide) rfl rfl rfl rfl (nlt rfl) dX1_countFrame_24 ?_
      refine x_ws (ws' := (wLk g ad jd jb jc (js + 1) jl (if jb = 0 then (jx + 1) else jx) ji jf jn)) (by first | (simp only [if_pos h1]; done) | (simp only [if_pos h1]; rfl)) ?_
      exact K2
  refine x_iload_n C 1 rfl rfl dX1_countFrame_27 ?_
  suffices K4 : xW p l e _ σ m args below meth c g.1 A 2 0 0 _ (wLk g ad jd jb jc (js + 1) (if z = 0 then (jl + 1) else jl) (if jb = 0 then (jx + 1) else jx) (if z = 0 then (ji + 1) else 0) jf jn) [(0, .ref (ad 23)), (1, .int z)] 59 [] by
    refine x_if_eq C 39 (by decide) dX1_countFrame_28 (fun h3 => ?_) (fun h3 => ?_)
    · refine x_aload_n C 0 rfl rfl dX1_countFrame_39 ?_
      refine x_dup C rfl dX1_countFrame_40 ?_
      refine x_get C 0 1 4 rfl rfl wLy_X1 wFL_X1_24 rfl (by decide) rfl dX1_countFrame_41 ?_
      refine x_iconst C 1 (by decide) dX1_countFrame_44 ?_
      refine x_iadd C dX1_countFrame_45 ?_
      refine x_put C 0 1 4 tyX1 (wLk g ad jd jb jc (js + 1) (jl + 1) (if jb = 0 then (jx + 1) else jx) ji jf jn) rfl rfl rfl wLy_X1 tyX1_ok nmX1 wFL_X1_24 rfl (by decide) rfl rfl rfl rfl (nlt rfl) dX1_countFrame_46 ?_
      refine x_aload_n C 0 rfl rfl dX1_countFrame_49 ?_
      refine x_dup C rfl dX1_countFrame_50 ?_
      refine x_get C 0 1 6 rfl rfl wLy_X1 wFL_X1_30 rfl (by decide) rfl dX1_countFrame_51 ?_
      refine x_iconst C 1 (by decide) dX1_countFrame_54 ?_
      refine x_iadd C dX1_countFrame_55 ?_
      refine x_put C 0 1 6 tyX1 (wLk g ad jd jb jc (js + 1) (jl + 1) (if jb = 0 then (jx + 1) else jx) (ji + 1) jf jn) rfl rfl rfl wLy_X1 tyX1_ok nmX1 wFL_X1_30 rfl (by decide) rfl rfl rfl rfl (nlt rfl) dX1_countFrame_56 ?_
      refine x_ws (ws' := (wLk g ad jd jb jc (js + 1) (if z = 0 then (jl + 1) else jl) (if jb = 0 then (jx + 1) else jx) (if z = 0 then (ji + 1) else 0) jf jn)) (by first | (simp only [if_pos h3]; done) | (simp only [if_pos h3]; rfl)) ?_
      exact K4
    · refine x_aload_n C 0 rfl rfl dX1_countFrame_31 ?_
      refine x_iconst C 0 (by decide) dX1_countFrame_32 ?_
      refine x_put C 0 1 6 tyX1 (wLk g ad jd jb jc (js + 1) jl (if jb = 0 then (jx + 1) else jx) 0 jf jn) rfl rfl rfl wLy_X1 tyX1_ok nmX1 wFL_X1_30 rfl (by decide) rfl rfl rfl rfl (nlt rfl) dX1_countFrame_33 ?_
      refine x_goto C 59 (by decide) dX1_countFrame_36 ?_
      refine x_ws (ws' := (wLk g ad jd jb jc (js + 1) (if z = 0 then (jl + 1) else jl) (if jb = 0 then (jx + 1) else jx) (if z = 0 then (ji + 1) else 0) jf jn)) (by first | (simp only [if_neg h3]; done) | (simp only [if_neg h3]; rfl)) ?_
      exact K4
  exact x_vret C hr (nle rfl) (nle rfl) dX1_countFrame_59 ⟨rfl, (by first | (simp only [sp_X1_countFrame_jl, sp_X1_countFrame_jx, sp_X1_countFrame_ji]; done) | (simp only [sp_X1_countFrame_jl, sp_X1_countFrame_jx, sp_X1_countFrame_ji]; rfl))⟩
def sp_X1_updateFailsafe_jf (jd : Int32) (ji : Int32) : Int32 := (if ji < jd then (0 : Int32) else 1)
def sp_X1_updateFailsafe_jn (jd : Int32) (ji : Int32) (jf : Int32) (jn : Int32) : Int32 := (if (if ji < jd then (0 : Int32) else 1) = 0 then jn else (if jf = 0 then (jn + 1) else jn))
set_option maxRecDepth 100000 in
set_option maxHeartbeats 400000 in
theorem k_X1_updateFailsafe (l : Launch) (g : xGt) (ad : Nat → Nat) (jd : Int32) (jb : Int32) (jc : Int32) (js : Int32) (jl : Int32) (jx : Int32) (ji : Int32) (jf : Int32) (jn : Int32)  : xM l g.1 (xT g) yX1_updateFailsafe (ws_ yX1_updateFailsafe cX1_updateFailsafe 2 none) (xRm 0 0 0 0) 0 0 [.ref (ad 23)] (wLk g ad jd jb jc js jl jx ji jf jn) (fun r9 w9 => r9 = none ∧ w9 = (wLk g ad jd jb jc js jl jx ji (sp_X1_updateFailsafe_jf jd ji) (sp_X1_updateFailsafe_jn jd ji jf jn))) (fun _ _ => False) := by
  refine x_start (own := RX1) (nm := "updateFailsafe") rfl rfl (by decide +kernel) rfl (nle rfl) (fun p e σ m args below meth c A C hno hr => ?_)
  refine x_lve (lv' := [(0, .ref (ad 23))]) rfl ?_
  refine x_aload_n C 0 rfl rfl dX1_updateFailsafe_0 ?_
  refine x_get C 0 1 7 rfl rfl wLy_X1 wFL_X1_33 rfl (by decide) rfl dX1_updateFailsafe_1 ?_
  refine x_istore_n C [(1, .int jf), (0, .ref (ad 23))] rfl rfl (by decide) dX1_updateFailsafe_4 ?_
  refine x_aload_n C 1 rfl rfl dX1_updateFailsafe_5 ?_
  refine x_aload_n C 1 rfl rfl dX1_updateFailsafe_6 ?_
  refine x_get C 0 1 6 rfl rfl wLy_X1 wFL_X1_30 rfl (by decide) rfl dX1_updateFailsafe_7 ?_
  refine x_aload_n C 1 rfl rfl dX1_updateFailsafe_10 ?_
  refine x_get C 0 1 0 rfl rfl wLy_X1 wFL_X1_9 rfl (by decide) rfl dX1_updateFailsafe_11 ?_
  suffices K2 : xW p l e _ σ m args below meth c g.1 A 2 0 0 _ (wLk g ad jd jb jc js jl jx ji jf jn) [(1, .int jf), (0, .ref (ad 23))] 22 [.int (if ji < jd then (0 : Int32) else 1), .ref (ad 23)] by
    refine x_icmp_lt C 21 (by decide) dX1_updateFailsafe_14 (fun h1 => ?_) (fun h1 => ?_)
    · refine x_iconst C 0 (by decide) dX1_updateFailsafe_21 ?_
      refine x_st (st' := [.int (if ji < jd then (0 : Int32) else 1), .ref (ad 23)]) (by simp only [if_pos h1]) ?_
      exact K2
    · refine x_iconst C 1 (by decide) dX1_updateFailsafe_17 ?_
      refine x_goto C 22 (by decide) dX1_updateFailsafe_18 ?_
      refine x_st (st' := [.int (if ji < jd then (0 : Int32) else 1), .ref (ad 23)]) (by simp only [if_neg h1]) ?_
      exact K2
  refine x_put C 0 1 7 tyX1 (wLk g ad jd jb jc js jl jx ji (if ji < jd then (0 : Int32) else 1) jn) rfl rfl rfl wLy_X1 tyX1_ok nmX1 wFL_X1_33 rfl (by decide) rfl rfl (xnz (bool_ite (Or.inl rfl) (Or.inr rfl))) (xfz (bool_ite (Or.inl rfl) (Or.inr rfl))) (nlt rfl) dX1_updateFailsafe_22 ?_
  refine x_aload_n C 1 rfl rfl dX1_updateFailsafe_25 ?_
  refine x_get C 0 1 7 rfl rfl wLy_X1 wFL_X1_33 rfl (by decide) rfl dX1_updateFailsafe_26 ?_
  suffices K4 : xW p l e _ σ m args below meth c g.1 A 2 0 0 _ (wLk g ad jd jb jc js jl jx ji (if ji < jd then (0 : Int32) else 1) (if (if ji < jd then (0 : Int32) else 1) = 0 then jn else (if jf = 0 then (jn + 1) else jn))) [(1, .int jf), (0, .ref (ad 23))] 46 [] by
    refine x_if_eq C 46 (by decide) dX1_updateFailsafe_29 (fun h3 => ?_) (fun h3 => ?_)
    · refine x_ws (ws' := (wLk g ad jd jb jc js jl jx ji (if ji < jd then (0 : Int32) else 1) (if (if ji < jd then (0 : Int32) else 1) = 0 then jn else (if jf = 0 then (jn + 1) else jn)))) (by first | (simp only [if_pos h3]; done) | (simp only [if_pos h3]; rfl)) ?_
      exact K4
    · refine x_iload_n C 0 rfl rfl dX1_updateFailsafe_32 ?_
      refine x_if_ne C 46 (by decide) dX1_updateFailsafe_33 (fun h4 => ?_) (fun h4 => ?_)
      · refine x_ws (ws' := (wLk g ad jd jb jc js jl jx ji (if ji < jd then (0 : Int32) else 1) (if (if ji < jd then (0 : Int32) else 1) = 0 then jn else (if jf = 0 then (jn + 1) else jn)))) (by first | (simp only [if_neg h3, if_neg h4]; done) | (simp only [if_neg h3, if_neg h4]; rfl)) ?_
        exact K4
      · refine x_aload_n C 1 rfl rfl dX1_updateFailsafe_36 ?_
        refine x_dup C rfl dX1_updateFailsafe_37 ?_
        refine x_get C 0 1 8 rfl rfl wLy_X1 wFL_X1_37 rfl (by decide) rfl dX1_updateFailsafe_38 ?_
        refine x_iconst C 1 (by decide) dX1_updateFailsafe_41 ?_
        refine x_iadd C dX1_updateFailsafe_42 ?_
        refine x_put C 0 1 8 tyX1 (wLk g ad jd jb jc js jl jx ji (if ji < jd then (0 : Int32) else 1) (jn + 1)) rfl rfl rfl wLy_X1 tyX1_ok nmX1 wFL_X1_37 rfl (by decide) rfl rfl rfl rfl (nlt rfl) dX1_updateFailsafe_43 ?_
        refine x_ws (ws' := (wLk g ad jd jb jc js jl jx ji (if ji < jd then (0 : Int32) else 1) (if (if ji < jd then (0 : Int32) else 1) = 0 then jn else (if jf = 0 then (jn + 1) else jn)))) (by first | (simp only [if_neg h3, if_pos h4]; done) | (simp only [if_neg h3, if_pos h4]; rfl)) ?_
        exact K4
  exact x_vret C hr (nle rfl) (nle rfl) dX1_updateFailsafe_46 ⟨rfl, (by first | (simp only [sp_X1_updateFailsafe_jf, sp_X1_updateFailsafe_jn]; done) | (simp only [sp_X1_updateFailsafe_jf, sp_X1_updateFailsafe_jn]; rfl))⟩
def sp_X1_reasonForLag (jb : Int32) (ji : Int32) (jf : Int32) : Int32 := (if jb = 0 then 1 else (if jf = 0 then (if ji ≤ 0 then (4 : Int32) else 3) else 2))
set_option maxRecDepth 100000 in
set_option maxHeartbeats 400000 in
theorem k_X1_reasonForLag (l : Launch) (g : xGt) (ad : Nat → Nat) (jd : Int32) (jb : Int32) (jc : Int32) (js : Int32) (jl : Int32) (jx : Int32) (ji : Int32) (jf : Int32) (jn : Int32)  : xM l g.1 (xT g) yX1_reasonForLag (ws_ yX1_reasonForLag cX1_reasonForLag 1 (some .int)) (xRm 0 0 0 0) 0 0 [.ref (ad 23)] (wLk g ad jd jb jc js jl jx ji jf jn) (fun r9 w9 => r9 = some (.int (sp_X1_reasonForLag jb ji jf)) ∧ w9 = (wLk g ad jd jb jc js jl jx ji jf jn)) (fun _ _ => False) := by
  refine x_start (own := RX1) (nm := "reasonForLag") rfl rfl (by decide +kernel) rfl (nle rfl) (fun p e σ m args below meth c A C hno hr => ?_)
  refine x_lve (lv' := [(0, .ref (ad 23))]) rfl ?_
  refine x_aload_n C 0 rfl rfl dX1_reasonForLag_0 ?_
  refine x_get C 0 1 1 rfl rfl wLy_X1 wFL_X1_15 rfl (by decide) rfl dX1_reasonForLag_1 ?_
  refine x_if_ne C 9 (by decide) dX1_reasonForLag_4 (fun h1 => ?_) (fun h1 => ?_)
  · refine x_aload_n C 0 rfl rfl dX1_reasonForLag_9 ?_
    refine x_get C 0 1 7 rfl rfl wLy_X1 wFL_X1_33 rfl (by decide) rfl dX1_reasonForLag_10 ?_
    refine x_if_eq C 18 (by decide) dX1_reasonForLag_13 (fun h2 => ?_) (fun h2 => ?_)
    · refine x_aload_n C 0 rfl rfl dX1_reasonForLag_18 ?_
      refine x_get C 0 1 6 rfl rfl wLy_X1 wFL_X1_30 rfl (by decide) rfl dX1_reasonForLag_19 ?_
      suffices K4 : xW p l e _ σ m args below meth c g.1 A 1 0 0 _ (wLk g ad jd jb jc js jl jx ji jf jn) [(0, .ref (ad 23))] 30 [.int (if ji ≤ 0 then (4 : Int32) else 3)] by
        refine x_if_le C 29 (by decide) dX1_reasonForLag_22 (fun h3 => ?_) (fun h3 => ?_)
        · refine x_iconst C 4 (by decide) dX1_reasonForLag_29 ?_
          refine x_st (st' := [.int (if ji ≤ 0 then (4 : Int32) else 3)]) (by simp only [if_pos h3]) ?_
          exact K4
        · refine x_iconst C 3 (by decide) dX1_reasonForLag_25 ?_
          refine x_goto C 30 (by decide) dX1_reasonForLag_26 ?_
          refine x_st (st' := [.int (if ji ≤ 0 then (4 : Int32) else 3)]) (by simp only [if_neg h3]) ?_
          exact K4
      exact x_iret C hr (nle rfl) (nle rfl) dX1_reasonForLag_30 ⟨(by first | (simp only [sp_X1_reasonForLag, if_neg h1, if_pos h2]; done) | (simp only [sp_X1_reasonForLag, if_neg h1, if_pos h2]; rfl)), rfl⟩
    · refine x_iconst C 2 (by decide) dX1_reasonForLag_16 ?_
      exact x_iret C hr (nle rfl) (nle rfl) dX1_reasonForLag_17 ⟨(by first | (simp only [sp_X1_reasonForLag, if_neg h1, if_neg h2]; done) | (simp only [sp_X1_reasonForLag, if_neg h1, if_neg h2]; rfl)), rfl⟩
  · refine x_iconst C 1 (by decide) dX1_reasonForLag_7 ?_
    exact x_iret C hr (nle rfl) (nle rfl) dX1_reasonForLag_8 ⟨(by first | (simp only [sp_X1_reasonForLag, if_pos h1]; done) | (simp only [sp_X1_reasonForLag, if_pos h1]; rfl)), rfl⟩
set_option maxRecDepth 100000 in
set_option maxHeartbeats 400000 in
theorem k_X1_hashOnto (l : Launch) (g : xGt) (ad : Nat → Nat) (jd : Int32) (jb : Int32) (jc : Int32) (js : Int32) (jl : Int32) (jx : Int32) (ji : Int32) (jf : Int32) (jn : Int32) (ha : Int64) : xM l g.1 (xT g) yX1_hashOnto (ws_ yX1_hashOnto cX1_hashOnto 5 (some .long)) (xRm 1 23 0 0) 0 0 [.ref (ad 23), .long ha] (wLk g ad jd jb jc js jl jx ji jf jn) (fun r9 w9 => r9 = some (.long ((31 * ((31 * ((31 * ((31 * ((31 * ((31 * ((31 * ha) + (Int32.toInt64 jb))) + (Int32.toInt64 jc))) + (Int32.toInt64 js))) + (Int32.toInt64 jl))) + (Int32.toInt64 jx))) + (Int32.toInt64 ji))) + (Int32.toInt64 jn))) ∧ w9 = (wLk g ad jd jb jc js jl jx ji jf jn)) (fun _ _ => False) := by
  refine x_start (own := RX1) (nm := "hashOnto") rfl rfl (by decide +kernel) rfl (nle rfl) (fun p e σ m args below meth c A C hno hr => ?_)
  refine x_lve (lv' := [(0, .ref (ad 23)), (1, .long ha)]) rfl ?_
  refine x_lload_n C 1 rfl rfl dX1_hashOnto_0 ?_
  refine x_aload_n C 0 rfl rfl dX1_hashOnto_1 ?_
  refine x_get C 0 1 1 rfl rfl wLy_X1 wFL_X1_15 rfl (by decide) rfl dX1_hashOnto_2 ?_
  refine x_i2l C dX1_hashOnto_5 ?_
  refine x_FSN (host := RX6) (w1 := ([] : va_W)) (wc := ([] : va_W)) (w2 := (wLk g ad jd jb jc js jl jx ji jf jn)) [.long ha, .long (Int32.toInt64 jb)] [] (wLk g ad jd jb jc js jl jx ji jf jn) C (k_X6_hashStep l g ha (Int32.toInt64 jb)) rfl yS_X6_hashStep (by decide +kernel) rfl rfl rfl (nle rfl) (nle rfl) (nle rfl) (nle rfl) (nle rfl) dX1_hashOnto_6 ?_
  refine x_lstore_n C [(3, .long ((31 * ha) + (Int32.toInt64 jb))), (0, .ref (ad 23)), (1, .long ha)] rfl rfl (by decide) dX1_hashOnto_9 ?_
  refine x_lload_n C 0 rfl rfl dX1_hashOnto_10 ?_
  refine x_aload_n C 1 rfl rfl dX1_hashOnto_11 ?_
  refine x_get C 0 1 2 rfl rfl wLy_X1 wFL_X1_18 rfl (by decide) rfl dX1_hashOnto_12 ?_
  refine x_i2l C dX1_hashOnto_15 ?_
  refine x_FSN (host := RX6) (w1 := ([] : va_W)) (wc := ([] : va_W)) (w2 := (wLk g ad jd jb jc js jl jx ji jf jn)) [.long ((31 * ha) + (Int32.toInt64 jb)), .long (Int32.toInt64 jc)] [] (wLk g ad jd jb jc js jl jx ji jf jn) C (k_X6_hashStep l g ((31 * ha) + (Int32.toInt64 jb)) (Int32.toInt64 jc)) rfl yS_X6_hashStep (by decide +kernel) rfl rfl rfl (nle rfl) (nle rfl) (nle rfl) (nle rfl) (nle rfl) dX1_hashOnto_16 ?_
  refine x_lstore_n C [(3, .long ((31 * ((31 * ha) + (Int32.toInt64 jb))) + (Int32.toInt64 jc))), (0, .ref (ad 23)), (1, .long ha)] rfl rfl (by decide) dX1_hashOnto_19 ?_
  refine x_lload_n C 0 rfl rfl dX1_hashOnto_20 ?_
  refine x_aload_n C 1 rfl rfl dX1_hashOnto_21 ?_
  refine x_get C 0 1 3 rfl rfl wLy_X1 wFL_X1_21 rfl (by decide) rfl dX1_hashOnto_22 ?_
  refine x_i2l C dX1_hashOnto_25 ?_
  refine x_FSN (host := RX6) (w1 := ([] : va_W)) (wc := ([] : va_W)) (w2 := (wLk g ad jd jb jc js jl jx ji jf jn)) [.long ((31 * ((31 * ha) + (Int32.toInt64 jb))) + (Int32.toInt64 jc)), .long (Int32.toInt64 js)] [] (wLk g ad jd jb jc js jl jx ji jf jn) C (k_X6_hashStep l g ((31 * ((31 * ha) + (Int32.toInt64 jb))) + (Int32.toInt64 jc)) (Int32.toInt64 js)) rfl yS_X6_hashStep (by decide +kernel) rfl rfl rfl (nle rfl) (nle rfl) (nle rfl) (nle rfl) (nle rfl) dX1_hashOnto_26 ?_
  refine x_lstore_n C [(3, .long ((31 * ((31 * ((31 * ha) + (Int32.toInt64 jb))) + (Int32.toInt64 jc))) + (Int32.toInt64 js))), (0, .ref (ad 23)), (1, .long ha)] rfl rfl (by decide) dX1_hashOnto_29 ?_
  refine x_lload_n C 0 rfl rfl dX1_hashOnto_30 ?_
  refine x_aload_n C 1 rfl rfl dX1_hashOnto_31 ?_
  refine x_get C 0 1 4 rfl rfl wLy_X1 wFL_X1_24 rfl (by decide) rfl dX1_hashOnto_32 ?_
  refine x_i2l C dX1_hashOnto_35 ?_
  refine x_FSN (host := RX6) (w1 := ([] : va_W)) (wc := ([] : va_W)) (w2 := (wLk g ad jd jb jc js jl jx ji jf jn)) [.long ((31 * ((31 * ((31 * ha) + (Int32.toInt64 jb))) + (Int32.toInt64 jc))) + (Int32.toInt64 js)), .long (Int32.toInt64 jl)] [] (wLk g ad jd jb jc js jl jx ji jf jn) C (k_X6_hashStep l g ((31 * ((31 * ((31 * ha) + (Int32.toInt64 jb))) + (Int32.toInt64 jc))) + (Int32.toInt64 js)) (Int32.toInt64 jl)) rfl yS_X6_hashStep (by decide +kernel) rfl rfl rfl (nle rfl) (nle rfl) (nle rfl) (nle rfl) (nle rfl) dX1_hashOnto_36 ?_
  refine x_lstore_n C [(3, .long ((31 * ((31 * ((31 * ((31 * ha) + (Int32.toInt64 jb))) + (Int32.toInt64 jc))) + (Int32.toInt64 js))) + (Int32.toInt64 jl))), (0, .ref (ad 23)), (1, .long ha)] rfl rfl (by decide) dX1_hashOnto_39 ?_
  refine x_lload_n C 0 rfl rfl dX1_hashOnto_40 ?_
  refine x_aload_n C 1 rfl rfl dX1_hashOnto_41 ?_
  refine x_get C 0 1 5 rfl rfl wLy_X1 wFL_X1_27 rfl (by decide) rfl dX1_hashOnto_42 ?_
  refine x_i2l C dX1_hashOnto_45 ?_
  refine x_FSN (host := RX6) (w1 := ([] : va_W)) (wc := ([] : va_W)) (w2 := (wLk g ad jd jb jc js jl jx ji jf jn)) [.long ((31 * ((31 * ((31 * ((31 * ha) + (Int32.toInt64 jb))) + (Int32.toInt64 jc))) + (Int32.toInt64 js))) + (Int32.toInt64 jl)), .long (Int32.toInt64 jx)] [] (wLk g ad jd jb jc js jl jx ji jf jn) C (k_X6_hashStep l g ((31 * ((31 * ((31 * ((31 * ha) + (Int32.toInt64 jb))) + (Int32.toInt64 jc))) + (Int32.toInt64 js))) + (Int32.toInt64 jl)) (Int32.toInt64 jx)) rfl yS_X6_hashStep (by decide +kernel) rfl rfl rfl (nle rfl) (nle rfl) (nle rfl) (nle rfl) (nle rfl) dX1_hashOnto_46 ?_
  refine x_lstore_n C [(3, .long ((31 * ((31 * ((31 * ((31 * ((31 * ha) + (Int32.toInt64 jb))) + (Int32.toInt64 jc))) + (Int32.toInt64 js))) + (Int32.toInt64 jl))) + (Int32.toInt64 jx))), (0, .ref (ad 23)), (1, .long ha)] rfl rfl (by decide) dX1_hashOnto_49 ?_
  refine x_lload_n C 0 rfl rfl dX1_hashOnto_50 ?_
  refine x_aload_n C 1 rfl rfl dX1_hashOnto_51 ?_
  refine x_get C 0 1 6 rfl rfl wLy_X1 wFL_X1_30 rfl (by decide) rfl dX1_hashOnto_52 ?_
  refine x_i2l C dX1_hashOnto_55 ?_
  refine x_FSN (host := RX6) (w1 := ([] : va_W)) (wc := ([] : va_W)) (w2 := (wLk g ad jd jb jc js jl jx ji jf jn)) [.long ((31 * ((31 * ((31 * ((31 * ((31 * ha) + (Int32.toInt64 jb))) + (Int32.toInt64 jc))) + (Int32.toInt64 js))) + (Int32.toInt64 jl))) + (Int32.toInt64 jx)), .long (Int32.toInt64 ji)] [] (wLk g ad jd jb jc js jl jx ji jf jn) C (k_X6_hashStep l g ((31 * ((31 * ((31 * ((31 * ((31 * ha) + (Int32.toInt64 jb))) + (Int32.toInt64 jc))) + (Int32.toInt64 js))) + (Int32.toInt64 jl))) + (Int32.toInt64 jx)) (Int32.toInt64 ji)) rfl yS_X6_hashStep (by decide +kernel) rfl rfl rfl (nle rfl) (nle rfl) (nle rfl) (nle rfl) (nle rfl) dX1_hashOnto_56 ?_
  refine x_lstore_n C [(3, .long ((31 * ((31 * ((31 * ((31 * ((31 * ((31 * ha) + (Int32.toInt64 jb))) + (Int32.toInt64 jc))) + (Int32.toInt64 js))) + (Int32.toInt64 jl))) + (Int32.toInt64 jx))) + (Int32.toInt64 ji))), (0, .ref (ad 23)), (1, .long ha)] rfl rfl (by decide) dX1_hashOnto_59 ?_
  refine x_lload_n C 0 rfl rfl dX1_hashOnto_60 ?_
  refine x_aload_n C 1 rfl rfl dX1_hashOnto_61 ?_
  refine x_get C 0 1 8 rfl rfl wLy_X1 wFL_X1_37 rfl (by decide) rfl dX1_hashOnto_62 ?_
  refine x_i2l C dX1_hashOnto_65 ?_
  refine x_FSN (host := RX6) (w1 := ([] : va_W)) (wc := ([] : va_W)) (w2 := (wLk g ad jd jb jc js jl jx ji jf jn)) [.long ((31 * ((31 * ((31 * ((31 * ((31 * ((31 * ha) + (Int32.toInt64 jb))) + (Int32.toInt64 jc))) + (Int32.toInt64 js))) + (Int32.toInt64 jl))) + (Int32.toInt64 jx))) + (Int32.toInt64 ji)), .long (Int32.toInt64 jn)] [] (wLk g ad jd jb jc js jl jx ji jf jn) C (k_X6_hashStep l g ((31 * ((31 * ((31 * ((31 * ((31 * ((31 * ha) + (Int32.toInt64 jb))) + (Int32.toInt64 jc))) + (Int32.toInt64 js))) + (Int32.toInt64 jl))) + (Int32.toInt64 jx))) + (Int32.toInt64 ji)) (Int32.toInt64 jn)) rfl yS_X6_hashStep (by decide +kernel) rfl rfl rfl (nle rfl) (nle rfl) (nle rfl) (nle rfl) (nle rfl) dX1_hashOnto_66 ?_
  exact x_lret C hr (nle rfl) (nle rfl) dX1_hashOnto_69 ⟨rfl, rfl⟩
