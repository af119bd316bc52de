def sp_X7_in (v : Int32) (lo : Int32) (hi : Int32) : Int32 := (if v < lo then (0 : Int32) else (if hi < v then (0 : Int32) else 1))
theorem spb_X7_in (v : Int32) (lo : Int32) (hi : Int32)  : (sp_X7_in v lo hi) = 0 ∨ (sp_X7_in v lo hi) = 1 := by
  unfold sp_X7_in
  exact (bool_ite (Or.inl rfl) (bool_ite (Or.inl rfl) (Or.inr rfl)))
set_option maxRecDepth 100000 in
theorem k_X7_in (l : Launch) (g : xGt) (v : Int32) (lo : Int32) (hi : Int32) : xM l g.1 (xT g) yX7_in (ws_ yX7_in cX7_in 3 (some .boolean)) (xRm 0 0 0 0) 0 0 [.int v, .int lo, .int hi] ([] : va_W) (fun r9 w9 => r9 = some (.int (sp_X7_in v lo hi)) ∧ w9 = ([] : va_W)) (fun _ _ => False) := by
  refine x_start (own := RX7) (nm := "in") rfl rfl (by decide +kernel) rfl (nle rfl) (fun p e σ m args below meth c A C hno hr => ?_)
  refine x_lve (lv' := [(0, .int v), (1, .int lo), (2, .int hi)]) rfl ?_
  refine x_iload_n C 0 rfl rfl dX7_in_0 ?_
  refine x_iload_n C 1 rfl rfl dX7_in_1 ?_
  suffices K2 : xW p l e _ σ m args below meth c g.1 A 3 0 0 _ ([] : va_W) [(0, .int v), (1, .int lo), (2, .int hi)] 15 [.int (if v < lo then (0 : Int32) else (if hi < v then (0 : Int32) else 1))] by
    refine x_icmp_lt C 14 (by decide) dX7_in_2 (fun h1 => ?_) (fun h1 => ?_)
    · refine x_iconst C 0 (by decide) dX7_in_14 ?_
      refine x_st (st' := [.int (if v < lo then (0 : Int32) else (if hi < v then (0 : Int32) else 1))]) (by simp only [if_pos h1]) ?_
      exact K2
    · refine x_iload_n C 0 rfl rfl dX7_in_5 ?_
      refine x_iload_n C 2 rfl rfl dX7_in_6 ?_
      refine x_icmp_gt C 14 (by decide) dX7_in_7 (fun h2 => ?_) (fun h2 => ?_)
      · refine x_iconst C 0 (by decide) dX7_in_14 ?_
        refine x_st (st' := [.int (if v < lo then (0 : Int32) else (if hi < v then (0 : Int32) else 1))]) (by simp only [if_neg h1, if_pos h2]) ?_
        exact K2
      · refine x_iconst C 1 (by decide) dX7_in_10 ?_
        refine x_goto C 15 (by decide) dX7_in_11 ?_
        refine x_st (st' := [.int (if v < lo then (0 : Int32) else (if hi < v then (0 : Int32) else 1))]) (by simp only [if_neg h1, if_neg h2]) ?_
        exact K2
  exact x_zret C hr (xnz (bool_ite (Or.inl rfl) (bool_ite (Or.inl rfl) (Or.inr rfl)))) (nle rfl) (nle rfl) dX7_in_15 ⟨(by first | (simp only [sp_X7_in]; done) | (simp only [sp_X7_in]; rfl)), rfl⟩
set_option maxRecDepth 100000 in
theorem k_X7_isStick (l : Launch) (g : xGt) (v : Int32) : xM l g.1 (xT g) yX7_isStick (ws_ yX7_isStick cX7_isStick 1 (some .boolean)) (xRm 1 22 0 0) 0 0 [.int v] ([] : va_W) (fun r9 w9 => r9 = some (.int (sp_X7_in v 0 3)) ∧ w9 = ([] : va_W)) (fun _ _ => False) := by
  refine x_start (own := RX7) (nm := "isStick") rfl rfl (by decide +kernel) rfl (nle rfl) (fun p e σ m args below meth c A C hno hr => ?_)
  refine x_lve (lv' := [(0, .int v)]) rfl ?_
  refine x_iload_n C 0 rfl rfl dX7_isStick_0 ?_
  refine x_iconst C 0 (by decide) dX7_isStick_1 ?_
  refine x_iconst C 3 (by decide) dX7_isStick_2 ?_
  refine x_FS (w1 := ([] : va_W)) (wc := ([] : va_W)) (w2 := ([] : va_W)) [.int v, .int 0, .int 3] [] ([] : va_W) C (k_X7_in l g v 0 3) rfl yS_X7_in wML_X7_35 rfl rfl rfl (nle rfl) (nle rfl) (nle rfl) (nle rfl) (nle rfl) dX7_isStick_3 ?_
  exact x_zret C hr (xnz (spb_X7_in v 0 3)) (nle rfl) (nle rfl) dX7_isStick_6 ⟨rfl, rfl⟩
set_option maxRecDepth 100000 in
theorem k_X7_isServo (l : Launch) (g : xGt) (v : Int32) : xM l g.1 (xT g) yX7_isServo (ws_ yX7_isServo cX7_isServo 1 (some .boolean)) (xRm 1 22 0 0) 0 0 [.int v] ([] : va_W) (fun r9 w9 => r9 = some (.int (sp_X7_in v 0 5)) ∧ w9 = ([] : va_W)) (fun _ _ => False) := by
  refine x_start (own := RX7) (nm := "isServo") rfl rfl (by decide +kernel) rfl (nle rfl) (fun p e σ m args below meth c A C hno hr => ?_)
  refine x_lve (lv' := [(0, .int v)]) rfl ?_
  refine x_iload_n C 0 rfl rfl dX7_isServo_0 ?_
  refine x_iconst C 0 (by decide) dX7_isServo_1 ?_
  refine x_iconst C 5 (by decide) dX7_isServo_2 ?_
  refine x_FS (w1 := ([] : va_W)) (wc := ([] : va_W)) (w2 := ([] : va_W)) [.int v, .int 0, .int 5] [] ([] : va_W) C (k_X7_in l g v 0 5) rfl yS_X7_in wML_X7_35 rfl rfl rfl (nle rfl) (nle rfl) (nle rfl) (nle rfl) (nle rfl) dX7_isServo_3 ?_
  exact x_zret C hr (xnz (spb_X7_in v 0 5)) (nle rfl) (nle rfl) dX7_isServo_6 ⟨rfl, rfl⟩
def sp_X7_within (v : Int32) (lo : Int32) (hi : Int32) : Int32 := (if lo ≤ v then (if v ≤ hi then v else hi) else lo)
set_option maxRecDepth 100000 in
theorem k_X7_within (l : Launch) (g : xGt) (v : Int32) (lo : Int32) (hi : Int32) : xM l g.1 (xT g) yX7_within (ws_ yX7_within cX7_within 3 (some .int)) (xRm 0 0 0 0) 0 0 [.int v, .int lo, .int hi] ([] : va_W) (fun r9 w9 => r9 = some (.int (sp_X7_within v lo hi)) ∧ w9 = ([] : va_W)) (fun _ _ => False) := by
  refine x_start (own := RX7) (nm := "within") rfl rfl (by decide +kernel) rfl (nle rfl) (fun p e σ m args below meth c A C hno hr => ?_)
  refine x_lve (lv' := [(0, .int v), (1, .int lo), (2, .int hi)]) rfl ?_
  refine x_iload_n C 0 rfl rfl dX7_within_0 ?_
  refine x_iload_n C 1 rfl rfl dX7_within_1 ?_
  suffices K2 : xW p l e _ σ m args below meth c g.1 A 3 0 0 _ ([] : va_W) [(0, .int v), (1, .int lo), (2, .int hi)] 19 [.int (if lo ≤ v then (if v ≤ hi then v else hi) else lo)] by
    refine x_icmp_ge C 9 (by decide) dX7_within_2 (fun h1 => ?_) (fun h1 => ?_)
    · refine x_iload_n C 0 rfl rfl dX7_within_9 ?_
      refine x_iload_n C 2 rfl rfl dX7_within_10 ?_
      refine x_icmp_le C 18 (by decide) dX7_within_11 (fun h2 => ?_) (fun h2 => ?_)
      · refine x_iload_n C 0 rfl rfl dX7_within_18 ?_
        refine x_st (st' := [.int (if lo ≤ v then (if v ≤ hi then v else hi) else lo)]) (by simp only [if_pos h1, if_pos h2]) ?_
        exact K2
      · refine x_iload_n C 2 rfl rfl dX7_within_14 ?_
        refine x_goto C 19 (by decide) dX7_within_15 ?_
        refine x_st (st' := [.int (if lo ≤ v then (if v ≤ hi then v else hi) else lo)]) (by simp only [if_pos h1, if_neg h2]) ?_
        exact K2
    · refine x_iload_n C 1 rfl rfl dX7_within_5 ?_
      refine x_goto C 19 (by decide) dX7_within_6 ?_
      refine x_st (st' := [.int (if lo ≤ v then (if v ≤ hi then v else hi) else lo)]) (by simp only [if_neg h1]) ?_
      exact K2
  exact x_iret C hr (nle rfl) (nle rfl) dX7_within_19 ⟨(by first | (simp only [sp_X7_within]; done) | (simp only [sp_X7_within]; rfl)), rfl⟩
def sp_X7_size (v : Int32) : Int32 := (if 0 ≤ v then v else (-v))
set_option maxRecDepth 100000 in
theorem k_X7_size (l : Launch) (g : xGt) (v : Int32) : xM l g.1 (xT g) yX7_size (ws_ yX7_size cX7_size 1 (some .int)) (xRm 0 0 0 0) 0 0 [.int v] ([] : va_W) (fun r9 w9 => r9 = some (.int (sp_X7_size v)) ∧ w9 = ([] : va_W)) (fun _ _ => False) := by
  refine x_start (own := RX7) (nm := "size") rfl rfl (by decide +kernel) rfl (nle rfl) (fun p e σ m args below meth c A C hno hr => ?_)
  refine x_lve (lv' := [(0, .int v)]) rfl ?_
  refine x_iload_n C 0 rfl rfl dX7_size_0 ?_
  suffices K2 : xW p l e _ σ m args below meth c g.1 A 1 0 0 _ ([] : va_W) [(0, .int v)] 10 [.int (if 0 ≤ v then v else (-v))] by
    refine x_if_ge C 9 (by decide) dX7_size_1 (fun h1 => ?_) (fun h1 => ?_)
    · refine x_iload_n C 0 rfl rfl dX7_size_9 ?_
      refine x_st (st' := [.int (if 0 ≤ v then v else (-v))]) (by simp only [if_pos h1]) ?_
      exact K2
    · refine x_iload_n C 0 rfl rfl dX7_size_4 ?_
      refine x_ineg C dX7_size_5 ?_
      refine x_goto C 10 (by decide) dX7_size_6 ?_
      refine x_st (st' := [.int (if 0 ≤ v then v else (-v))]) (by simp only [if_neg h1]) ?_
      exact K2
  exact x_iret C hr (nle rfl) (nle rfl) dX7_size_10 ⟨(by first | (simp only [sp_X7_size]; done) | (simp only [sp_X7_size]; rfl)), rfl⟩
set_option maxRecDepth 100000 in
theorem k_X7_place (l : Launch) (g : xGt) (x_k : Int32) (k : Nat) (e_k : x_k = nI k) (x_w : Int32) (w : Nat) (e_w : x_w = nI w) : xM l g.1 (xT g) yX7_place (ws_ yX7_place cX7_place 2 (some .int)) (xRm 0 0 0 0) 0 0 [.int x_k, .int x_w] ([] : va_W) (fun r9 w9 => r9 = some (.int (nI (87 + 10 * k + w))) ∧ w9 = ([] : va_W)) (fun _ _ => False) := by
  subst e_k e_w
  refine x_start (own := RX7) (nm := "place") rfl rfl (by decide +kernel) rfl (nle rfl) (fun p e σ m args below meth c A C hno hr => ?_)
  refine x_lve (lv' := [(0, .int (nI k)), (1, .int (nI w))]) rfl ?_
  refine x_bipush C 87 (by decide) dX7_place_0 ?_
  refine x_bipush C 10 (by decide) dX7_place_2 ?_
  refine x_iload_n C 0 rfl rfl dX7_place_4 ?_
  refine x_imulN C 10 k rfl rfl dX7_place_5 ?_
  refine x_iaddN C 87 (10 * k) rfl rfl dX7_place_6 ?_
  refine x_iload_n C 1 rfl rfl dX7_place_7 ?_
  refine x_iaddN C (87 + 10 * k) w rfl rfl dX7_place_8 ?_
  exact x_iret C hr (nle rfl) (nle rfl) dX7_place_9 ⟨rfl, rfl⟩
set_option maxRecDepth 100000 in
theorem k_X7_thrown (l : Launch) (g : xGt) (am : Nat → Nat) (s fi tx dm : Nat → Int32) (th sa ln pa le sk nu : Int32) (h : Int64)  : xM l g.1 (xT g) yX7_thrown (ws_ yX7_thrown cX7_thrown 1 (some .int)) (xRm 0 0 0 0) 0 0 [.ref (am 0)] (wMo g am s fi tx dm th sa ln pa le sk nu h) (fun r9 w9 => r9 = some (.int th) ∧ w9 = (wMo g am s fi tx dm th sa ln pa le sk nu h)) (fun _ _ => False) := by
  refine x_start (own := RX7) (nm := "thrown") rfl rfl (by decide +kernel) rfl (nle rfl) (fun p e σ m args below meth c A C hno hr => ?_)
  refine x_lve (lv' := [(0, .ref (am 0))]) rfl ?_
  refine x_aload_n C 0 rfl rfl dX7_thrown_0 ?_
  refine x_get C 0 7 0 rfl rfl wLy_X7 wFL_X7_31 rfl (by decide) rfl dX7_thrown_1 ?_
  exact x_iret C hr (nle rfl) (nle rfl) dX7_thrown_4 ⟨rfl, rfl⟩
def sp_X7_holds (pl : Int32) : Int32 := (if pl = 0 then (1 : Int32) else 0)
theorem spb_X7_holds (pl : Int32)  : (sp_X7_holds pl) = 0 ∨ (sp_X7_holds pl) = 1 := by
  unfold sp_X7_holds
  exact (bool_ite (Or.inr rfl) (Or.inl rfl))
set_option maxRecDepth 100000 in
theorem k_X7_holds (l : Launch) (g : xGt) (am : Nat → Nat) (s fi tx dm : Nat → Int32) (th sa ln pa le sk nu : Int32) (h : Int64) (pl : Int32) : xM l g.1 (xT g) yX7_holds (ws_ yX7_holds cX7_holds 2 (some .boolean)) (xRm 0 0 0 0) 0 0 [.ref (am 0), .int pl] (wMo g am s fi tx dm th sa ln pa le sk nu h) (fun r9 w9 => r9 = some (.int (sp_X7_holds pl)) ∧ w9 = (wMo g am s fi tx dm pl sa ln pa le sk nu h)) (fun _ _ => False) := by
  refine x_start (own := RX7) (nm := "holds") rfl rfl (by decide +kernel) rfl (nle rfl) (fun p e σ m args below meth c A C hno hr => ?_)
  refine x_lve (lv' := [(0, .ref (am 0)), (1, .int pl)]) rfl ?_
  refine x_aload_n C 0 rfl rfl dX7_holds_0 ?_
  refine x_iload_n C 1 rfl rfl dX7_holds_1 ?_
  refine x_put C 0 7 0 tyX7 (wMo g am s fi tx dm pl sa ln pa le sk nu h) rfl rfl rfl wLy_X7 tyX7_ok nmX7 wFL_X7_31 rfl (by decide) rfl rfl rfl rfl (nlt rfl) dX7_holds_2 ?_
  refine x_iload_n C 1 rfl rfl dX7_holds_5 ?_
  suffices K2 : xW p l e _ σ m args below meth c g.1 A 2 0 0 _ (wMo g am s fi tx dm pl sa ln pa le sk nu h) [(0, .ref (am 0)), (1, .int pl)] 14 [.int (if pl = 0 then (1 : Int32) else 0)] by
    refine x_if_ne C 13 (by decide) dX7_holds_6 (fun h1 => ?_) (fun h1 => ?_)
    · refine x_iconst C 0 (by decide) dX7_holds_13 ?_
      refine x_st (st' := [.int (if pl = 0 then (1 : Int32) else 0)]) (by simp only [if_neg h1]) ?_
      exact K2
    · refine x_iconst C 1 (by decide) dX7_holds_9 ?_
      refine x_goto C 14 (by decide) dX7_holds_10 ?_
      refine x_st (st' := [.int (if pl = 0 then (1 : Int32) else 0)]) (by simp only [if_pos h1]) ?_
      exact K2
  exact x_zret C hr (xnz (bool_ite (Or.inr rfl) (Or.inl rfl))) (nle rfl) (nle rfl) dX7_holds_14 ⟨(by first | (simp only [sp_X7_holds]; done) | (simp only [sp_X7_holds]; rfl)), rfl⟩
set_option maxRecDepth 100000 in
theorem k_X7_isMix (l : Launch) (g : xGt) (am : Nat → Nat) (s fi tx dm : Nat → Int32) (th sa ln pa le sk nu : Int32) (h : Int64) (mx : Int32) : xM l g.1 (xT g) yX7_isMix (ws_ yX7_isMix cX7_isMix 2 (some .boolean)) (xRm 1 22 0 0) 0 0 [.ref (am 0), .int mx] (wMo g am s fi tx dm th sa ln pa le sk nu h) (fun r9 w9 => r9 = some (.int (sp_X7_in mx 0 ((s 26) - 1))) ∧ w9 = (wMo g am s fi tx dm th sa ln pa le sk nu h)) (fun _ _ => False) := by
  refine x_start (own := RX7) (nm := "isMix") rfl rfl (by decide +kernel) rfl (nle rfl) (fun p e σ m args below meth c A C hno hr => ?_)
  refine x_lve (lv' := [(0, .ref (am 0)), (1, .int mx)]) rfl ?_
  refine x_iload_n C 1 rfl rfl dX7_isMix_0 ?_
  refine x_iconst C 0 (by decide) dX7_isMix_1 ?_
  refine x_aload_n C 0 rfl rfl dX7_isMix_2 ?_
  refine x_get C 0 7 1 rfl rfl wLy_X7 wFL_X7_7 rfl (by decide) rfl dX7_isMix_3 ?_
  refine x_bipush C 26 (by decide) dX7_isMix_6 ?_
  refine x_ialdN (f := s) C 1 0 26 rfl rfl rfl (by omega) (by decide) dX7_isMix_8 ?_
  refine x_iconst C 1 (by decide) dX7_isMix_9 ?_
  refine x_isub C dX7_isMix_10 ?_
  refine x_FS (w1 := ([] : va_W)) (wc := ([] : va_W)) (w2 := (wMo g am s fi tx dm th sa ln pa le sk nu h)) [.int mx, .int 0, .int ((s 26) - 1)] [] (wMo g am s fi tx dm th sa ln pa le sk nu h) C (k_X7_in l g mx 0 ((s 26) - 1)) rfl yS_X7_in wML_X7_35 rfl rfl rfl (nle rfl) (nle rfl) (nle rfl) (nle rfl) (nle rfl) dX7_isMix_11 ?_
  exact x_zret C hr (xnz (spb_X7_in mx 0 ((s 26) - 1))) (nle rfl) (nle rfl) dX7_isMix_14 ⟨rfl, rfl⟩
set_option maxRecDepth 100000 in
theorem k_X7_of (l : Launch) (g : xGt) (am : Nat → Nat) (s fi tx dm : Nat → Int32) (th sa ln pa le sk nu : Int32) (h : Int64) (x_b : Int32) (b : Nat) (e_b : x_b = nI b) (x_k : Int32) (k : Nat) (e_k : x_k = nI k) (x_w : Int32) (w : Nat) (e_w : x_w = nI w) (hi : b + 87 + 10 * k + w < 1560) : xM l g.1 (xT g) yX7_of (ws_ yX7_of cX7_of 4 (some .int)) (xRm 0 0 0 0) 0 0 [.ref (am 0), .int x_b, .int x_k, .int x_w] (wMo g am s fi tx dm th sa ln pa le sk nu h) (fun r9 w9 => r9 = some (.int (s (b + 87 + 10 * k + w))) ∧ w9 = (wMo g am s fi tx dm th sa ln pa le sk nu h)) (fun _ _ => False) := by
  subst e_b e_k e_w
  refine x_start (own := RX7) (nm := "of") rfl rfl (by decide +kernel) rfl (nle rfl) (fun p e σ m args below meth c A C hno hr => ?_)
  refine x_lve (lv' := [(0, .ref (am 0)), (1, .int (nI b)), (2, .int (nI k)), (3, .int (nI w))]) rfl ?_
  refine x_aload_n C 0 rfl rfl dX7_of_0 ?_
  refine x_get C 0 7 1 rfl rfl wLy_X7 wFL_X7_7 rfl (by decide) rfl dX7_of_1 ?_
  refine x_iload_n C 1 rfl rfl dX7_of_4 ?_
  refine x_bipush C 87 (by decide) dX7_of_5 ?_
  refine x_iaddN C b 87 rfl rfl dX7_of_7 ?_
  refine x_bipush C 10 (by decide) dX7_of_8 ?_
  refine x_iload_n C 2 rfl rfl dX7_of_10 ?_
  refine x_imulN C 10 k rfl rfl dX7_of_11 ?_
  refine x_iaddN C (b + 87) (10 * k) rfl rfl dX7_of_12 ?_
  refine x_iload_n C 3 rfl rfl dX7_of_13 ?_
  refine x_iaddN C (b + 87 + 10 * k) w rfl rfl dX7_of_14 ?_
  refine x_ialdN (f := s) C 1 0 (b + 87 + 10 * k + w) rfl rfl rfl (by omega) (by decide) dX7_of_15 ?_
  exact x_iret C hr (nle rfl) (nle rfl) dX7_of_16 ⟨rfl, rfl⟩
set_option maxRecDepth 100000 in
theorem k_X7_lay (l : Launch) (g : xGt) (am : Nat → Nat) (s fi tx dm : Nat → Int32) (th sa ln pa le sk nu : Int32) (h : Int64) (x_b : Int32) (b : Nat) (e_b : x_b = nI b) (x_k : Int32) (k : Nat) (e_k : x_k = nI k) (x_w : Int32) (w : Nat) (e_w : x_w = nI w) (v : Int32) (hi : b + 87 + 10 * k + w < 1560) : xM l g.1 (xT g) yX7_lay (ws_ yX7_lay cX7_lay 5 none) (xRm 0 0 0 0) 0 0 [.ref (am 0), .int x_b, .int x_k, .int x_w, .int v] (wMo g am s fi tx dm th sa ln pa le sk nu h) (fun r9 w9 => r9 = none ∧ w9 = (wMo g am (upd s (b + 87 + 10 * k + w) v) fi tx dm th sa ln pa le sk nu h)) (fun _ _ => False) := by
  subst e_b e_k e_w
  refine x_start (own := RX7) (nm := "lay") rfl rfl (by decide +kernel) rfl (nle rfl) (fun p e σ m args below meth c A C hno hr => ?_)
  refine x_lve (lv' := [(0, .ref (am 0)), (1, .int (nI b)), (2, .int (nI k)), (3, .int (nI w)), (4, .int v)]) rfl ?_
  refine x_aload_n C 0 rfl rfl dX7_lay_0 ?_
  refine x_get C 0 7 1 rfl rfl wLy_X7 wFL_X7_7 rfl (by decide) rfl dX7_lay_1 ?_
  refine x_iload_n C 1 rfl rfl dX7_lay_4 ?_
  refine x_bipush C 87 (by decide) dX7_lay_5 ?_
  refine x_iaddN C b 87 rfl rfl dX7_lay_7 ?_
  refine x_bipush C 10 (by decide) dX7_lay_8 ?_
  refine x_iload_n C 2 rfl rfl dX7_lay_10 ?_
  refine x_imulN C 10 k rfl rfl dX7_lay_11 ?_
  refine x_iaddN C (b + 87) (10 * k) rfl rfl dX7_lay_12 ?_
  refine x_iload_n C 3 rfl rfl dX7_lay_13 ?_
  refine x_iaddN C (b + 87 + 10 * k) w rfl rfl dX7_lay_14 ?_
  refine x_iload C 4 rfl dX7_lay_15 ?_
  refine x_iastN (f := s) C 1 0 (b + 87 + 10 * k + w) (wMo g am (upd s (b + 87 + 10 * k + w) v) fi tx dm th sa ln pa le sk nu h) rfl rfl rfl rfl (by omega) (by decide) dX7_lay_17 ?_
  exact x_vret C hr (nle rfl) (nle rfl) dX7_lay_18 ⟨rfl, rfl⟩
set_option maxRecDepth 100000 in
theorem k_X7_ofMix (l : Launch) (g : xGt) (am : Nat → Nat) (s fi tx dm : Nat → Int32) (th sa ln pa le sk nu : Int32) (h : Int64) (x_b : Int32) (b : Nat) (e_b : x_b = nI b) (x_j : Int32) (j : Nat) (e_j : x_j = nI j) (x_w : Int32) (w : Nat) (e_w : x_w = nI w) (hi : b + 27 + 5 * j + w < 1560) : xM l g.1 (xT g) yX7_ofMix (ws_ yX7_ofMix cX7_ofMix 4 (some .int)) (xRm 0 0 0 0) 0 0 [.ref (am 0), .int x_b, .int x_j, .int x_w] (wMo g am s fi tx dm th sa ln pa le sk nu h) (fun r9 w9 => r9 = some (.int (s (b + 27 + 5 * j + w))) ∧ w9 = (wMo g am s fi tx dm th sa ln pa le sk nu h)) (fun _ _ => False) := by
  subst e_b e_j e_w
  refine x_start (own := RX7) (nm := "ofMix") rfl rfl (by decide +kernel) rfl (nle rfl) (fun p e σ m args below meth c A C hno hr => ?_)
  refine x_lve (lv' := [(0, .ref (am 0)), (1, .int (nI b)), (2, .int (nI j)), (3, .int (nI w))]) rfl ?_
  refine x_aload_n C 0 rfl rfl dX7_ofMix_0 ?_
  refine x_get C 0 7 1 rfl rfl wLy_X7 wFL_X7_7 rfl (by decide) rfl dX7_ofMix_1 ?_
  refine x_iload_n C 1 rfl rfl dX7_ofMix_4 ?_
  refine x_bipush C 27 (by decide) dX7_ofMix_5 ?_
  refine x_iaddN C b 27 rfl rfl dX7_ofMix_7 ?_
  refine x_iconst C 5 (by decide) dX7_ofMix_8 ?_
  refine x_iload_n C 2 rfl rfl dX7_ofMix_9 ?_
  refine x_imulN C 5 j rfl rfl dX7_ofMix_10 ?_
  refine x_iaddN C (b + 27) (5 * j) rfl rfl dX7_ofMix_11 ?_
  refine x_iload_n C 3 rfl rfl dX7_ofMix_12 ?_
  refine x_iaddN C (b + 27 + 5 * j) w rfl rfl dX7_ofMix_13 ?_
  refine x_ialdN (f := s) C 1 0 (b + 27 + 5 * j + w) rfl rfl rfl (by omega) (by decide) dX7_ofMix_14 ?_
  exact x_iret C hr (nle rfl) (nle rfl) dX7_ofMix_15 ⟨rfl, rfl⟩
def sp_X7_commandOf (s : Nat → Int32) (b : Nat) (k : Nat) : Int32 := (if (nI k) = 2 then (if (s (b + 25)) = 1 then (-100) else (((((((100 - (s (b + 4 + k))) * (s (b + 0 + k))) + ((s (b + 4 + k)) * ((((s (b + 0 + k)) * (s (b + 0 + k))) * (s (b + 0 + k))) / 10000))) / 100) * (s (b + 8 + (4 * (Int32.toNatClampNeg (s (b + 24))) + k)))) / 100) + (s (b + 16 + (4 * (Int32.toNatClampNeg (s (b + 24))) + k))))) else (((((((100 - (s (b + 4 + k))) * (s (b + 0 + k))) + ((s (b + 4 + k)) * ((((s (b + 0 + k)) * (s (b + 0 + k))) * (s (b + 0 + k))) / 10000))) / 100) * (s (b + 8 + (4 * (Int32.toNatClampNeg (s (b + 24))) + k)))) / 100) + (s (b + 16 + (4 * (Int32.toNatClampNeg (s (b + 24))) + k)))))
set_option maxRecDepth 100000 in
theorem k_X7_commandOf (l : Launch) (g : xGt) (am : Nat → Nat) (s fi tx dm : Nat → Int32) (th sa ln pa le sk nu : Int32) (h : Int64) (x_b : Int32) (b : Nat) (e_b : x_b = nI b) (x_k : Int32) (k : Nat) (e_k : x_k = nI k) (hi : b + 156 ≤ 1560) (hk : k < 4) (hz : s (b + 24) = 0 ∨ s (b + 24) = 1) : xM l g.1 (xT g) yX7_commandOf (ws_ yX7_commandOf cX7_commandOf 7 (some .int)) (xRm 0 0 0 0) 0 0 [.ref (am 0), .int x_b, .int x_k] (wMo g am s fi tx dm th sa ln pa le sk nu h) (fun r9 w9 => r9 = some (.int (sp_X7_commandOf s b k)) ∧ w9 = (wMo g am s fi tx dm th sa ln pa le sk nu h)) (fun _ _ => False) := by
  subst e_b e_k
  refine x_start (own := RX7) (nm := "commandOf") rfl rfl (by decide +kernel) rfl (nle rfl) (fun p e σ m args below meth c A C hno hr => ?_)
  refine x_lve (lv' := [(0, .ref (am 0)), (1, .int (nI b)), (2, .int (nI k))]) rfl ?_
  refine x_iload_n C 2 rfl rfl dX7_commandOf_0 ?_
  refine x_iconst C 2 (by decide) dX7_commandOf_1 ?_
  refine x_icmp_ne C 21 (by decide) dX7_commandOf_2 (fun h1 => ?_) (fun h1 => ?_)
  · refine x_aload_n C 0 rfl rfl dX7_commandOf_21 ?_
    refine x_get C 0 7 1 rfl rfl wLy_X7 wFL_X7_7 rfl (by decide) rfl dX7_commandOf_22 ?_
    refine x_iload_n C 1 rfl rfl dX7_commandOf_25 ?_
    refine x_iconst C 0 (by decide) dX7_commandOf_26 ?_
    refine x_iaddN C b 0 rfl rfl dX7_commandOf_27 ?_
    refine x_iload_n C 2 rfl rfl dX7_commandOf_28 ?_
    refine x_iaddN C (b + 0) k rfl rfl dX7_commandOf_29 ?_
    refine x_ialdN (f := s) C 1 0 (b + 0 + k) rfl rfl rfl (by omega) (by decide) dX7_commandOf_30 ?_
    refine x_istore_n C [(3, .int (s (b + 0 + k))), (0, .ref (am 0)), (1, .int (nI b)), (2, .int (nI k))] rfl rfl (by decide) dX7_commandOf_31 ?_
    refine x_aload_n C 1 rfl rfl dX7_commandOf_32 ?_
    refine x_get C 0 7 1 rfl rfl wLy_X7 wFL_X7_7 rfl (by decide) rfl dX7_commandOf_33 ?_
    refine x_iload_n C 2 rfl rfl dX7_commandOf_36 ?_
    refine x_iconst C 4 (by decide) dX7_commandOf_37 ?_
    refine x_iaddN C b 4 rfl rfl dX7_commandOf_38 ?_
    refine x_iload_n C 3 rfl rfl dX7_commandOf_39 ?_
    refine x_iaddN C (b + 4) k rfl rfl dX7_commandOf_40 ?_
    refine x_ialdN (f := s) C 1 0 (b + 4 + k) rfl rfl rfl (by omega) (by decide) dX7_commandOf_41 ?_
    refine x_istore C [(4, .int (s (b + 4 + k))), (3, .int (s (b + 0 + k))), (0, .ref (am 0)), (1, .int (nI b)), (2, .int (nI k))] rfl (by decide) dX7_commandOf_42 ?_
    refine x_bipush C 100 (by decide) dX7_commandOf_44 ?_
    refine x_iload C 0 rfl dX7_commandOf_46 ?_
    refine x_isub C dX7_commandOf_48 ?_
    refine x_iload_n C 1 rfl rfl dX7_commandOf_49 ?_
    refine x_imul C dX7_commandOf_50 ?_
    refine x_iload C 0 rfl dX7_commandOf_51 ?_
    refine x_iload_n C 1 rfl rfl dX7_commandOf_53 ?_
    refine x_iload_n C 1 rfl rfl dX7_commandOf_54 ?_
    refine x_imul C dX7_commandOf_55 ?_
    refine x_iload_n C 1 rfl rfl dX7_commandOf_56 ?_
    refine x_imul C dX7_commandOf_57 ?_
    refine x_sipush C 10000 (by decide) dX7_commandOf_58 ?_
    refine x_idiv C (by decide) dX7_commandOf_61 ?_
    refine x_imul C dX7_commandOf_62 ?_
    refine x_iadd C dX7_commandOf_63 ?_
    refine x_bipush C 100 (by decide) dX7_commandOf_64 ?_
    refine x_idiv C (by decide) dX7_commandOf_66 ?_
    refine x_istore C [(5, .int ((((100 - (s (b + 4 + k))) * (s (b + 0 + k))) + ((s (b + 4 + k)) * ((((s (b + 0 + k)) * (s (b + 0 + k))) * (s (b + 0 + k))) / 10000))) / 100)), (4, .int (s (b + 4 + k))), (3, .int (s (b + 0 + k))), (0, .ref (am 0)), (1, .int (nI b)), (2, .int (nI k))] rfl (by decide) dX7_commandOf_67 ?_
    refine x_iconst C 4 (by decide) dX7_commandOf_69 ?_
    refine x_aload_n C 3 rfl rfl dX7_commandOf_70 ?_
    refine x_get C 0 7 1 rfl rfl wLy_X7 wFL_X7_7 rfl (by decide) rfl dX7_commandOf_71 ?_
    refine x_iload_n C 4 rfl rfl dX7_commandOf_74 ?_
    refine x_bipush C 24 (by decide) dX7_commandOf_75 ?_
    refine x_iaddN C b 24 rfl rfl dX7_commandOf_77 ?_
    refine x_ialdN (f := s) C 1 0 (b + 24) rfl rfl rfl (by omega) (by decide) dX7_commandOf_78 ?_
    refine x_imulN C 4 (Int32.toNatClampNeg (s (b + 24))) rfl (xb_nat hz) dX7_commandOf_79 ?_
    refine x_iload_n C 5 rfl rfl dX7_commandOf_80 ?_
    refine x_iaddN C (4 * (Int32.toNatClampNeg (s (b + 24)))) k rfl rfl dX7_commandOf_81 ?_
    refine x_istore C [(6, .int (nI (4 * (Int32.toNatClampNeg (s (b + 24))) + k))), (5, .int ((((100 - (s (b + 4 + k))) * (s (b + 0 + k))) + ((s (b + 4 + k)) * ((((s (b + 0 + k)) * (s (b + 0 + k))) * (s (b + 0 + k))) / 10000))) / 100)), (4, .int (s (b + 4 + k))), (3, .int (s (b + 0 + k))), (0, .ref (am 0)), (1, .int (nI b)), (2, .int (nI k))] rfl (by decide) dX7_commandOf_82 ?_
    refine x_iload C 1 rfl dX7_commandOf_84 ?_
    refine x_aload_n C 4 rfl rfl dX7_commandOf_86 ?_
    refine x_get C 0 7 1 rfl rfl wLy_X7 wFL_X7_7 rfl (by decide) rfl dX7_commandOf_87 ?_
    refine x_iload_n C 5 rfl rfl dX7_commandOf_90 ?_
    refine x_bipush C 8 (by decide) dX7_commandOf_91 ?_
    refine x_iaddN C b 8 rfl rfl dX7_commandOf_93 ?_
    refine x_iload C 0 rfl dX7_commandOf_94 ?_
    refine x_iaddN C (b + 8) (4 * (Int32.toNatClampNeg (s (b + 24))) + k) rfl rfl dX7_commandOf_96 ?_
    refine x_ialdN (f := s) C 1 0 (b + 8 + (4 * (Int32.toNatClampNeg (s (b + 24))) + k)) rfl rfl rfl (by have := xb_le hz; omega) (by decide) dX7_commandOf_97 ?_
    refine x_imul C dX7_commandOf_98 ?_
    refine x_bipush C 100 (by decide) dX7_commandOf_99 ?_
    refine x_idiv C (by decide) dX7_commandOf_101 ?_
    refine x_aload_n C 4 rfl rfl dX7_commandOf_102 ?_
    refine x_get C 0 7 1 rfl rfl wLy_X7 wFL_X7_7 rfl (by decide) rfl dX7_commandOf_103 ?_
    refine x_iload_n C 5 rfl rfl dX7_commandOf_106 ?_
    refine x_bipush C 16 (by decide) dX7_commandOf_107 ?_
    refine x_iaddN C b 16 rfl rfl dX7_commandOf_109 ?_
    refine x_iload C 0 rfl dX7_commandOf_110 ?_
    refine x_iaddN C (b + 16) (4 * (Int32.toNatClampNeg (s (b + 24))) + k) rfl rfl dX7_commandOf_112 ?_
    refine x_ialdN (f := s) C 1 0 (b + 16 + (4 * (Int32.toNatClampNeg (s (b + 24))) + k)) rfl rfl rfl (by have := xb_le hz; omega) (by decide) dX7_commandOf_113 ?_
    refine x_iadd C dX7_commandOf_114 ?_
    exact x_iret C hr (nle rfl) (nle rfl) dX7_commandOf_115 ⟨(by first | (simp only [sp_X7_commandOf, if_neg h1]; done) | (simp only [sp_X7_commandOf, if_neg h1]; rfl)), rfl⟩
  · refine x_aload_n C 0 rfl rfl dX7_commandOf_5 ?_
    refine x_get C 0 7 1 rfl rfl wLy_X7 wFL_X7_7 rfl (by decide) rfl dX7_commandOf_6 ?_
    refine x_iload_n C 1 rfl rfl dX7_commandOf_9 ?_
    refine x_bipush C 25 (by decide) dX7_commandOf_10 ?_
    refine x_iaddN C b 25 rfl rfl dX7_commandOf_12 ?_
    refine x_ialdN (f := s) C 1 0 (b + 25) rfl rfl rfl (by omega) (by decide) dX7_commandOf_13 ?_
    refine x_iconst C 1 (by decide) dX7_commandOf_14 ?_
    refine x_icmp_ne C 21 (by decide) dX7_commandOf_15 (fun h2 => ?_) (fun h2 => ?_)
    · refine x_aload_n C 0 rfl rfl dX7_commandOf_21 ?_
      refine x_get C 0 7 1 rfl rfl wLy_X7 wFL_X7_7 rfl (by decide) rfl dX7_commandOf_22 ?_
      refine x_iload_n C 1 rfl rfl dX7_commandOf_25 ?_
      refine x_iconst C 0 (by decide) dX7_commandOf_26 ?_
      refine x_iaddN C b 0 rfl rfl dX7_commandOf_27 ?_
      refine x_iload_n C 2 rfl rfl dX7_commandOf_28 ?_
      refine x_iaddN C (b + 0) k rfl rfl dX7_commandOf_29 ?_
      refine x_ialdN (f := s) C 1 0 (b + 0 + k) rfl rfl rfl (by omega) (by decide) dX7_commandOf_30 ?_
      refine x_istore_n C [(3, .int (s (b + 0 + k))), (0, .ref (am 0)), (1, .int (nI b)), (2, .int (nI k))] rfl rfl (by decide) dX7_commandOf_31 ?_
      refine x_aload_n C 1 rfl rfl dX7_commandOf_32 ?_
      refine x_get C 0 7 1 rfl rfl wLy_X7 wFL_X7_7 rfl (by decide) rfl dX7_commandOf_33 ?_
      refine x_iload_n C 2 rfl rfl dX7_commandOf_36 ?_
      refine x_iconst C 4 (by decide) dX7_commandOf_37 ?_
      refine x_iaddN C b 4 rfl rfl dX7_commandOf_38 ?_
      refine x_iload_n C 3 rfl rfl dX7_commandOf_39 ?_
      refine x_iaddN C (b + 4) k rfl rfl dX7_commandOf_40 ?_
      refine x_ialdN (f := s) C 1 0 (b + 4 + k) rfl rfl rfl (by omega) (by decide) dX7_commandOf_41 ?_
      refine x_istore C [(4, .int (s (b + 4 + k))), (3, .int (s (b + 0 + k))), (0, .ref (am 0)), (1, .int (nI b)), (2, .int (nI k))] rfl (by decide) dX7_commandOf_42 ?_
      refine x_bipush C 100 (by decide) dX7_commandOf_44 ?_
      refine x_iload C 0 rfl dX7_commandOf_46 ?_
      refine x_isub C dX7_commandOf_48 ?_
      refine x_iload_n C 1 rfl rfl dX7_commandOf_49 ?_
      refine x_imul C dX7_commandOf_50 ?_
      refine x_iload C 0 rfl dX7_commandOf_51 ?_
      refine x_iload_n C 1 rfl rfl dX7_commandOf_53 ?_
      refine x_iload_n C 1 rfl rfl dX7_commandOf_54 ?_
      refine x_imul C dX7_commandOf_55 ?_
      refine x_iload_n C 1 rfl rfl dX7_commandOf_56 ?_
      refine x_imul C dX7_commandOf_57 ?_
      refine x_sipush C 10000 (by decide) dX7_commandOf_58 ?_
      refine x_idiv C (by decide) dX7_commandOf_61 ?_
      refine x_imul C dX7_commandOf_62 ?_
      refine x_iadd C dX7_commandOf_63 ?_
      refine x_bipush C 100 (by decide) dX7_commandOf_64 ?_
      refine x_idiv C (by decide) dX7_commandOf_66 ?_
      refine x_istore C [(5, .int ((((100 - (s (b + 4 + k))) * (s (b + 0 + k))) + ((s (b + 4 + k)) * ((((s (b + 0 + k)) * (s (b + 0 + k))) * (s (b + 0 + k))) / 10000))) / 100)), (4, .int (s (b + 4 + k))), (3, .int (s (b + 0 + k))), (0, .ref (am 0)), (1, .int (nI b)), (2, .int (nI k))] rfl (by decide) dX7_commandOf_67 ?_
      refine x_iconst C 4 (by decide) dX7_commandOf_69 ?_
      refine x_aload_n C 3 rfl rfl dX7_commandOf_70 ?_
      refine x_get C 0 7 1 rfl rfl wLy_X7 wFL_X7_7 rfl (by decide) rfl dX7_commandOf_71 ?_
      refine x_iload_n C 4 rfl rfl dX7_commandOf_74 ?_
      refine x_bipush C 24 (by decide) dX7_commandOf_75 ?_
      refine x_iaddN C b 24 rfl rfl dX7_commandOf_77 ?_
      refine x_ialdN (f := s) C 1 0 (b + 24) rfl rfl rfl (by omega) (by decide) dX7_commandOf_78 ?_
      refine x_imulN C 4 (Int32.toNatClampNeg (s (b + 24))) rfl (xb_nat hz) dX7_commandOf_79 ?_
      refine x_iload_n C 5 rfl rfl dX7_commandOf_80 ?_
      refine x_iaddN C (4 * (Int32.toNatClampNeg (s (b + 24)))) k rfl rfl dX7_commandOf_81 ?_
      refine x_istore C [(6, .int (nI (4 * (Int32.toNatClampNeg (s (b + 24))) + k))), (5, .int ((((100 - (s (b + 4 + k))) * (s (b + 0 + k))) + ((s (b + 4 + k)) * ((((s (b + 0 + k)) * (s (b + 0 + k))) * (s (b + 0 + k))) / 10000))) / 100)), (4, .int (s (b + 4 + k))), (3, .int (s (b + 0 + k))), (0, .ref (am 0)), (1, .int (nI b)), (2, .int (nI k))] rfl (by decide) dX7_commandOf_82 ?_
      refine x_iload C 1 rfl dX7_commandOf_84 ?_
      refine x_aload_n C 4 rfl rfl dX7_commandOf_86 ?_
      refine x_get C 0 7 1 rfl rfl wLy_X7 wFL_X7_7 rfl (by decide) rfl dX7_commandOf_87 ?_
      refine x_iload_n C 5 rfl rfl dX7_commandOf_90 ?_
      refine x_bipush C 8 (by decide) dX7_commandOf_91 ?_
      refine x_iaddN C b 8 rfl rfl dX7_commandOf_93 ?_
      refine x_iload C 0 rfl dX7_commandOf_94 ?_
      refine x_iaddN C (b + 8) (4 * (Int32.toNatClampNeg (s (b + 24))) + k) rfl rfl dX7_commandOf_96 ?_
      refine x_ialdN (f := s) C 1 0 (b + 8 + (4 * (Int32.toNatClampNeg (s (b + 24))) + k)) rfl rfl rfl (by have := xb_le hz; omega) (by decide) dX7_commandOf_97 ?_
      refine x_imul C dX7_commandOf_98 ?_
      refine x_bipush C 100 (by decide) dX7_commandOf_99 ?_
      refine x_idiv C (by decide) dX7_commandOf_101 ?_
      refine x_aload_n C 4 rfl rfl dX7_commandOf_102 ?_
      refine x_get C 0 7 1 rfl rfl wLy_X7 wFL_X7_7 rfl (by decide) rfl dX7_commandOf_103 ?_
      refine x_iload_n C 5 rfl rfl dX7_commandOf_106 ?_
      refine x_bipush C 16 (by decide) dX7_commandOf_107 ?_
      refine x_iaddN C b 16 rfl rfl dX7_commandOf_109 ?_
      refine x_iload C 0 rfl dX7_commandOf_110 ?_
      refine x_iaddN C (b + 16) (4 * (Int32.toNatClampNeg (s (b + 24))) + k) rfl rfl dX7_commandOf_112 ?_
      refine x_ialdN (f := s) C 1 0 (b + 16 + (4 * (Int32.toNatClampNeg (s (b + 24))) + k)) rfl rfl rfl (by have := xb_le hz; omega) (by decide) dX7_commandOf_113 ?_
      refine x_iadd C dX7_commandOf_114 ?_
      exact x_iret C hr (nle rfl) (nle rfl) dX7_commandOf_115 ⟨(by first | (simp only [sp_X7_commandOf, if_pos h1, if_neg h2]; done) | (simp only [sp_X7_commandOf, if_pos h1, if_neg h2]; rfl)), rfl⟩
    · refine x_bipush C (-100) (by decide) dX7_commandOf_18 ?_
      exact x_iret C hr (nle rfl) (nle rfl) dX7_commandOf_20 ⟨(by first | (simp only [sp_X7_commandOf, if_pos h1, if_pos h2]; done) | (simp only [sp_X7_commandOf, if_pos h1, if_pos h2]; rfl)), rfl⟩
def sp_X7_holdsNow (s : Nat → Int32) (b : Nat) (j : Nat) : Int32 := (if (s (b + 27 + 5 * j + 4)) = 0 then (1 : Int32) else (if (s (b + 27 + 5 * j + 4)) = (1 + (s (b + 24))) then (1 : Int32) else 0))
theorem spb_X7_holdsNow (s : Nat → Int32) (b : Nat) (j : Nat)  : (sp_X7_holdsNow s b j) = 0 ∨ (sp_X7_holdsNow s b j) = 1 := by
  unfold sp_X7_holdsNow
  exact (bool_ite (Or.inr rfl) (bool_ite (Or.inr rfl) (Or.inl rfl)))
set_option maxRecDepth 100000 in
theorem k_X7_holdsNow (l : Launch) (g : xGt) (am : Nat → Nat) (s fi tx dm : Nat → Int32) (th sa ln pa le sk nu : Int32) (h : Int64) (x_b : Int32) (b : Nat) (e_b : x_b = nI b) (x_j : Int32) (j : Nat) (e_j : x_j = nI j) (hi : b + 156 ≤ 1560) (hm : rOk s b) (hj : j < rN s b) : xM l g.1 (xT g) yX7_holdsNow (ws_ yX7_holdsNow cX7_holdsNow 4 (some .boolean)) (xRm 1 23 0 0) 0 0 [.ref (am 0), .int x_b, .int x_j] (wMo g am s fi tx dm th sa ln pa le sk nu h) (fun r9 w9 => r9 = some (.int (sp_X7_holdsNow s b j)) ∧ w9 = (wMo g am s fi tx dm th sa ln pa le sk nu h)) (fun _ _ => False) := by
  subst e_b e_j
  have hm1 := hm.1
  have hm2 := hm.2.1
  have hz := hm.2.2.1
  refine x_start (own := RX7) (nm := "holdsNow") rfl rfl (by decide +kernel) rfl (nle rfl) (fun p e σ m args below meth c A C hno hr => ?_)
  refine x_lve (lv' := [(0, .ref (am 0)), (1, .int (nI b)), (2, .int (nI j))]) rfl ?_
  refine x_aload_n C 0 rfl rfl dX7_holdsNow_0 ?_
  refine x_iload_n C 1 rfl rfl dX7_holdsNow_1 ?_
  refine x_iload_n C 2 rfl rfl dX7_holdsNow_2 ?_
  refine x_iconst C 4 (by decide) dX7_holdsNow_3 ?_
  refine x_FV (w1 := ([] : va_W)) (wc := (wMo g am s fi tx dm th sa ln pa le sk nu h)) (w2 := ([] : va_W)) [.int (nI b), .int (nI j), .int 4] [] (wMo g am s fi tx dm th sa ln pa le sk nu h) C (k_X7_ofMix l g am s fi tx dm th sa ln pa le sk nu h (nI b) b rfl (nI j) j rfl 4 4 rfl (by omega)) rfl yV_X7_ofMix wML_X7_39 rfl 0 rfl rfl rfl rfl (nle rfl) (nle rfl) (nle rfl) (nle rfl) (nle rfl) dX7_holdsNow_4 ?_
  refine x_istore_n C [(3, .int (s (b + 27 + 5 * j + 4))), (0, .ref (am 0)), (1, .int (nI b)), (2, .int (nI j))] rfl rfl (by decide) dX7_holdsNow_7 ?_
  refine x_iload_n C 0 rfl rfl dX7_holdsNow_8 ?_
  suffices K2 : xW p l e _ σ m args below meth c g.1 A 4 0 0 _ (wMo g am s fi tx dm th sa ln pa le sk nu h) [(3, .int (s (b + 27 + 5 * j + 4))), (0, .ref (am 0)), (1, .int (nI b)), (2, .int (nI j))] 32 [.int (if (s (b + 27 + 5 * j + 4)) = 0 then (1 : Int32) else (if (s (b + 27 + 5 * j + 4)) = (1 + (s (b + 24))) then (1 : Int32) else 0))] by
    refine x_if_eq C 27 (by decide) dX7_holdsNow_9 (fun h1 => ?_) (fun h1 => ?_)
    · refine x_iconst C 1 (by decide) dX7_holdsNow_27 ?_
      refine x_goto C 32 (by decide) dX7_holdsNow_28 ?_
      refine x_st (st' := [.int (if (s (b + 27 + 5 * j + 4)) = 0 then (1 : Int32) else (if (s (b + 27 + 5 * j + 4)) = (1 + (s (b + 24))) then (1 : Int32) else 0))]) (by simp only [if_pos h1]) ?_
      exact K2
    · refine x_iload_n C 0 rfl rfl dX7_holdsNow_12 ?_
      refine x_iconst C 1 (by decide) dX7_holdsNow_13 ?_
      refine x_aload_n C 1 rfl rfl dX7_holdsNow_14 ?_
      refine x_get C 0 7 1 rfl rfl wLy_X7 wFL_X7_7 rfl (by decide) rfl dX7_holdsNow_15 ?_
      refine x_iload_n C 2 rfl rfl dX7_holdsNow_18 ?_
      refine x_bipush C 24 (by decide) dX7_holdsNow_19 ?_
      refine x_iaddN C b 24 rfl rfl dX7_holdsNow_21 ?_
      refine x_ialdN (f := s) C 1 0 (b + 24) rfl rfl rfl (by omega) (by decide) dX7_holdsNow_22 ?_
      refine x_iadd C dX7_holdsNow_23 ?_
      refine x_icmp_ne C 31 (by decide) dX7_holdsNow_24 (fun h2 => ?_) (fun h2 => ?_)
      · refine x_iconst C 0 (by decide) dX7_holdsNow_31 ?_
        refine x_st (st' := [.int (if (s (b + 27 + 5 * j + 4)) = 0 then (1 : Int32) else (if (s (b + 27 + 5 * j + 4)) = (1 + (s (b + 24))) then (1 : Int32) else 0))]) (by simp only [if_neg h1, if_neg h2]) ?_
        exact K2
      · refine x_iconst C 1 (by decide) dX7_holdsNow_27 ?_
        refine x_goto C 32 (by decide) dX7_holdsNow_28 ?_
        refine x_st (st' := [.int (if (s (b + 27 + 5 * j + 4)) = 0 then (1 : Int32) else (if (s (b + 27 + 5 * j + 4)) = (1 + (s (b + 24))) then (1 : Int32) else 0))]) (by simp only [if_neg h1, if_pos h2]) ?_
        exact K2
  exact x_zret C hr (xnz (bool_ite (Or.inr rfl) (bool_ite (Or.inr rfl) (Or.inl rfl)))) (nle rfl) (nle rfl) dX7_holdsNow_32 ⟨(by first | (simp only [sp_X7_holdsNow]; done) | (simp only [sp_X7_holdsNow]; rfl)), rfl⟩
def sp_X7_adding (s : Nat → Int32) (dm : Nat → Int32) (b : Nat) (j : Nat) : Int32 := (if (sp_X7_holdsNow s b j) = 0 then (0 : Int32) else ((((if 4 ≤ (s (b + 27 + 5 * j + 0)) then (dm ((rS s b j) - 4)) else (sp_X7_commandOf s b (rS s b j))) * (s (b + 27 + 5 * j + 2))) / 100) + (s (b + 27 + 5 * j + 3))))
set_option maxRecDepth 100000 in
theorem k_X7_adding (l : Launch) (g : xGt) (am : Nat → Nat) (s fi tx dm : Nat → Int32) (th sa ln pa le sk nu : Int32) (h : Int64) (x_b : Int32) (b : Nat) (e_b : x_b = nI b) (x_j : Int32) (j : Nat) (e_j : x_j = nI j) (hi : b + 156 ≤ 1560) (hm : rOk s b) (hj : j < rN s b) : xM l g.1 (xT g) yX7_adding (ws_ yX7_adding cX7_adding 5 (some .int)) (xRm 2 46 0 0) 0 0 [.ref (am 0), .int x_b, .int x_j] (wMo g am s fi tx dm th sa ln pa le sk nu h) (fun r9 w9 => r9 = some (.int (sp_X7_adding s dm b j)) ∧ w9 = (wMo g am s fi tx dm th sa ln pa le sk nu h)) (fun _ _ => False) := by
  subst e_b e_j
  have hm1 := hm.1
  have hm2 := hm.2.1
  have hz := hm.2.2.1
  have hs := hm.2.2.2 j hj
  have hs2 := hs.2
  refine x_start (own := RX7) (nm := "adding") rfl rfl (by decide +kernel) rfl (nle rfl) (fun p e σ m args below meth c A C hno hr => ?_)
  refine x_lve (lv' := [(0, .ref (am 0)), (1, .int (nI b)), (2, .int (nI j))]) rfl ?_
  refine x_aload_n C 0 rfl rfl dX7_adding_0 ?_
  refine x_iload_n C 1 rfl rfl dX7_adding_1 ?_
  refine x_iload_n C 2 rfl rfl dX7_adding_2 ?_
  refine x_iconst C 0 (by decide) dX7_adding_3 ?_
  refine x_FV (w1 := ([] : va_W)) (wc := (wMo g am s fi tx dm th sa ln pa le sk nu h)) (w2 := ([] : va_W)) [.int (nI b), .int (nI j), .int 0] [] (wMo g am s fi tx dm th sa ln pa le sk nu h) C (k_X7_ofMix l g am s fi tx dm th sa ln pa le sk nu h (nI b) b rfl (nI j) j rfl 0 0 rfl (by omega)) rfl yV_X7_ofMix wML_X7_39 rfl 0 rfl rfl rfl rfl (nle rfl) (nle rfl) (nle rfl) (nle rfl) (nle rfl) dX7_adding_4 ?_
  refine x_istore_n C [(3, .int (s (b + 27 + 5 * j + 0))), (0, .ref (am 0)), (1, .int (nI b)), (2, .int (nI j))] rfl rfl (by decide) dX7_adding_7 ?_
  refine x_iload_n C 0 rfl rfl dX7_adding_8 ?_
  refine x_iconst C 4 (by decide) dX7_adding_9 ?_
  suffices K2 : xW p l e _ σ m args below meth c g.1 A 5 0 0 _ (wMo g am s fi tx dm th sa ln pa le sk nu h) [(3, .int (s (b + 27 + 5 * j + 0))), (0, .ref (am 0)), (1, .int (nI b)), (2, .int (nI j))] 30 [.int (if 4 ≤ (s (b + 27 + 5 * j + 0)) then (dm ((rS s b j) - 4)) else (sp_X7_commandOf s b (rS s b j)))] by
    refine x_icmp_ge C 22 (by decide) dX7_adding_10 (fun h1 => ?_) (fun h1 => ?_)
    · refine x_aload_n C 1 rfl rfl dX7_adding_22 ?_
      refine x_get C 0 7 10 rfl rfl wLy_X7 wFL_X7_20 rfl (by decide) rfl dX7_adding_23 ?_
      refine x_iload_n C 0 rfl rfl dX7_adding_26 ?_
      refine x_iconst C 4 (by decide) dX7_adding_27 ?_
      refine x_isubN C (rS s b j) 4 hs.1 rfl (xle_of rfl hs.1 (by omega) (by omega) h1) dX7_adding_28 ?_
      refine x_ialdN (f := dm) C 4 0 ((rS s b j) - 4) rfl rfl rfl (by omega) (by decide) dX7_adding_29 ?_
      refine x_st (st' := [.int (if 4 ≤ (s (b + 27 + 5 * j + 0)) then (dm ((rS s b j) - 4)) else (sp_X7_commandOf s b (rS s b j)))]) (by simp only [if_pos h1]) ?_
      exact K2
    · refine x_aload_n C 1 rfl rfl dX7_adding_13 ?_
      refine x_iload_n C 2 rfl rfl dX7_adding_14 ?_
      refine x_iload_n C 0 rfl rfl dX7_adding_15 ?_
      refine x_FV (w1 := ([] : va_W)) (wc := (wMo g am s fi tx dm th sa ln pa le sk nu h)) (w2 := ([] : va_W)) [.int (nI b), .int (s (b + 27 + 5 * j + 0))] [] (wMo g am s fi tx dm th sa ln pa le sk nu h) C (k_X7_commandOf l g am s fi tx dm th sa ln pa le sk nu h (nI b) b rfl (s (b + 27 + 5 * j + 0)) (rS s b j) hs.1 (by omega) (xlt_of rfl hs.1 (by omega) (by omega) h1) hz) rfl yV_X7_commandOf wML_X7_43 rfl 0 rfl rfl rfl rfl (nle rfl) (nle rfl) (nle rfl) (nle rfl) (nle rfl) dX7_adding_16 ?_
      refine x_goto C 30 (by decide) dX7_adding_19 ?_
      refine x_st (st' := [.int (if 4 ≤ (s (b + 27 + 5 * j + 0)) then (dm ((rS s b j) - 4)) else (sp_X7_commandOf s b (rS s b j)))]) (by simp only [if_neg h1]) ?_
      exact K2
  refine x_istore C [(4, .int (if 4 ≤ (s (b + 27 + 5 * j + 0)) then (dm ((rS s b j) - 4)) else (sp_X7_commandOf s b (rS s b j)))), (3, .int (s (b + 27 + 5 * j + 0))), (0, .ref (am 0)), (1, .int (nI b)), (2, .int (nI j))] rfl (by decide) dX7_adding_30 ?_
  refine x_aload_n C 2 rfl rfl dX7_adding_32 ?_
  refine x_iload_n C 3 rfl rfl dX7_adding_33 ?_
  refine x_iload_n C 4 rfl rfl dX7_adding_34 ?_
  refine x_FV (w1 := ([] : va_W)) (wc := (wMo g am s fi tx dm th sa ln pa le sk nu h)) (w2 := ([] : va_W)) [.int (nI b), .int (nI j)] [] (wMo g am s fi tx dm th sa ln pa le sk nu h) C (k_X7_holdsNow l g am s fi tx dm th sa ln pa le sk nu h (nI b) b rfl (nI j) j rfl (by omega) hm hj) rfl yV_X7_holdsNow wML_X7_47 rfl 0 rfl rfl rfl rfl (nle rfl) (nle rfl) (nle rfl) (nle rfl) (nle rfl) dX7_adding_35 ?_
  suffices K4 : xW p l e _ σ m args below meth c g.1 A 5 0 0 _ (wMo g am s fi tx dm th sa ln pa le sk nu h) [(4, .int (if 4 ≤ (s (b + 27 + 5 * j + 0)) then (dm ((rS s b j) - 4)) else (sp_X7_commandOf s b (rS s b j)))), (3, .int (s (b + 27 + 5 * j + 0))), (0, .ref (am 0)), (1, .int (nI b)), (2, .int (nI j))] 66 [.int (if (sp_X7_holdsNow s b j) = 0 then (0 : Int32) else ((((if 4 ≤ (s (b + 27 + 5 * j + 0)) then (dm ((rS s b j) - 4)) else (sp_X7_commandOf s b (rS s b j))) * (s (b + 27 + 5 * j + 2))) / 100) + (s (b + 27 + 5 * j + 3))))] by
    refine x_if_eq C 65 (by decide) dX7_adding_38 (fun h3 => ?_) (fun h3 => ?_)
    · refine x_iconst C 0 (by decide) dX7_adding_65 ?_
      refine x_st (st' := [.int (if (sp_X7_holdsNow s b j) = 0 then (0 : Int32) else ((((if 4 ≤ (s (b + 27 + 5 * j + 0)) then (dm ((rS s b j) - 4)) else (sp_X7_commandOf s b (rS s b j))) * (s (b + 27 + 5 * j + 2))) / 100) + (s (b + 27 + 5 * j + 3))))]) (by simp only [if_pos h3]) ?_
      exact K4
    · refine x_iload C 0 rfl dX7_adding_41 ?_
      refine x_aload_n C 2 rfl rfl dX7_adding_43 ?_
      refine x_iload_n C 3 rfl rfl dX7_adding_44 ?_
      refine x_iload_n C 4 rfl rfl dX7_adding_45 ?_
      refine x_iconst C 2 (by decide) dX7_adding_46 ?_
      refine x_FV (w1 := ([] : va_W)) (wc := (wMo g am s fi tx dm th sa ln pa le sk nu h)) (w2 := ([] : va_W)) [.int (nI b), .int (nI j), .int 2] [.int (if 4 ≤ (s (b + 27 + 5 * j + 0)) then (dm ((rS s b j) - 4)) else (sp_X7_commandOf s b (rS s b j)))] (wMo g am s fi tx dm th sa ln pa le sk nu h) C (k_X7_ofMix l g am s fi tx dm th sa ln pa le sk nu h (nI b) b rfl (nI j) j rfl 2 2 rfl (by omega)) rfl yV_X7_ofMix wML_X7_39 rfl 0 rfl rfl rfl rfl (nle rfl) (nle rfl) (nle rfl) (nle rfl) (nle rfl) dX7_adding_47 ?_
      refine x_imul C dX7_adding_50 ?_
      refine x_bipush C 100 (by decide) dX7_adding_51 ?_
      refine x_idiv C (by decide) dX7_adding_53 ?_
      refine x_aload_n C 2 rfl rfl dX7_adding_54 ?_
      refine x_iload_n C 3 rfl rfl dX7_adding_55 ?_
      refine x_iload_n C 4 rfl rfl dX7_adding_56 ?_
      refine x_iconst C 3 (by decide) dX7_adding_57 ?_
      refine x_FV (w1 := ([] : va_W)) (wc := (wMo g am s fi tx dm th sa ln pa le sk nu h)) (w2 := ([] : va_W)) [.int (nI b), .int (nI j), .int 3] [.int (((if 4 ≤ (s (b + 27 + 5 * j + 0)) then (dm ((rS s b j) - 4)) else (sp_X7_commandOf s b (rS s b j))) * (s (b + 27 + 5 * j + 2))) / 100)] (wMo g am s fi tx dm th sa ln pa le sk nu h) C (k_X7_ofMix l g am s fi tx dm th sa ln pa le sk nu h (nI b) b rfl (nI j) j rfl 3 3 rfl (by omega)) rfl yV_X7_ofMix wML_X7_39 rfl 0 rfl rfl rfl rfl (nle rfl) (nle rfl) (nle rfl) (nle rfl) (nle rfl) dX7_adding_58 ?_
      refine x_iadd C dX7_adding_61 ?_
      refine x_goto C 66 (by decide) dX7_adding_62 ?_
      refine x_st (st' := [.int (if (sp_X7_holdsNow s b j) = 0 then (0 : Int32) else ((((if 4 ≤ (s (b + 27 + 5 * j + 0)) then (dm ((rS s b j) - 4)) else (sp_X7_commandOf s b (rS s b j))) * (s (b + 27 + 5 * j + 2))) / 100) + (s (b + 27 + 5 * j + 3))))]) (by simp only [if_neg h3]) ?_
      exact K4
  exact x_iret C hr (nle rfl) (nle rfl) dX7_adding_66 ⟨(by first | (simp only [sp_X7_adding]; done) | (simp only [sp_X7_adding]; rfl)), rfl⟩
def sp_dsum (s : Nat → Int32) (b : Nat) (i1 : Nat) (c1_dm : (Nat → Int32)) (a0 : Int32) : Nat → Int32
  | 0 => a0
  | i2 + 1 => ((sp_dsum s b i1 c1_dm a0 i2) + (if (s (b + 27 + 5 * i2 + 1)) = (nI i1) then (sp_X7_adding s c1_dm b i2) else 0))
def sp_dems (s : Nat → Int32) (b : Nat) (a0 : (Nat → Int32)) : Nat → (Nat → Int32)
  | 0 => a0
  | i1 + 1 => (upd (sp_dems s b a0 i1) i1 (sp_X7_within (sp_dsum s b i1 (sp_dems s b a0 i1) 0 (rN s b)) (-300) 300))
set_option maxRecDepth 100000 in
theorem k_X7_demandsLaid (l : Launch) (g : xGt) (am : Nat → Nat) (s fi tx dm : Nat → Int32) (th sa ln pa le sk nu : Int32) (h : Int64) (x_b : Int32) (b : Nat) (e_b : x_b = nI b) (hi : b + 156 ≤ 1560) (hm : rOk s b) : xM l g.1 (xT g) yX7_demandsLaid (ws_ yX7_demandsLaid cX7_demandsLaid 5 none) (xRm 3 70 0 0) 0 0 [.ref (am 0), .int x_b] (wMo g am s fi tx dm th sa ln pa le sk nu h) (fun r9 w9 => r9 = none ∧ w9 = (wMo g am s fi tx (sp_dems s b dm 6) th sa ln pa le sk nu h)) (fun _ _ => False) := by
  subst e_b
  have hm1 := hm.1
  have hm2 := hm.2.1
  have hz := hm.2.2.1
  refine x_start (own := RX7) (nm := "demandsLaid") rfl rfl (by decide +kernel) rfl (nle rfl) (fun p e σ m args below meth c A C hno hr => ?_)
  refine x_lve (lv' := [(0, .ref (am 0)), (1, .int (nI b))]) rfl ?_
  refine x_iconst C 0 (by decide) dX7_demandsLaid_0 ?_
  refine x_istore_n C [(2, .int 0), (0, .ref (am 0)), (1, .int (nI b))] rfl rfl (by decide) dX7_demandsLaid_1 ?_
  suffices L1 : ∀ (n1 i1 : Nat), i1 + n1 = 6 → xW p l e _ σ m args below meth c g.1 A 5 0 0 _ (wMo g am s fi tx (sp_dems s b dm i1) th sa ln pa le sk nu h) [(2, .int (nI i1)), (0, .ref (am 0)), (1, .int (nI b))] 2 [] by
    exact L1 (6) 0 (by omega)
  intro n1
  induction n1 with
  | zero =>
    intro i1 hn1
    obtain rfl : i1 = 6 := by omega
    refine x_iload_n C 0 rfl rfl dX7_demandsLaid_2 ?_
    refine x_bipush C 6 (by decide) dX7_demandsLaid_3 ?_
    refine x_icmp_ge C 81 (by decide) dX7_demandsLaid_5 (fun _ => ?_) (fun hz => absurd (xge (show (6 : Int32) = nI 6 from rfl) rfl (by omega) (by omega)) hz)
    exact x_vret C hr (nle rfl) (nle rfl) dX7_demandsLaid_81 ⟨rfl, rfl⟩
  | succ n1 ih1 =>
    intro i1 hn1
    refine x_iload_n C 0 rfl rfl dX7_demandsLaid_2 ?_
    refine x_bipush C 6 (by decide) dX7_demandsLaid_3 ?_
    refine x_icmp_ge C 81 (by decide) dX7_demandsLaid_5 (fun hz => absurd hz (xnge (show (6 : Int32) = nI 6 from rfl) rfl (by omega) (by omega))) (fun _ => ?_)
    refine x_iconst C 0 (by decide) dX7_demandsLaid_8 ?_
    refine x_istore_n C [(3, .int 0), (2, .int (nI i1)), (0, .ref (am 0)), (1, .int (nI b))] rfl rfl (by decide) dX7_demandsLaid_9 ?_
    refine x_iconst C 0 (by decide) dX7_demandsLaid_10 ?_
    refine x_istore C [(4, .int 0), (3, .int 0), (2, .int (nI i1)), (0, .ref (am 0)), (1, .int (nI b))] rfl (by decide) dX7_demandsLaid_11 ?_
    suffices L2 : ∀ (n2 i2 : Nat), i2 + n2 = rN s b → xW p l e _ σ m args below meth c g.1 A 5 0 0 _ (wMo g am s fi tx (sp_dems s b dm i1) th sa ln pa le sk nu h) [(4, .int (nI i2)), (3, .int (sp_dsum s b i1 (sp_dems s b dm i1) 0 i2)), (2, .int (nI i1)), (0, .ref (am 0)), (1, .int (nI b))] 13 [] by
      exact L2 (rN s b) 0 (by omega)
    intro n2
    induction n2 with
    | zero =>
      intro i2 hn2
      obtain rfl : i2 = rN s b := by omega
      refine x_iload C 0 rfl dX7_demandsLaid_13 ?_
      refine x_aload_n C 3 rfl rfl dX7_demandsLaid_15 ?_
      refine x_get C 0 7 1 rfl rfl wLy_X7 wFL_X7_7 rfl (by decide) rfl dX7_demandsLaid_16 ?_
      refine x_iload_n C 4 rfl rfl dX7_demandsLaid_19 ?_
      refine x_bipush C 26 (by decide) dX7_demandsLaid_20 ?_
      refine x_iaddN C b 26 rfl rfl dX7_demandsLaid_22 ?_
      refine x_ialdN (f := s) C 1 0 (b + 26) rfl rfl rfl (by omega) (by decide) dX7_demandsLaid_23 ?_
      refine x_icmp_ge C 59 (by decide) dX7_demandsLaid_24 (fun _ => ?_) (fun hz => absurd (xge hm1 rfl (by omega) (by omega)) hz)
      refine x_aload_n C 3 rfl rfl dX7_demandsLaid_59 ?_
      refine x_get C 0 7 10 rfl rfl wLy_X7 wFL_X7_20 rfl (by decide) rfl dX7_demandsLaid_60 ?_
      refine x_iload_n C 2 rfl rfl dX7_demandsLaid_63 ?_
      refine x_iload_n C 1 rfl rfl dX7_demandsLaid_64 ?_
      refine x_sipush C (-300) (by decide) dX7_demandsLaid_65 ?_
      refine x_sipush C 300 (by decide) dX7_demandsLaid_68 ?_
      refine x_FS (w1 := ([] : va_W)) (wc := ([] : va_W)) (w2 := (wMo g am s fi tx (sp_dems s b dm i1) th sa ln pa le sk nu h)) [.int (sp_dsum s b i1 (sp_dems s b dm i1) 0 (rN s b)), .int (-300), .int 300] [.int (nI i1), .ref (am 4)] (wMo g am s fi tx (sp_dems s b dm i1) th sa ln pa le sk nu h) C (k_X7_within l g (sp_dsum s b i1 (sp_dems s b dm i1) 0 (rN s b)) (-300) 300) rfl yS_X7_within wML_X7_54 rfl rfl rfl (nle rfl) (nle rfl) (nle rfl) (nle rfl) (nle rfl) dX7_demandsLaid_71 ?_
      refine x_iastN (f := (sp_dems s b dm i1)) C 4 0 i1 (wMo g am s fi tx (upd (sp_dems s b dm i1) i1 (sp_X7_within (sp_dsum s b i1 (sp_dems s b dm i1) 0 (rN s b)) (-300) 300)) th sa ln pa le sk nu h) rfl rfl rfl rfl (by omega) (by decide) dX7_demandsLaid_74 ?_
      refine x_iinc C 2 (nI (i1 + 1)) [(2, .int (nI (i1 + 1))), (4, .int (nI (rN s b))), (3, .int (sp_dsum s b i1 (sp_dems s b dm i1) 0 (rN s b))), (0, .ref (am 0)), (1, .int (nI b))] rfl (nI_add _ _) rfl (by decide) dX7_demandsLaid_75 ?_
      refine x_goto C 2 (by decide) dX7_demandsLaid_78 ?_
      refine x_lv [(2, .int (nI (i1 + 1))), (0, .ref (am 0)), (1, .int (nI b))] [0, 3, 4] rfl ?_
      exact ih1 (i1 + 1) (by omega)
    | succ n2 ih2 =>
      intro i2 hn2
      refine x_iload C 0 rfl dX7_demandsLaid_13 ?_
      refine x_aload_n C 3 rfl rfl dX7_demandsLaid_15 ?_
      refine x_get C 0 7 1 rfl rfl wLy_X7 wFL_X7_7 rfl (by decide) rfl dX7_demandsLaid_16 ?_
      refine x_iload_n C 4 rfl rfl dX7_demandsLaid_19 ?_
      refine x_bipush C 26 (by decide) dX7_demandsLaid_20 ?_
      refine x_iaddN C b 26 rfl rfl dX7_demandsLaid_22 ?_
      refine x_ialdN (f := s) C 1 0 (b + 26) rfl rfl rfl (by omega) (by decide) dX7_demandsLaid_23 ?_
      refine x_icmp_ge C 59 (by decide) dX7_demandsLaid_24 (fun hz => absurd hz (xnge hm1 rfl (by omega) (by omega))) (fun _ => ?_)
      refine x_iload_n C 1 rfl rfl dX7_demandsLaid_27 ?_
      refine x_aload_n C 3 rfl rfl dX7_demandsLaid_28 ?_
      refine x_iload_n C 4 rfl rfl dX7_demandsLaid_29 ?_
      refine x_iload C 0 rfl dX7_demandsLaid_30 ?_
      refine x_iconst C 1 (by decide) dX7_demandsLaid_32 ?_
      refine x_FV (w1 := ([] : va_W)) (wc := (wMo g am s fi tx (sp_dems s b dm i1) th sa ln pa le sk nu h)) (w2 := ([] : va_W)) [.int (nI b), .int (nI i2), .int 1] [.int (sp_dsum s b i1 (sp_dems s b dm i1) 0 i2)] (wMo g am s fi tx (sp_dems s b dm i1) th sa ln pa le sk nu h) C (k_X7_ofMix l g am s fi tx (sp_dems s b dm i1) th sa ln pa le sk nu h (nI b) b rfl (nI i2) i2 rfl 1 1 rfl (by omega)) rfl yV_X7_ofMix wML_X7_39 rfl 0 rfl rfl rfl rfl (nle rfl) (nle rfl) (nle rfl) (nle rfl) (nle rfl) dX7_demandsLaid_33 ?_
      refine x_iload_n C 2 rfl rfl dX7_demandsLaid_36 ?_
      suffices K4 : xW p l e _ σ m args below meth c g.1 A 5 0 0 _ (wMo g am s fi tx (sp_dems s b dm i1) th sa ln pa le sk nu h) [(4, .int (nI i2)), (3, .int (sp_dsum s b i1 (sp_dems s b dm i1) 0 i2)), (2, .int (nI i1)), (0, .ref (am 0)), (1, .int (nI b))] 51 [.int (if (s (b + 27 + 5 * i2 + 1)) = (nI i1) then (sp_X7_adding s (sp_dems s b dm i1) b i2) else 0), .int (sp_dsum s b i1 (sp_dems s b dm i1) 0 i2)] by
        refine x_icmp_ne C 50 (by decide) dX7_demandsLaid_37 (fun h3 => ?_) (fun h3 => ?_)
        · refine x_iconst C 0 (by decide) dX7_demandsLaid_50 ?_
          refine x_st (st' := [.int (if (s (b + 27 + 5 * i2 + 1)) = (nI i1) then (sp_X7_adding s (sp_dems s b dm i1) b i2) else 0), .int (sp_dsum s b i1 (sp_dems s b dm i1) 0 i2)]) (by simp only [if_neg h3]) ?_
          exact K4
        · refine x_aload_n C 3 rfl rfl dX7_demandsLaid_40 ?_
          refine x_iload_n C 4 rfl rfl dX7_demandsLaid_41 ?_
          refine x_iload C 0 rfl dX7_demandsLaid_42 ?_
          refine x_FV (w1 := ([] : va_W)) (wc := (wMo g am s fi tx (sp_dems s b dm i1) th sa ln pa le sk nu h)) (w2 := ([] : va_W)) [.int (nI b), .int (nI i2)] [.int (sp_dsum s b i1 (sp_dems s b dm i1) 0 i2)] (wMo g am s fi tx (sp_dems s b dm i1) th sa ln pa le sk nu h) C (k_X7_adding l g am s fi tx (sp_dems s b dm i1) th sa ln pa le sk nu h (nI b) b rfl (nI i2) i2 rfl (by omega) hm (show i2 < rN s b by omega)) rfl yV_X7_adding wML_X7_51 rfl 0 rfl rfl rfl rfl (nle rfl) (nle rfl) (nle rfl) (nle rfl) (nle rfl) dX7_demandsLaid_44 ?_
          refine x_goto C 51 (by decide) dX7_demandsLaid_47 ?_
          refine x_st (st' := [.int (if (s (b + 27 + 5 * i2 + 1)) = (nI i1) then (sp_X7_adding s (sp_dems s b dm i1) b i2) else 0), .int (sp_dsum s b i1 (sp_dems s b dm i1) 0 i2)]) (by simp only [if_pos h3]) ?_
          exact K4
      refine x_iadd C dX7_demandsLaid_51 ?_
      refine x_istore_n C [(3, .int ((sp_dsum s b i1 (sp_dems s b dm i1) 0 i2) + (if (s (b + 27 + 5 * i2 + 1)) = (nI i1) then (sp_X7_adding s (sp_dems s b dm i1) b i2) else 0))), (4, .int (nI i2)), (2, .int (nI i1)), (0, .ref (am 0)), (1, .int (nI b))] rfl rfl (by decide) dX7_demandsLaid_52 ?_
      refine x_iinc C 1 (nI (i2 + 1)) [(4, .int (nI (i2 + 1))), (3, .int ((sp_dsum s b i1 (sp_dems s b dm i1) 0 i2) + (if (s (b + 27 + 5 * i2 + 1)) = (nI i1) then (sp_X7_adding s (sp_dems s b dm i1) b i2) else 0))), (2, .int (nI i1)), (0, .ref (am 0)), (1, .int (nI b))] rfl (nI_add _ _) rfl (by decide) dX7_demandsLaid_53 ?_
      refine x_goto C 13 (by decide) dX7_demandsLaid_56 ?_
      exact ih2 (i2 + 1) (by omega)
def sp_X7_raw (s : Nat → Int32) (dm : Nat → Int32) (b : Nat) (k : Nat) : Int32 := ((s (b + 87 + 10 * k + 1)) + (if (s (b + 87 + 10 * k + 0)) = 1 then (-(dm k)) else (dm k)))
set_option maxRecDepth 100000 in
theorem k_X7_raw (l : Launch) (g : xGt) (am : Nat → Nat) (s fi tx dm : Nat → Int32) (th sa ln pa le sk nu : Int32) (h : Int64) (x_b : Int32) (b : Nat) (e_b : x_b = nI b) (x_k : Int32) (k : Nat) (e_k : x_k = nI k) (hi : b + 156 ≤ 1560) (hk : k < 6) : xM l g.1 (xT g) yX7_raw (ws_ yX7_raw cX7_raw 4 (some .int)) (xRm 1 23 0 0) 0 0 [.ref (am 0), .int x_b, .int x_k] (wMo g am s fi tx dm th sa ln pa le sk nu h) (fun r9 w9 => r9 = some (.int (sp_X7_raw s dm b k)) ∧ w9 = (wMo g am s fi tx dm th sa ln pa le sk nu h)) (fun _ _ => False) := by
  subst e_b e_k
  refine x_start (own := RX7) (nm := "raw") rfl rfl (by decide +kernel) rfl (nle rfl) (fun p e σ m args below meth c A C hno hr => ?_)
  refine x_lve (lv' := [(0, .ref (am 0)), (1, .int (nI b)), (2, .int (nI k))]) rfl ?_
  refine x_aload_n C 0 rfl rfl dX7_raw_0 ?_
  refine x_iload_n C 1 rfl rfl dX7_raw_1 ?_
  refine x_iload_n C 2 rfl rfl dX7_raw_2 ?_
  refine x_iconst C 0 (by decide) dX7_raw_3 ?_
  refine x_FV (w1 := ([] : va_W)) (wc := (wMo g am s fi tx dm th sa ln pa le sk nu h)) (w2 := ([] : va_W)) [.int (nI b), .int (nI k), .int 0] [] (wMo g am s fi tx dm th sa ln pa le sk nu h) C (k_X7_of l g am s fi tx dm th sa ln pa le sk nu h (nI b) b rfl (nI k) k rfl 0 0 rfl (by omega)) rfl yV_X7_of wML_X7_57 rfl 0 rfl rfl rfl rfl (nle rfl) (nle rfl) (nle rfl) (nle rfl) (nle rfl) dX7_raw_4 ?_
  refine x_iconst C 1 (by decide) dX7_raw_7 ?_
  suffices K2 : xW p l e _ σ m args below meth c g.1 A 4 0 0 _ (wMo g am s fi tx dm th sa ln pa le sk nu h) [(0, .ref (am 0)), (1, .int (nI b)), (2, .int (nI k))] 27 [.int (if (s (b + 87 + 10 * k + 0)) = 1 then (-(dm k)) else (dm k))] by
    refine x_icmp_ne C 21 (by decide) dX7_raw_8 (fun h1 => ?_) (fun h1 => ?_)
    · refine x_aload_n C 0 rfl rfl dX7_raw_21 ?_
      refine x_get C 0 7 10 rfl rfl wLy_X7 wFL_X7_20 rfl (by decide) rfl dX7_raw_22 ?_
      refine x_iload_n C 2 rfl rfl dX7_raw_25 ?_
      refine x_ialdN (f := dm) C 4 0 k rfl rfl rfl (by omega) (by decide) dX7_raw_26 ?_
      refine x_st (st' := [.int (if (s (b + 87 + 10 * k + 0)) = 1 then (-(dm k)) else (dm k))]) (by simp only [if_neg h1]) ?_
      exact K2
    · refine x_aload_n C 0 rfl rfl dX7_raw_11 ?_
      refine x_get C 0 7 10 rfl rfl wLy_X7 wFL_X7_20 rfl (by decide) rfl dX7_raw_12 ?_
      refine x_iload_n C 2 rfl rfl dX7_raw_15 ?_
      refine x_ialdN (f := dm) C 4 0 k rfl rfl rfl (by omega) (by decide) dX7_raw_16 ?_
      refine x_ineg C dX7_raw_17 ?_
      refine x_goto C 27 (by decide) dX7_raw_18 ?_
      refine x_st (st' := [.int (if (s (b + 87 + 10 * k + 0)) = 1 then (-(dm k)) else (dm k))]) (by simp only [if_pos h1]) ?_
      exact K2
  refine x_istore_n C [(3, .int (if (s (b + 87 + 10 * k + 0)) = 1 then (-(dm k)) else (dm k))), (0, .ref (am 0)), (1, .int (nI b)), (2, .int (nI k))] rfl rfl (by decide) dX7_raw_27 ?_
  refine x_aload_n C 1 rfl rfl dX7_raw_28 ?_
  refine x_iload_n C 2 rfl rfl dX7_raw_29 ?_
  refine x_iload_n C 3 rfl rfl dX7_raw_30 ?_
  refine x_iconst C 1 (by decide) dX7_raw_31 ?_
  refine x_FV (w1 := ([] : va_W)) (wc := (wMo g am s fi tx dm th sa ln pa le sk nu h)) (w2 := ([] : va_W)) [.int (nI b), .int (nI k), .int 1] [] (wMo g am s fi tx dm th sa ln pa le sk nu h) C (k_X7_of l g am s fi tx dm th sa ln pa le sk nu h (nI b) b rfl (nI k) k rfl 1 1 rfl (by omega)) rfl yV_X7_of wML_X7_57 rfl 0 rfl rfl rfl rfl (nle rfl) (nle rfl) (nle rfl) (nle rfl) (nle rfl) dX7_raw_32 ?_
  refine x_iload_n C 0 rfl rfl dX7_raw_35 ?_
  refine x_iadd C dX7_raw_36 ?_
  exact x_iret C hr (nle rfl) (nle rfl) dX7_raw_37 ⟨(by first | (simp only [sp_X7_raw]; done) | (simp only [sp_X7_raw]; rfl)), rfl⟩
set_option maxRecDepth 100000 in
theorem k_X7_aimed (l : Launch) (g : xGt) (am : Nat → Nat) (s fi tx dm : Nat → Int32) (th sa ln pa le sk nu : Int32) (h : Int64) (x_b : Int32) (b : Nat) (e_b : x_b = nI b) (x_k : Int32) (k : Nat) (e_k : x_k = nI k) (hi : b + 156 ≤ 1560) (hk : k < 6) : xM l g.1 (xT g) yX7_aimed (ws_ yX7_aimed cX7_aimed 3 (some .int)) (xRm 2 46 0 0) 0 0 [.ref (am 0), .int x_b, .int x_k] (wMo g am s fi tx dm th sa ln pa le sk nu h) (fun r9 w9 => r9 = some (.int (sp_X7_within (sp_X7_raw s dm b k) (s (b + 87 + 10 * k + 2)) (s (b + 87 + 10 * k + 3)))) ∧ w9 = (wMo g am s fi tx dm th sa ln pa le sk nu h)) (fun _ _ => False) := by
  subst e_b e_k
  refine x_start (own := RX7) (nm := "aimed") rfl rfl (by decide +kernel) rfl (nle rfl) (fun p e σ m args below meth c A C hno hr => ?_)
  refine x_lve (lv' := [(0, .ref (am 0)), (1, .int (nI b)), (2, .int (nI k))]) rfl ?_
  refine x_aload_n C 0 rfl rfl dX7_aimed_0 ?_
  refine x_iload_n C 1 rfl rfl dX7_aimed_1 ?_
  refine x_iload_n C 2 rfl rfl dX7_aimed_2 ?_
  refine x_FV (w1 := ([] : va_W)) (wc := (wMo g am s fi tx dm th sa ln pa le sk nu h)) (w2 := ([] : va_W)) [.int (nI b), .int (nI k)] [] (wMo g am s fi tx dm th sa ln pa le sk nu h) C (k_X7_raw l g am s fi tx dm th sa ln pa le sk nu h (nI b) b rfl (nI k) k rfl (by omega) (by omega)) rfl yV_X7_raw wML_X7_60 rfl 0 rfl rfl rfl rfl (nle rfl) (nle rfl) (nle rfl) (nle rfl) (nle rfl) dX7_aimed_3 ?_
  refine x_aload_n C 0 rfl rfl dX7_aimed_6 ?_
  refine x_iload_n C 1 rfl rfl dX7_aimed_7 ?_
  refine x_iload_n C 2 rfl rfl dX7_aimed_8 ?_
  refine x_iconst C 2 (by decide) dX7_aimed_9 ?_
  refine x_FV (w1 := ([] : va_W)) (wc := (wMo g am s fi tx dm th sa ln pa le sk nu h)) (w2 := ([] : va_W)) [.int (nI b), .int (nI k), .int 2] [.int (sp_X7_raw s dm b k)] (wMo g am s fi tx dm th sa ln pa le sk nu h) C (k_X7_of l g am s fi tx dm th sa ln pa le sk nu h (nI b) b rfl (nI k) k rfl 2 2 rfl (by omega)) rfl yV_X7_of wML_X7_57 rfl 0 rfl rfl rfl rfl (nle rfl) (nle rfl) (nle rfl) (nle rfl) (nle rfl) dX7_aimed_10 ?_
  refine x_aload_n C 0 rfl rfl dX7_aimed_13 ?_
  refine x_iload_n C 1 rfl rfl dX7_aimed_14 ?_
  refine x_iload_n C 2 rfl rfl dX7_aimed_15 ?_
  refine x_iconst C 3 (by decide) dX7_aimed_16 ?_
  refine x_FV (w1 := ([] : va_W)) (wc := (wMo g am s fi tx dm th sa ln pa le sk nu h)) (w2 := ([] : va_W)) [.int (nI b), .int (nI k), .int 3] [.int (s (b + 87 + 10 * k + 2)), .int (sp_X7_raw s dm b k)] (wMo g am s fi tx dm th sa ln pa le sk nu h) C (k_X7_of l g am s fi tx dm th sa ln pa le sk nu h (nI b) b rfl (nI k) k rfl 3 3 rfl (by omega)) rfl yV_X7_of wML_X7_57 rfl 0 rfl rfl rfl rfl (nle rfl) (nle rfl) (nle rfl) (nle rfl) (nle rfl) dX7_aimed_17 ?_
  refine x_FS (w1 := ([] : va_W)) (wc := ([] : va_W)) (w2 := (wMo g am s fi tx dm th sa ln pa le sk nu h)) [.int (sp_X7_raw s dm b k), .int (s (b + 87 + 10 * k + 2)), .int (s (b + 87 + 10 * k + 3))] [] (wMo g am s fi tx dm th sa ln pa le sk nu h) C (k_X7_within l g (sp_X7_raw s dm b k) (s (b + 87 + 10 * k + 2)) (s (b + 87 + 10 * k + 3))) rfl yS_X7_within wML_X7_54 rfl rfl rfl (nle rfl) (nle rfl) (nle rfl) (nle rfl) (nle rfl) dX7_aimed_20 ?_
  exact x_iret C hr (nle rfl) (nle rfl) dX7_aimed_23 ⟨rfl, rfl⟩
set_option maxRecDepth 100000 in
theorem k_X7_aimOf (l : Launch) (g : xGt) (am : Nat → Nat) (s fi tx dm : Nat → Int32) (th sa ln pa le sk nu : Int32) (h : Int64) (x_b : Int32) (b : Nat) (e_b : x_b = nI b) (x_k : Int32) (k : Nat) (e_k : x_k = nI k) (hi : b + 156 ≤ 1560) (hm : rOk s b) (hk : k < 6) : xM l g.1 (xT g) yX7_aimOf (ws_ yX7_aimOf cX7_aimOf 3 (some .int)) (xRm 4 94 0 0) 0 0 [.ref (am 0), .int x_b, .int x_k] (wMo g am s fi tx dm th sa ln pa le sk nu h) (fun r9 w9 => r9 = some (.int (sp_X7_within (sp_X7_raw s (sp_dems s b dm 6) b k) (s (b + 87 + 10 * k + 2)) (s (b + 87 + 10 * k + 3)))) ∧ w9 = (wMo g am s fi tx (sp_dems s b dm 6) th sa ln pa le sk nu h)) (fun _ _ => False) := by
  subst e_b e_k
  refine x_start (own := RX7) (nm := "aimOf") rfl rfl (by decide +kernel) rfl (nle rfl) (fun p e σ m args below meth c A C hno hr => ?_)
  refine x_lve (lv' := [(0, .ref (am 0)), (1, .int (nI b)), (2, .int (nI k))]) rfl ?_
  refine x_aload_n C 0 rfl rfl dX7_aimOf_0 ?_
  refine x_iload_n C 1 rfl rfl dX7_aimOf_1 ?_
  refine x_GV (w1 := ([] : va_W)) (wc := (wMo g am s fi tx dm th sa ln pa le sk nu h)) (w2 := ([] : va_W)) [.int (nI b)] [] (wMo g am s fi tx (sp_dems s b dm 6) th sa ln pa le sk nu h) C (k_X7_demandsLaid l g am s fi tx dm th sa ln pa le sk nu h (nI b) b rfl (by omega) hm) rfl yV_X7_demandsLaid wML_X7_63 rfl 0 rfl rfl rfl rfl (nle rfl) (nle rfl) (nle rfl) (nle rfl) (nle rfl) dX7_aimOf_2 ?_
  refine x_aload_n C 0 rfl rfl dX7_aimOf_5 ?_
  refine x_iload_n C 1 rfl rfl dX7_aimOf_6 ?_
  refine x_iload_n C 2 rfl rfl dX7_aimOf_7 ?_
  refine x_FV (w1 := ([] : va_W)) (wc := (wMo g am s fi tx (sp_dems s b dm 6) th sa ln pa le sk nu h)) (w2 := ([] : va_W)) [.int (nI b), .int (nI k)] [] (wMo g am s fi tx (sp_dems s b dm 6) th sa ln pa le sk nu h) C (k_X7_aimed l g am s fi tx (sp_dems s b dm 6) th sa ln pa le sk nu h (nI b) b rfl (nI k) k rfl (by omega) (by omega)) rfl yV_X7_aimed wML_X7_67 rfl 0 rfl rfl rfl rfl (nle rfl) (nle rfl) (nle rfl) (nle rfl) (nle rfl) dX7_aimOf_8 ?_
  exact x_iret C hr (nle rfl) (nle rfl) dX7_aimOf_11 ⟨rfl, rfl⟩
