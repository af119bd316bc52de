theorem sp_moved_lo (s : Nat → Int32) (i j : Nat) (h : j < 87) : sp_X7_moved_s s i j = s j := by
  unfold sp_X7_moved_s
  simp only [upd]
  repeat' rw [if_neg (by omega)]
theorem sp_targ_lo (s dm : Nat → Int32) (zr zo : Int32) (a0 : Nat → Int32) (j : Nat) (h : j < 87) : ∀ i, sp_targ s dm zr zo a0 i j = a0 j
  | 0 => rfl
  | i + 1 => by
    have ih := sp_targ_lo s dm zr zo a0 j h i
    simp only [sp_targ, upd]
    rw [if_neg (by omega), ih]
theorem sp_frs_lo (s : Nat → Int32) (z : Int32) (a0 : Nat → Int32) (a1 : Int32) (j : Nat) (h : j < 87) : ∀ i, (sp_frs s z a0 a1 i).1 j = a0 j
  | 0 => rfl
  | i + 1 => by
    have ih := sp_frs_lo s z a0 a1 j h i
    simp only [sp_frs]
    split
    · exact (sp_moved_lo _ _ _ h).trans ih
    · first | exact ih | (rw [sp_moved_lo _ _ _ h]; exact ih) | (split <;> first | exact ih | (rw [sp_moved_lo _ _ _ h]; exact ih))
theorem sp_frame_lo (s dm : Nat → Int32) (z : Int32) (j : Nat) (h : j < 87) : (sp_frs s z (sp_fr3 s dm z) 0 6).1 j = s j := by
  rw [sp_frs_lo _ _ _ _ _ h]
  unfold sp_fr3
  simp only [upd]
  repeat' rw [if_neg (by omega)]
  unfold sp_fr2
  rw [sp_targ_lo _ _ _ _ _ _ h, sp_fr1_lo _ _ _ h]
def sp_fs (z : Int32) (a0 : (Nat → Int32)) (a1 : (Nat → Int32)) (a2 : Int32) : Nat → (Nat → Int32) × (Nat → Int32) × Int32
  | 0 => (a0, a1, a2)
  | i1 + 1 => ((sp_frs ((sp_fs z a0 a1 a2 i1).1) z (sp_fr3 ((sp_fs z a0 a1 a2 i1).1) ((sp_fs z a0 a1 a2 i1).2.1) z) 0 6).1, (sp_dems (sp_fr1 ((sp_fs z a0 a1 a2 i1).1) z) 0 ((sp_fs z a0 a1 a2 i1).2.1) 6), (((sp_fs z a0 a1 a2 i1).2.2) + ((sp_frs ((sp_fs z a0 a1 a2 i1).1) z (sp_fr3 ((sp_fs z a0 a1 a2 i1).1) ((sp_fs z a0 a1 a2 i1).2.1) z) 0 6).2)))
theorem sp_fs_lo (z : Int32) (a0 a1 : Nat → Int32) (a2 : Int32) (j : Nat) (h : j < 87) : ∀ i, (sp_fs z a0 a1 a2 i).1 j = a0 j
  | 0 => rfl
  | i + 1 => by
    have ih := sp_fs_lo z a0 a1 a2 j h i
    simp only [sp_fs]
    rw [sp_frame_lo _ _ _ _ h, ih]
set_option maxRecDepth 100000 in
theorem k_X7_framesSent (l : Launch) (g : xGt) (am : Nat → Nat) (s fi tx dm : Nat → Int32) (th sa ln pa le sk nu : Int32) (h : Int64) (x_n : Int32) (n : Nat) (e_n : x_n = nI n) (z : Int32) (b_z : z = 0 ∨ z = 1) (hn : n ≤ 50) (hm : rOk s 0) : xM l g.1 (xT g) yX7_framesSent (ws_ yX7_framesSent cX7_framesSent 5 (some .int)) (xRm 6 144 0 0) 0 0 [.ref (am 0), .int x_n, .int z] (wMo g am s fi tx dm th sa ln pa le sk nu h) (fun r9 w9 => r9 = some (.int ((sp_fs z s dm 0 (n + 0)).2.2)) ∧ w9 = (wMo g am ((sp_fs z s dm 0 (n + 0)).1) fi tx ((sp_fs z s dm 0 (n + 0)).2.1) th sa ln pa le sk nu h)) (fun _ _ => False) := by
  subst e_n
  refine x_start (own := RX7) (nm := "framesSent") rfl rfl (by decide +kernel) rfl (nle rfl) (fun p e σ m args below meth c A C hno hr => ?_)
  refine x_lve (lv' := [(0, .ref (am 0)), (1, .int (nI n)), (2, .int z)]) rfl ?_
  refine x_iconst C 0 (by decide) dX7_framesSent_0 ?_
  refine x_istore_n C [(3, .int 0), (0, .ref (am 0)), (1, .int (nI n)), (2, .int z)] rfl rfl (by decide) dX7_framesSent_1 ?_
  refine x_iconst C 0 (by decide) dX7_framesSent_2 ?_
  refine x_istore C [(4, .int 0), (3, .int 0), (0, .ref (am 0)), (1, .int (nI n)), (2, .int z)] rfl (by decide) dX7_framesSent_3 ?_
  suffices L1 : ∀ (n1 i1 : Nat), i1 + n1 = n + 0 → xW p l e _ σ m args below meth c g.1 A 5 0 0 _ (wMo g am ((sp_fs z s dm 0 i1).1) fi tx ((sp_fs z s dm 0 i1).2.1) th sa ln pa le sk nu h) [(4, .int (nI i1)), (3, .int ((sp_fs z s dm 0 i1).2.2)), (0, .ref (am 0)), (1, .int (nI n)), (2, .int z)] 5 [] by
    exact L1 (n + 0) 0 (by omega)
  intro n1
  induction n1 with
  | zero =>
    intro i1 hn1
    obtain rfl : i1 = n + 0 := by omega
    refine x_iload C 0 rfl dX7_framesSent_5 ?_
    refine x_iload_n C 3 rfl rfl dX7_framesSent_7 ?_
    refine x_icmp_ge C 25 (by decide) dX7_framesSent_8 (fun _ => ?_) (fun hz => absurd (xge rfl rfl (by omega) (by omega)) hz)
    refine x_iload_n C 1 rfl rfl dX7_framesSent_25 ?_
    exact x_iret C hr (nle rfl) (nle rfl) dX7_framesSent_26 ⟨rfl, rfl⟩
  | succ n1 ih1 =>
    intro i1 hn1
    refine x_iload C 0 rfl dX7_framesSent_5 ?_
    refine x_iload_n C 3 rfl rfl dX7_framesSent_7 ?_
    refine x_icmp_ge C 25 (by decide) dX7_framesSent_8 (fun hz => absurd hz (xnge rfl rfl (by omega) (by omega))) (fun _ => ?_)
    refine x_iload_n C 1 rfl rfl dX7_framesSent_11 ?_
    refine x_aload_n C 2 rfl rfl dX7_framesSent_12 ?_
    refine x_iload_n C 4 rfl rfl dX7_framesSent_13 ?_
    refine x_FV (w1 := ([] : va_W)) (wc := (wMo g am ((sp_fs z s dm 0 i1).1) fi tx ((sp_fs z s dm 0 i1).2.1) th sa ln pa le sk nu h)) (w2 := ([] : va_W)) [.int z] [.int ((sp_fs z s dm 0 i1).2.2)] (wMo g am ((sp_frs ((sp_fs z s dm 0 i1).1) z (sp_fr3 ((sp_fs z s dm 0 i1).1) ((sp_fs z s dm 0 i1).2.1) z) 0 6).1) fi tx (sp_dems (sp_fr1 ((sp_fs z s dm 0 i1).1) z) 0 ((sp_fs z s dm 0 i1).2.1) 6) th sa ln pa le sk nu h) C (k_X7_frame l g am ((sp_fs z s dm 0 i1).1) fi tx ((sp_fs z s dm 0 i1).2.1) th sa ln pa le sk nu h z b_z (rOk_of (fun k _ h2 => sp_fs_lo _ _ _ _ k (by omega) _) hm)) rfl yV_X7_frame wML_X7_81 rfl 0 rfl rfl rfl rfl (nle rfl) (nle rfl) (nle rfl) (nle rfl) (nle rfl) dX7_framesSent_14 ?_
    refine x_iadd C dX7_framesSent_17 ?_
    refine x_istore_n C [(3, .int (((sp_fs z s dm 0 i1).2.2) + ((sp_frs ((sp_fs z s dm 0 i1).1) z (sp_fr3 ((sp_fs z s dm 0 i1).1) ((sp_fs z s dm 0 i1).2.1) z) 0 6).2))), (4, .int (nI i1)), (0, .ref (am 0)), (1, .int (nI n)), (2, .int z)] rfl rfl (by decide) dX7_framesSent_18 ?_
    refine x_iinc C 1 (nI (i1 + 1)) [(4, .int (nI (i1 + 1))), (3, .int (((sp_fs z s dm 0 i1).2.2) + ((sp_frs ((sp_fs z s dm 0 i1).1) z (sp_fr3 ((sp_fs z s dm 0 i1).1) ((sp_fs z s dm 0 i1).2.1) z) 0 6).2))), (0, .ref (am 0)), (1, .int (nI n)), (2, .int z)] rfl (nI_add _ _) rfl (by decide) dX7_framesSent_19 ?_
    refine x_goto C 5 (by decide) dX7_framesSent_22 ?_
    have es1 : (sp_fs z s dm 0 (i1 + 1)) = ((sp_frs ((sp_fs z s dm 0 i1).1) z (sp_fr3 ((sp_fs z s dm 0 i1).1) ((sp_fs z s dm 0 i1).2.1) z) 0 6).1, (sp_dems (sp_fr1 ((sp_fs z s dm 0 i1).1) z) 0 ((sp_fs z s dm 0 i1).2.1) 6), (((sp_fs z s dm 0 i1).2.2) + ((sp_frs ((sp_fs z s dm 0 i1).1) z (sp_fr3 ((sp_fs z s dm 0 i1).1) ((sp_fs z s dm 0 i1).2.1) z) 0 6).2))) := rfl
    refine x_lve (lv' := [(4, .int (nI (i1 + 1))), (3, .int ((sp_fs z s dm 0 (i1 + 1)).2.2)), (0, .ref (am 0)), (1, .int (nI n)), (2, .int z)]) (by rw [es1]) ?_
    refine x_ws (ws' := (wMo g am ((sp_fs z s dm 0 (i1 + 1)).1) fi tx ((sp_fs z s dm 0 (i1 + 1)).2.1) th sa ln pa le sk nu h)) (by rw [es1]) ?_
    exact ih1 (i1 + 1) (by omega)
def sp_cp (f : Nat) (t : Nat) (a0 : (Nat → Int32)) : Nat → (Nat → Int32)
  | 0 => a0
  | i1 + 1 => (upd (sp_cp f t a0 i1) (156 * t + i1) ((sp_cp f t a0 i1) (156 * f + i1)))
set_option maxRecDepth 100000 in
theorem k_X7_copies (l : Launch) (g : xGt) (am : Nat → Nat) (s fi tx dm : Nat → Int32) (th sa ln pa le sk nu : Int32) (h : Int64) (x_f : Int32) (f : Nat) (e_f : x_f = nI f) (x_t : Int32) (t : Nat) (e_t : x_t = nI t) (hf : f < 10) (ht : t < 10) : xM l g.1 (xT g) yX7_copies (ws_ yX7_copies cX7_copies 4 none) (xRm 0 0 0 0) 0 0 [.ref (am 0), .int x_f, .int x_t] (wMo g am s fi tx dm th sa ln pa le sk nu h) (fun r9 w9 => r9 = none ∧ w9 = (wMo g am (sp_cp f t s 156) fi tx dm th sa ln pa le sk nu h)) (fun _ _ => False) := by
  subst e_f e_t
  refine x_start (own := RX7) (nm := "copies") rfl rfl (by decide +kernel) rfl (nle rfl) (fun p e σ m args below meth c A C hno hr => ?_)
  refine x_lve (lv' := [(0, .ref (am 0)), (1, .int (nI f)), (2, .int (nI t))]) rfl ?_
  refine x_iconst C 0 (by decide) dX7_copies_0 ?_
  refine x_istore_n C [(3, .int 0), (0, .ref (am 0)), (1, .int (nI f)), (2, .int (nI t))] rfl rfl (by decide) dX7_copies_1 ?_
  suffices L1 : ∀ (n1 i1 : Nat), i1 + n1 = 156 → xW p l e _ σ m args below meth c g.1 A 4 0 0 _ (wMo g am (sp_cp f t s i1) fi tx dm th sa ln pa le sk nu h) [(3, .int (nI i1)), (0, .ref (am 0)), (1, .int (nI f)), (2, .int (nI t))] 2 [] by
    exact L1 (156) 0 (by omega)
  intro n1
  induction n1 with
  | zero =>
    intro i1 hn1
    obtain rfl : i1 = 156 := by omega
    refine x_iload_n C 0 rfl rfl dX7_copies_2 ?_
    refine x_sipush C 156 (by decide) dX7_copies_3 ?_
    refine x_icmp_ge C 39 (by decide) dX7_copies_6 (fun _ => ?_) (fun hz => absurd (xge (show (156 : Int32) = nI 156 from rfl) rfl (by omega) (by omega)) hz)
    exact x_vret C hr (nle rfl) (nle rfl) dX7_copies_39 ⟨rfl, rfl⟩
  | succ n1 ih1 =>
    intro i1 hn1
    refine x_iload_n C 0 rfl rfl dX7_copies_2 ?_
    refine x_sipush C 156 (by decide) dX7_copies_3 ?_
    refine x_icmp_ge C 39 (by decide) dX7_copies_6 (fun hz => absurd hz (xnge (show (156 : Int32) = nI 156 from rfl) rfl (by omega) (by omega))) (fun _ => ?_)
    refine x_aload_n C 1 rfl rfl dX7_copies_9 ?_
    refine x_get C 0 7 1 rfl rfl wLy_X7 wFL_X7_7 rfl (by decide) rfl dX7_copies_10 ?_
    refine x_sipush C 156 (by decide) dX7_copies_13 ?_
    refine x_iload_n C 3 rfl rfl dX7_copies_16 ?_
    refine x_imulN C 156 t rfl rfl dX7_copies_17 ?_
    refine x_iload_n C 0 rfl rfl dX7_copies_18 ?_
    refine x_iaddN C (156 * t) i1 rfl rfl dX7_copies_19 ?_
    refine x_aload_n C 1 rfl rfl dX7_copies_20 ?_
    refine x_get C 0 7 1 rfl rfl wLy_X7 wFL_X7_7 rfl (by decide) rfl dX7_copies_21 ?_
    refine x_sipush C 156 (by decide) dX7_copies_24 ?_
    refine x_iload_n C 2 rfl rfl dX7_copies_27 ?_
    refine x_imulN C 156 f rfl rfl dX7_copies_28 ?_
    refine x_iload_n C 0 rfl rfl dX7_copies_29 ?_
    refine x_iaddN C (156 * f) i1 rfl rfl dX7_copies_30 ?_
    refine x_ialdN (f := (sp_cp f t s i1)) C 1 0 (156 * f + i1) rfl rfl rfl (by omega) (by decide) dX7_copies_31 ?_
    refine x_iastN (f := (sp_cp f t s i1)) C 1 0 (156 * t + i1) (wMo g am (upd (sp_cp f t s i1) (156 * t + i1) ((sp_cp f t s i1) (156 * f + i1))) fi tx dm th sa ln pa le sk nu h) rfl rfl rfl rfl (by omega) (by decide) dX7_copies_32 ?_
    refine x_iinc C 0 (nI (i1 + 1)) [(3, .int (nI (i1 + 1))), (0, .ref (am 0)), (1, .int (nI f)), (2, .int (nI t))] rfl (nI_add _ _) rfl (by decide) dX7_copies_33 ?_
    refine x_goto C 2 (by decide) dX7_copies_36 ?_
    exact ih1 (i1 + 1) (by omega)
def svN (x : Int32) : Nat := if x.toNatClampNeg < 6 then x.toNatClampNeg + 1 else 6
theorem svN_eq {x : Int32} (h : x = nI x.toNatClampNeg) (h6 : x.toNatClampNeg ≤ 6) : x + (if 6 ≤ x then (0 : Int32) else 1) = nI (svN x) := by
  have e6 : (6 : Int32) = nI 6 := rfl
  unfold svN
  by_cases c : x.toNatClampNeg < 6
  · rw [if_pos c]
    have hn : ¬ (6 : Int32) ≤ x := by rw [h]; exact nI_ge c (by decide)
    rw [if_neg hn]
    conv => lhs; rw [h]
    exact nI_1 _
  · rw [if_neg c]
    have e : x.toNatClampNeg = 6 := by omega
    rw [e] at h
    rw [h]
    rfl
theorem svN_le (x : Int32) : svN x ≤ 6 := by unfold svN; split <;> omega
def sp_sv  (a0 : (Nat → Int32)) : Nat → (Nat → Int32)
  | 0 => a0
  | i2 + 1 => (sp_cp (1 + i2 + 1) (1 + i2) (sp_sv a0 i2) 156)
def sp_X7_save_s (s : Nat → Int32) (sa : Int32) : Nat → Int32 := (if sa = 6 then (sp_cp 0 (svN sa) (sp_sv s 5) 156) else (sp_cp 0 (svN sa) s 156))
def sp_X7_save_sa (sa : Int32) : Int32 := (sa + (if 6 ≤ sa then (0 : Int32) else 1))
set_option maxRecDepth 100000 in
theorem k_X7_save (l : Launch) (g : xGt) (am : Nat → Nat) (s fi tx dm : Nat → Int32) (th sa ln pa le sk nu : Int32) (h : Int64) (hs : sa = nI (Int32.toNatClampNeg sa)) (hs6 : Int32.toNatClampNeg sa ≤ 6) : xM l g.1 (xT g) yX7_save (ws_ yX7_save cX7_save 2 none) (xRm 1 23 0 0) 0 0 [.ref (am 0)] (wMo g am s fi tx dm th sa ln pa le sk nu h) (fun r9 w9 => r9 = none ∧ w9 = (wMo g am (sp_X7_save_s s sa) fi tx dm th (sp_X7_save_sa sa) ln pa le sk nu h)) (fun _ _ => False) := by
  refine x_start (own := RX7) (nm := "save") rfl rfl (by decide +kernel) rfl (nle rfl) (fun p e σ m args below meth c A C hno hr => ?_)
  refine x_lve (lv' := [(0, .ref (am 0))]) rfl ?_
  refine x_iconst C 1 (by decide) dX7_save_0 ?_
  refine x_istore_n C [(1, .int 1), (0, .ref (am 0))] rfl rfl (by decide) dX7_save_1 ?_
  by_cases h1 : sa = 6
  · suffices L2 : ∀ (n2 i2 : Nat), i2 + n2 = 5 → xW p l e _ σ m args below meth c g.1 A 2 0 0 _ (wMo g am (sp_sv s i2) fi tx dm th sa ln pa le sk nu h) [(1, .int (nI (1 + i2))), (0, .ref (am 0))] 2 [] by
      exact L2 (5) 0 (by omega)
    intro n2
    induction n2 with
    | zero =>
      intro i2 hn2
      obtain rfl : i2 = 5 := by omega
      refine x_iload_n C 0 rfl rfl dX7_save_2 ?_
      refine x_bipush C 6 (by decide) dX7_save_3 ?_
      refine x_icmp_ge C 31 (by decide) dX7_save_5 (fun _ => ?_) (fun hz => absurd (xge (show (6 : Int32) = nI 6 from rfl) rfl (by omega) (by omega)) hz)
      refine x_aload_n C 1 rfl rfl dX7_save_31 ?_
      refine x_dup C rfl dX7_save_32 ?_
      refine x_get C 0 7 2 rfl rfl wLy_X7 wFL_X7_85 rfl (by decide) rfl dX7_save_33 ?_
      refine x_aload_n C 1 rfl rfl dX7_save_36 ?_
      refine x_get C 0 7 2 rfl rfl wLy_X7 wFL_X7_85 rfl (by decide) rfl dX7_save_37 ?_
      refine x_bipush C 6 (by decide) dX7_save_40 ?_
      suffices K4 : xW p l e _ σ m args below meth c g.1 A 2 0 0 _ (wMo g am (sp_sv s 5) fi tx dm th sa ln pa le sk nu h) [(1, .int (nI (1 + 5))), (0, .ref (am 0))] 50 [.int (if 6 ≤ sa then (0 : Int32) else 1), .int sa, .ref (am 0)] by
        refine x_icmp_ge C 49 (by decide) dX7_save_42 (fun h3 => ?_) (fun h3 => ?_)
        · refine x_iconst C 0 (by decide) dX7_save_49 ?_
          refine x_st (st' := [.int (if 6 ≤ sa then (0 : Int32) else 1), .int sa, .ref (am 0)]) (by simp only [if_pos h3]) ?_
          exact K4
        · refine x_iconst C 1 (by decide) dX7_save_45 ?_
          refine x_goto C 50 (by decide) dX7_save_46 ?_
          refine x_st (st' := [.int (if 6 ≤ sa then (0 : Int32) else 1), .int sa, .ref (am 0)]) (by simp only [if_neg h3]) ?_
          exact K4
      refine x_iadd C dX7_save_50 ?_
      refine x_put C 0 7 2 tyX7 (wMo g am (sp_sv s 5) fi tx dm th (sa + (if 6 ≤ sa then (0 : Int32) else 1)) ln pa le sk nu h) rfl rfl rfl wLy_X7 tyX7_ok nmX7 wFL_X7_85 rfl (by decide) rfl rfl rfl rfl (nlt rfl) dX7_save_51 ?_
      refine x_aload_n C 1 rfl rfl dX7_save_54 ?_
      refine x_iconst C 0 (by decide) dX7_save_55 ?_
      refine x_aload_n C 1 rfl rfl dX7_save_56 ?_
      refine x_get C 0 7 2 rfl rfl wLy_X7 wFL_X7_85 rfl (by decide) rfl dX7_save_57 ?_
      refine x_GV (w1 := ([] : va_W)) (wc := (wMo g am (sp_sv s 5) fi tx dm th (sa + (if 6 ≤ sa then (0 : Int32) else 1)) ln pa le sk nu h)) (w2 := ([] : va_W)) [.int 0, .int (sa + (if 6 ≤ sa then (0 : Int32) else 1))] [] (wMo g am (sp_cp 0 (svN sa) (sp_sv s 5) 156) fi tx dm th (sa + (if 6 ≤ sa then (0 : Int32) else 1)) ln pa le sk nu h) C (k_X7_copies l g am (sp_sv s 5) fi tx dm th (sa + (if 6 ≤ sa then (0 : Int32) else 1)) ln pa le sk nu h 0 0 rfl (sa + (if 6 ≤ sa then (0 : Int32) else 1)) (svN sa) (svN_eq hs hs6) (by omega) (by have := svN_le sa; omega)) rfl yV_X7_copies wML_X7_88 rfl 0 rfl rfl rfl rfl (nle rfl) (nle rfl) (nle rfl) (nle rfl) (nle rfl) dX7_save_60 ?_
      exact x_vret C hr (nle rfl) (nle rfl) dX7_save_63 ⟨rfl, (by first | (simp only [sp_X7_save_s, sp_X7_save_sa, if_pos h1]; done) | (simp only [sp_X7_save_s, sp_X7_save_sa, if_pos h1]; rfl))⟩
    | succ n2 ih2 =>
      intro i2 hn2
      refine x_iload_n C 0 rfl rfl dX7_save_2 ?_
      refine x_bipush C 6 (by decide) dX7_save_3 ?_
      refine x_icmp_ge C 31 (by decide) dX7_save_5 (fun hz => absurd hz (xnge (show (6 : Int32) = nI 6 from rfl) rfl (by omega) (by omega))) (fun _ => ?_)
      refine x_aload_n C 1 rfl rfl dX7_save_8 ?_
      refine x_get C 0 7 2 rfl rfl wLy_X7 wFL_X7_85 rfl (by decide) rfl dX7_save_9 ?_
      refine x_bipush C 6 (by decide) dX7_save_12 ?_
      refine x_icmp_ne C 31 (by decide) dX7_save_14 (fun hz => absurd h1 hz) (fun _ => ?_)
      refine x_aload_n C 1 rfl rfl dX7_save_17 ?_
      refine x_iload_n C 0 rfl rfl dX7_save_18 ?_
      refine x_iconst C 1 (by decide) dX7_save_19 ?_
      refine x_iaddN C (1 + i2) 1 rfl rfl dX7_save_20 ?_
      refine x_iload_n C 0 rfl rfl dX7_save_21 ?_
      refine x_GV (w1 := ([] : va_W)) (wc := (wMo g am (sp_sv s i2) fi tx dm th sa ln pa le sk nu h)) (w2 := ([] : va_W)) [.int (nI (1 + i2 + 1)), .int (nI (1 + i2))] [] (wMo g am (sp_cp (1 + i2 + 1) (1 + i2) (sp_sv s i2) 156) fi tx dm th sa ln pa le sk nu h) C (k_X7_copies l g am (sp_sv s i2) fi tx dm th sa ln pa le sk nu h (nI (1 + i2 + 1)) (1 + i2 + 1) rfl (nI (1 + i2)) (1 + i2) rfl (by omega) (by omega)) rfl yV_X7_copies wML_X7_88 rfl 0 rfl rfl rfl rfl (nle rfl) (nle rfl) (nle rfl) (nle rfl) (nle rfl) dX7_save_22 ?_
      refine x_iinc C 0 (nI (1 + i2 + 1)) [(1, .int (nI (1 + i2 + 1))), (0, .ref (am 0))] rfl (nI_add _ _) rfl (by decide) dX7_save_25 ?_
      refine x_goto C 2 (by decide) dX7_save_28 ?_
      exact ih2 (i2 + 1) (by omega)
  · refine x_iload_n C 0 rfl rfl dX7_save_2 ?_
    refine x_bipush C 6 (by decide) dX7_save_3 ?_
    refine x_icmp_ge C 31 (by decide) dX7_save_5 (fun hz => absurd hz (by decide)) (fun _ => ?_)
    refine x_aload_n C 1 rfl rfl dX7_save_8 ?_
    refine x_get C 0 7 2 rfl rfl wLy_X7 wFL_X7_85 rfl (by decide) rfl dX7_save_9 ?_
    refine x_bipush C 6 (by decide) dX7_save_12 ?_
    refine x_icmp_ne C 31 (by decide) dX7_save_14 (fun _ => ?_) (fun hz => absurd hz h1)
    refine x_aload_n C 1 rfl rfl dX7_save_31 ?_
    refine x_dup C rfl dX7_save_32 ?_
    refine x_get C 0 7 2 rfl rfl wLy_X7 wFL_X7_85 rfl (by decide) rfl dX7_save_33 ?_
    refine x_aload_n C 1 rfl rfl dX7_save_36 ?_
    refine x_get C 0 7 2 rfl rfl wLy_X7 wFL_X7_85 rfl (by decide) rfl dX7_save_37 ?_
    refine x_bipush C 6 (by decide) dX7_save_40 ?_
    suffices K6 : xW p l e _ σ m args below meth c g.1 A 2 0 0 _ (wMo g am s fi tx dm th sa ln pa le sk nu h) [(1, .int 1), (0, .ref (am 0))] 50 [.int (if 6 ≤ sa then (0 : Int32) else 1), .int sa, .ref (am 0)] by
      refine x_icmp_ge C 49 (by decide) dX7_save_42 (fun h5 => ?_) (fun h5 => ?_)
      · refine x_iconst C 0 (by decide) dX7_save_49 ?_
        refine x_st (st' := [.int (if 6 ≤ sa then (0 : Int32) else 1), .int sa, .ref (am 0)]) (by simp only [if_pos h5]) ?_
        exact K6
      · refine x_iconst C 1 (by decide) dX7_save_45 ?_
        refine x_goto C 50 (by decide) dX7_save_46 ?_
        refine x_st (st' := [.int (if 6 ≤ sa then (0 : Int32) else 1), .int sa, .ref (am 0)]) (by simp only [if_neg h5]) ?_
        exact K6
    refine x_iadd C dX7_save_50 ?_
    refine x_put C 0 7 2 tyX7 (wMo g am s fi tx dm th (sa + (if 6 ≤ sa then (0 : Int32) else 1)) ln pa le sk nu h) rfl rfl rfl wLy_X7 tyX7_ok nmX7 wFL_X7_85 rfl (by decide) rfl rfl rfl rfl (nlt rfl) dX7_save_51 ?_
    refine x_aload_n C 1 rfl rfl dX7_save_54 ?_
    refine x_iconst C 0 (by decide) dX7_save_55 ?_
    refine x_aload_n C 1 rfl rfl dX7_save_56 ?_
    refine x_get C 0 7 2 rfl rfl wLy_X7 wFL_X7_85 rfl (by decide) rfl dX7_save_57 ?_
    refine x_GV (w1 := ([] : va_W)) (wc := (wMo g am s fi tx dm th (sa + (if 6 ≤ sa then (0 : Int32) else 1)) ln pa le sk nu h)) (w2 := ([] : va_W)) [.int 0, .int (sa + (if 6 ≤ sa then (0 : Int32) else 1))] [] (wMo g am (sp_cp 0 (svN sa) s 156) fi tx dm th (sa + (if 6 ≤ sa then (0 : Int32) else 1)) ln pa le sk nu h) C (k_X7_copies l g am s fi tx dm th (sa + (if 6 ≤ sa then (0 : Int32) else 1)) ln pa le sk nu h 0 0 rfl (sa + (if 6 ≤ sa then (0 : Int32) else 1)) (svN sa) (svN_eq hs hs6) (by omega) (by have := svN_le sa; omega)) rfl yV_X7_copies wML_X7_88 rfl 0 rfl rfl rfl rfl (nle rfl) (nle rfl) (nle rfl) (nle rfl) (nle rfl) dX7_save_60 ?_
    exact x_vret C hr (nle rfl) (nle rfl) dX7_save_63 ⟨rfl, (by first | (simp only [sp_X7_save_s, sp_X7_save_sa, if_neg h1]; done) | (simp only [sp_X7_save_s, sp_X7_save_sa, if_neg h1]; rfl))⟩
set_option maxRecDepth 100000 in
theorem k_X7_changed (l : Launch) (g : xGt) (am : Nat → Nat) (s fi tx dm : Nat → Int32) (th sa ln pa le sk nu : Int32) (h : Int64) (x_pl : Int32) (pl : Nat) (e_pl : x_pl = nI pl) (v : Int32) (hs : sa = nI (Int32.toNatClampNeg sa)) (hs6 : Int32.toNatClampNeg sa ≤ 6) (hp : pl < 156) : xM l g.1 (xT g) yX7_changed (ws_ yX7_changed cX7_changed 4 (some .int)) (xRm 2 44 0 0) 0 0 [.ref (am 0), .int x_pl, .int v] (wMo g am s fi tx dm th sa ln pa le sk nu h) (fun r9 w9 => r9 = some (.int ((sp_X7_save_s s sa) pl)) ∧ w9 = (wMo g am (upd (sp_X7_save_s s sa) pl v) fi tx dm th (sp_X7_save_sa sa) ln pa le sk nu h)) (fun _ _ => False) := by
  subst e_pl
  refine x_start (own := RX7) (nm := "changed") rfl rfl (by decide +kernel) rfl (nle rfl) (fun p e σ m args below meth c A C hno hr => ?_)
  refine x_lve (lv' := [(0, .ref (am 0)), (1, .int (nI pl)), (2, .int v)]) rfl ?_
  refine x_aload_n C 0 rfl rfl dX7_changed_0 ?_
  refine x_GV (w1 := ([] : va_W)) (wc := (wMo g am s fi tx dm th sa ln pa le sk nu h)) (w2 := ([] : va_W)) [] [] (wMo g am (sp_X7_save_s s sa) fi tx dm th (sp_X7_save_sa sa) ln pa le sk nu h) C (k_X7_save l g am s fi tx dm th sa ln pa le sk nu h hs hs6) rfl yV_X7_save wML_X7_92 rfl 0 rfl rfl rfl rfl (nle rfl) (nle rfl) (nle rfl) (nle rfl) (nle rfl) dX7_changed_1 ?_
  refine x_aload_n C 0 rfl rfl dX7_changed_4 ?_
  refine x_get C 0 7 1 rfl rfl wLy_X7 wFL_X7_7 rfl (by decide) rfl dX7_changed_5 ?_
  refine x_iload_n C 1 rfl rfl dX7_changed_8 ?_
  refine x_ialdN (f := (sp_X7_save_s s sa)) C 1 0 pl rfl rfl rfl (by omega) (by decide) dX7_changed_9 ?_
  refine x_istore_n C [(3, .int ((sp_X7_save_s s sa) pl)), (0, .ref (am 0)), (1, .int (nI pl)), (2, .int v)] rfl rfl (by decide) dX7_changed_10 ?_
  refine x_aload_n C 1 rfl rfl dX7_changed_11 ?_
  refine x_get C 0 7 1 rfl rfl wLy_X7 wFL_X7_7 rfl (by decide) rfl dX7_changed_12 ?_
  refine x_iload_n C 2 rfl rfl dX7_changed_15 ?_
  refine x_iload_n C 3 rfl rfl dX7_changed_16 ?_
  refine x_iastN (f := (sp_X7_save_s s sa)) C 1 0 pl (wMo g am (upd (sp_X7_save_s s sa) pl v) fi tx dm th (sp_X7_save_sa sa) ln pa le sk nu h) rfl rfl rfl rfl (by omega) (by decide) dX7_changed_17 ?_
  refine x_iload_n C 0 rfl rfl dX7_changed_18 ?_
  exact x_iret C hr (nle rfl) (nle rfl) dX7_changed_19 ⟨rfl, rfl⟩
def sp_X7_adds_s (s : Nat → Int32) (a1 : Int32) (a2 : Int32) (a3 : Int32) (a4 : Int32) (a5 : Int32) : Nat → Int32 := (upd (upd (upd (upd (upd (upd s (27 + 5 * (rN s 0) + 0) a1) (27 + 5 * (rN s 0) + 1) a2) (27 + 5 * (rN s 0) + 2) a3) (27 + 5 * (rN s 0) + 3) a4) (27 + 5 * (rN s 0) + 4) a5) 26 (((upd (upd (upd (upd (upd s (27 + 5 * (rN s 0) + 0) a1) (27 + 5 * (rN s 0) + 1) a2) (27 + 5 * (rN s 0) + 2) a3) (27 + 5 * (rN s 0) + 3) a4) (27 + 5 * (rN s 0) + 4) a5) 26) + 1))
set_option maxRecDepth 100000 in
theorem k_X7_adds (l : Launch) (g : xGt) (am : Nat → Nat) (s fi tx dm : Nat → Int32) (th sa ln pa le sk nu : Int32) (h : Int64) (a1 : Int32) (a2 : Int32) (a3 : Int32) (a4 : Int32) (a5 : Int32) (h26 : s 26 = nI (rN s 0)) (hlt : rN s 0 < 12) : xM l g.1 (xT g) yX7_adds (ws_ yX7_adds cX7_adds 7 none) (xRm 0 0 0 0) 0 0 [.ref (am 0), .int a1, .int a2, .int a3, .int a4, .int a5] (wMo g am s fi tx dm th sa ln pa le sk nu h) (fun r9 w9 => r9 = none ∧ w9 = (wMo g am (sp_X7_adds_s s a1 a2 a3 a4 a5) fi tx dm th sa ln pa le sk nu h)) (fun _ _ => False) := by
  refine x_start (own := RX7) (nm := "adds") rfl rfl (by decide +kernel) rfl (nle rfl) (fun p e σ m args below meth c A C hno hr => ?_)
  refine x_lve (lv' := [(0, .ref (am 0)), (1, .int a1), (2, .int a2), (3, .int a3), (4, .int a4), (5, .int a5)]) rfl ?_
  refine x_bipush C 27 (by decide) dX7_adds_0 ?_
  refine x_iconst C 5 (by decide) dX7_adds_2 ?_
  refine x_aload_n C 0 rfl rfl dX7_adds_3 ?_
  refine x_get C 0 7 1 rfl rfl wLy_X7 wFL_X7_7 rfl (by decide) rfl dX7_adds_4 ?_
  refine x_bipush C 26 (by decide) dX7_adds_7 ?_
  refine x_ialdN (f := s) C 1 0 26 rfl rfl rfl (by omega) (by decide) dX7_adds_9 ?_
  refine x_imulN C 5 (rN s 0) rfl h26 dX7_adds_10 ?_
  refine x_iaddN C 27 (5 * (rN s 0)) rfl rfl dX7_adds_11 ?_
  refine x_istore C [(6, .int (nI (27 + 5 * (rN s 0)))), (0, .ref (am 0)), (1, .int a1), (2, .int a2), (3, .int a3), (4, .int a4), (5, .int a5)] rfl (by decide) dX7_adds_12 ?_
  refine x_aload_n C 1 rfl rfl dX7_adds_14 ?_
  refine x_get C 0 7 1 rfl rfl wLy_X7 wFL_X7_7 rfl (by decide) rfl dX7_adds_15 ?_
  refine x_iload C 0 rfl dX7_adds_18 ?_
  refine x_iconst C 0 (by decide) dX7_adds_20 ?_
  refine x_iaddN C (27 + 5 * (rN s 0)) 0 rfl rfl dX7_adds_21 ?_
  refine x_iload_n C 2 rfl rfl dX7_adds_22 ?_
  refine x_iastN (f := s) C 1 0 (27 + 5 * (rN s 0) + 0) (wMo g am (upd s (27 + 5 * (rN s 0) + 0) a1) fi tx dm th sa ln pa le sk nu h) rfl rfl rfl rfl (by omega) (by decide) dX7_adds_23 ?_
  refine x_aload_n C 1 rfl rfl dX7_adds_24 ?_
  refine x_get C 0 7 1 rfl rfl wLy_X7 wFL_X7_7 rfl (by decide) rfl dX7_adds_25 ?_
  refine x_iload C 0 rfl dX7_adds_28 ?_
  refine x_iconst C 1 (by decide) dX7_adds_30 ?_
  refine x_iaddN C (27 + 5 * (rN s 0)) 1 rfl rfl dX7_adds_31 ?_
  refine x_iload_n C 3 rfl rfl dX7_adds_32 ?_
  refine x_iastN (f := (upd s (27 + 5 * (rN s 0) + 0) a1)) C 1 0 (27 + 5 * (rN s 0) + 1) (wMo g am (upd (upd s (27 + 5 * (rN s 0) + 0) a1) (27 + 5 * (rN s 0) + 1) a2) fi tx dm th sa ln pa le sk nu h) rfl rfl rfl rfl (by omega) (by decide) dX7_adds_33 ?_
  refine x_aload_n C 1 rfl rfl dX7_adds_34 ?_
  refine x_get C 0 7 1 rfl rfl wLy_X7 wFL_X7_7 rfl (by decide) rfl dX7_adds_35 ?_
  refine x_iload C 0 rfl dX7_adds_38 ?_
  refine x_iconst C 2 (by decide) dX7_adds_40 ?_
  refine x_iaddN C (27 + 5 * (rN s 0)) 2 rfl rfl dX7_adds_41 ?_
  refine x_iload_n C 4 rfl rfl dX7_adds_42 ?_
  refine x_iastN (f := (upd (upd s (27 + 5 * (rN s 0) + 0) a1) (27 + 5 * (rN s 0) + 1) a2)) C 1 0 (27 + 5 * (rN s 0) + 2) (wMo g am (upd (upd (upd s (27 + 5 * (rN s 0) + 0) a1) (27 + 5 * (rN s 0) + 1) a2) (27 + 5 * (rN s 0) + 2) a3) fi tx dm th sa ln pa le sk nu h) rfl rfl rfl rfl (by omega) (by decide) dX7_adds_43 ?_
  refine x_aload_n C 1 rfl rfl dX7_adds_44 ?_
  refine x_get C 0 7 1 rfl rfl wLy_X7 wFL_X7_7 rfl (by decide) rfl dX7_adds_45 ?_
  refine x_iload C 0 rfl dX7_adds_48 ?_
  refine x_iconst C 3 (by decide) dX7_adds_50 ?_
  refine x_iaddN C (27 + 5 * (rN s 0)) 3 rfl rfl dX7_adds_51 ?_
  refine x_iload C 5 rfl dX7_adds_52 ?_
  refine x_iastN (f := (upd (upd (upd s (27 + 5 * (rN s 0) + 0) a1) (27 + 5 * (rN s 0) + 1) a2) (27 + 5 * (rN s 0) + 2) a3)) C 1 0 (27 + 5 * (rN s 0) + 3) (wMo g am (upd (upd (upd (upd s (27 + 5 * (rN s 0) + 0) a1) (27 + 5 * (rN s 0) + 1) a2) (27 + 5 * (rN s 0) + 2) a3) (27 + 5 * (rN s 0) + 3) a4) fi tx dm th sa ln pa le sk nu h) rfl rfl rfl rfl (by omega) (by decide) dX7_adds_54 ?_
  refine x_aload_n C 1 rfl rfl dX7_adds_55 ?_
  refine x_get C 0 7 1 rfl rfl wLy_X7 wFL_X7_7 rfl (by decide) rfl dX7_adds_56 ?_
  refine x_iload C 0 rfl dX7_adds_59 ?_
  refine x_iconst C 4 (by decide) dX7_adds_61 ?_
  refine x_iaddN C (27 + 5 * (rN s 0)) 4 rfl rfl dX7_adds_62 ?_
  refine x_iload C 6 rfl dX7_adds_63 ?_
  refine x_iastN (f := (upd (upd (upd (upd s (27 + 5 * (rN s 0) + 0) a1) (27 + 5 * (rN s 0) + 1) a2) (27 + 5 * (rN s 0) + 2) a3) (27 + 5 * (rN s 0) + 3) a4)) C 1 0 (27 + 5 * (rN s 0) + 4) (wMo g am (upd (upd (upd (upd (upd s (27 + 5 * (rN s 0) + 0) a1) (27 + 5 * (rN s 0) + 1) a2) (27 + 5 * (rN s 0) + 2) a3) (27 + 5 * (rN s 0) + 3) a4) (27 + 5 * (rN s 0) + 4) a5) fi tx dm th sa ln pa le sk nu h) rfl rfl rfl rfl (by omega) (by decide) dX7_adds_65 ?_
  refine x_aload_n C 1 rfl rfl dX7_adds_66 ?_
  refine x_get C 0 7 1 rfl rfl wLy_X7 wFL_X7_7 rfl (by decide) rfl dX7_adds_67 ?_
  refine x_bipush C 26 (by decide) dX7_adds_70 ?_
  refine x_dup2 C rfl rfl dX7_adds_72 ?_
  refine x_ialdN (f := (upd (upd (upd (upd (upd s (27 + 5 * (rN s 0) + 0) a1) (27 + 5 * (rN s 0) + 1) a2) (27 + 5 * (rN s 0) + 2) a3) (27 + 5 * (rN s 0) + 3) a4) (27 + 5 * (rN s 0) + 4) a5)) C 1 0 26 rfl rfl rfl (by omega) (by decide) dX7_adds_73 ?_
  refine x_iconst C 1 (by decide) dX7_adds_74 ?_
  refine x_iadd C dX7_adds_75 ?_
  refine x_iastN (f := (upd (upd (upd (upd (upd s (27 + 5 * (rN s 0) + 0) a1) (27 + 5 * (rN s 0) + 1) a2) (27 + 5 * (rN s 0) + 2) a3) (27 + 5 * (rN s 0) + 3) a4) (27 + 5 * (rN s 0) + 4) a5)) C 1 0 26 (wMo g am (upd (upd (upd (upd (upd (upd s (27 + 5 * (rN s 0) + 0) a1) (27 + 5 * (rN s 0) + 1) a2) (27 + 5 * (rN s 0) + 2) a3) (27 + 5 * (rN s 0) + 3) a4) (27 + 5 * (rN s 0) + 4) a5) 26 (((upd (upd (upd (upd (upd s (27 + 5 * (rN s 0) + 0) a1) (27 + 5 * (rN s 0) + 1) a2) (27 + 5 * (rN s 0) + 2) a3) (27 + 5 * (rN s 0) + 3) a4) (27 + 5 * (rN s 0) + 4) a5) 26) + 1)) fi tx dm th sa ln pa le sk nu h) rfl rfl rfl rfl (by omega) (by decide) dX7_adds_76 ?_
  exact x_vret C hr (nle rfl) (nle rfl) dX7_adds_77 ⟨rfl, (by first | (simp only [sp_X7_adds_s]; done) | (simp only [sp_X7_adds_s]; rfl))⟩
